theorem dX6_init_0 : decode cX6_init 0 = .ok (.aload_n 0, 1) := by decide +kernel
theorem dX6_init_1 : decode cX6_init 1 = .ok (.invokespecial 3, 3) := by decide +kernel
theorem dX6_init_4 : decode cX6_init 4 = .ok (.aload_n 0, 1) := by decide +kernel
theorem dX6_init_5 : decode cX6_init 5 = .ok (.new 9, 3) := by decide +kernel
theorem dX6_init_8 : decode cX6_init 8 = .ok (.dup, 1) := by decide +kernel
theorem dX6_init_9 : decode cX6_init 9 = .ok (.invokespecial 11, 3) := by decide +kernel
theorem dX6_init_12 : decode cX6_init 12 = .ok (.putfield 12, 3) := by decide +kernel
theorem dX6_init_15 : decode cX6_init 15 = .ok (.aload_n 0, 1) := by decide +kernel
theorem dX6_init_16 : decode cX6_init 16 = .ok (.new 16, 3) := by decide +kernel
theorem dX6_init_19 : decode cX6_init 19 = .ok (.dup, 1) := by decide +kernel
theorem dX6_init_20 : decode cX6_init 20 = .ok (.invokespecial 18, 3) := by decide +kernel
theorem dX6_init_23 : decode cX6_init 23 = .ok (.putfield 19, 3) := by decide +kernel
theorem dX6_init_26 : decode cX6_init 26 = .ok (.aload_n 0, 1) := by decide +kernel
theorem dX6_init_27 : decode cX6_init 27 = .ok (.new 23, 3) := by decide +kernel
theorem dX6_init_30 : decode cX6_init 30 = .ok (.dup, 1) := by decide +kernel
theorem dX6_init_31 : decode cX6_init 31 = .ok (.invokespecial 25, 3) := by decide +kernel
theorem dX6_init_34 : decode cX6_init 34 = .ok (.putfield 26, 3) := by decide +kernel
theorem dX6_init_37 : decode cX6_init 37 = .ok (.aload_n 0, 1) := by decide +kernel
theorem dX6_init_38 : decode cX6_init 38 = .ok (.new 30, 3) := by decide +kernel
theorem dX6_init_41 : decode cX6_init 41 = .ok (.dup, 1) := by decide +kernel
theorem dX6_init_42 : decode cX6_init 42 = .ok (.invokespecial 32, 3) := by decide +kernel
theorem dX6_init_45 : decode cX6_init 45 = .ok (.putfield 33, 3) := by decide +kernel
theorem dX6_init_48 : decode cX6_init 48 = .ok (.aload_n 0, 1) := by decide +kernel
theorem dX6_init_49 : decode cX6_init 49 = .ok (.new 37, 3) := by decide +kernel
theorem dX6_init_52 : decode cX6_init 52 = .ok (.dup, 1) := by decide +kernel
theorem dX6_init_53 : decode cX6_init 53 = .ok (.invokespecial 39, 3) := by decide +kernel
theorem dX6_init_56 : decode cX6_init 56 = .ok (.putfield 40, 3) := by decide +kernel
theorem dX6_init_59 : decode cX6_init 59 = .ok (.return_, 1) := by decide +kernel
theorem dX6_letter_0 : decode cX6_letter 0 = .ok (.iload_n 1, 1) := by decide +kernel
theorem dX6_letter_1 : decode cX6_letter 1 = .ok (.bipush 32, 2) := by decide +kernel
theorem dX6_letter_3 : decode cX6_letter 3 = .ok (.if_icmp .lt 9, 3) := by decide +kernel
theorem dX6_letter_6 : decode cX6_letter 6 = .ok (.iload_n 1, 1) := by decide +kernel
theorem dX6_letter_7 : decode cX6_letter 7 = .ok (.bipush 126, 2) := by decide +kernel
theorem dX6_letter_9 : decode cX6_letter 9 = .ok (.if_icmp .le 7, 3) := by decide +kernel
theorem dX6_letter_12 : decode cX6_letter 12 = .ok (.ldc2_w 44, 3) := by decide +kernel
theorem dX6_letter_15 : decode cX6_letter 15 = .ok (.lreturn, 1) := by decide +kernel
theorem dX6_letter_16 : decode cX6_letter 16 = .ok (.aload_n 0, 1) := by decide +kernel
theorem dX6_letter_17 : decode cX6_letter 17 = .ok (.getfield 12, 3) := by decide +kernel
theorem dX6_letter_20 : decode cX6_letter 20 = .ok (.invokevirtual 46, 3) := by decide +kernel
theorem dX6_letter_23 : decode cX6_letter 23 = .ok (.ifCond .eq 7, 3) := by decide +kernel
theorem dX6_letter_26 : decode cX6_letter 26 = .ok (.ldc2_w 50, 3) := by decide +kernel
theorem dX6_letter_29 : decode cX6_letter 29 = .ok (.lreturn, 1) := by decide +kernel
theorem dX6_letter_30 : decode cX6_letter 30 = .ok (.aload_n 0, 1) := by decide +kernel
theorem dX6_letter_31 : decode cX6_letter 31 = .ok (.getfield 12, 3) := by decide +kernel
theorem dX6_letter_34 : decode cX6_letter 34 = .ok (.iload_n 1, 1) := by decide +kernel
theorem dX6_letter_35 : decode cX6_letter 35 = .ok (.invokevirtual 52, 3) := by decide +kernel
theorem dX6_letter_38 : decode cX6_letter 38 = .ok (.aload_n 0, 1) := by decide +kernel
theorem dX6_letter_39 : decode cX6_letter 39 = .ok (.getfield 12, 3) := by decide +kernel
theorem dX6_letter_42 : decode cX6_letter 42 = .ok (.getfield 56, 3) := by decide +kernel
theorem dX6_letter_45 : decode cX6_letter 45 = .ok (.i2l, 1) := by decide +kernel
theorem dX6_letter_46 : decode cX6_letter 46 = .ok (.lreturn, 1) := by decide +kernel
theorem dX6_blank_0 : decode cX6_blank 0 = .ok (.aload_n 0, 1) := by decide +kernel
theorem dX6_blank_1 : decode cX6_blank 1 = .ok (.getfield 12, 3) := by decide +kernel
theorem dX6_blank_4 : decode cX6_blank 4 = .ok (.getfield 56, 3) := by decide +kernel
theorem dX6_blank_7 : decode cX6_blank 7 = .ok (.i2l, 1) := by decide +kernel
theorem dX6_blank_8 : decode cX6_blank 8 = .ok (.lstore_n 1, 1) := by decide +kernel
theorem dX6_blank_9 : decode cX6_blank 9 = .ok (.aload_n 0, 1) := by decide +kernel
theorem dX6_blank_10 : decode cX6_blank 10 = .ok (.getfield 12, 3) := by decide +kernel
theorem dX6_blank_13 : decode cX6_blank 13 = .ok (.invokevirtual 60, 3) := by decide +kernel
theorem dX6_blank_16 : decode cX6_blank 16 = .ok (.lload_n 1, 1) := by decide +kernel
theorem dX6_blank_17 : decode cX6_blank 17 = .ok (.lreturn, 1) := by decide +kernel
theorem dX6_fault_0 : decode cX6_fault 0 = .ok (.aload_n 0, 1) := by decide +kernel
theorem dX6_fault_1 : decode cX6_fault 1 = .ok (.getfield 19, 3) := by decide +kernel
theorem dX6_fault_4 : decode cX6_fault 4 = .ok (.aload_n 0, 1) := by decide +kernel
theorem dX6_fault_5 : decode cX6_fault 5 = .ok (.getfield 12, 3) := by decide +kernel
theorem dX6_fault_8 : decode cX6_fault 8 = .ok (.invokevirtual 63, 3) := by decide +kernel
theorem dX6_fault_11 : decode cX6_fault 11 = .ok (.i2l, 1) := by decide +kernel
theorem dX6_fault_12 : decode cX6_fault 12 = .ok (.lreturn, 1) := by decide +kernel
theorem dX6_sources_0 : decode cX6_sources 0 = .ok (.aload_n 0, 1) := by decide +kernel
theorem dX6_sources_1 : decode cX6_sources 1 = .ok (.getfield 19, 3) := by decide +kernel
theorem dX6_sources_4 : decode cX6_sources 4 = .ok (.aload_n 0, 1) := by decide +kernel
theorem dX6_sources_5 : decode cX6_sources 5 = .ok (.getfield 12, 3) := by decide +kernel
theorem dX6_sources_8 : decode cX6_sources 8 = .ok (.invokevirtual 63, 3) := by decide +kernel
theorem dX6_sources_11 : decode cX6_sources 11 = .ok (.aload_n 0, 1) := by decide +kernel
theorem dX6_sources_12 : decode cX6_sources 12 = .ok (.getfield 12, 3) := by decide +kernel
theorem dX6_sources_15 : decode cX6_sources 15 = .ok (.getfield 56, 3) := by decide +kernel
theorem dX6_sources_18 : decode cX6_sources 18 = .ok (.if_icmp .lt 13, 3) := by decide +kernel
theorem dX6_sources_21 : decode cX6_sources 21 = .ok (.aload_n 0, 1) := by decide +kernel
theorem dX6_sources_22 : decode cX6_sources 22 = .ok (.getfield 19, 3) := by decide +kernel
theorem dX6_sources_25 : decode cX6_sources 25 = .ok (.invokevirtual 67, 3) := by decide +kernel
theorem dX6_sources_28 : decode cX6_sources 28 = .ok (.ifCond .ne 7, 3) := by decide +kernel
theorem dX6_sources_31 : decode cX6_sources 31 = .ok (.ldc2_w 70, 3) := by decide +kernel
theorem dX6_sources_34 : decode cX6_sources 34 = .ok (.lreturn, 1) := by decide +kernel
theorem dX6_sources_35 : decode cX6_sources 35 = .ok (.aload_n 0, 1) := by decide +kernel
theorem dX6_sources_36 : decode cX6_sources 36 = .ok (.getfield 26, 3) := by decide +kernel
theorem dX6_sources_39 : decode cX6_sources 39 = .ok (.aload_n 0, 1) := by decide +kernel
theorem dX6_sources_40 : decode cX6_sources 40 = .ok (.getfield 19, 3) := by decide +kernel
theorem dX6_sources_43 : decode cX6_sources 43 = .ok (.invokevirtual 72, 3) := by decide +kernel
theorem dX6_sources_46 : decode cX6_sources 46 = .ok (.aload_n 0, 1) := by decide +kernel
theorem dX6_sources_47 : decode cX6_sources 47 = .ok (.getfield 12, 3) := by decide +kernel
theorem dX6_sources_50 : decode cX6_sources 50 = .ok (.invokevirtual 60, 3) := by decide +kernel
theorem dX6_sources_53 : decode cX6_sources 53 = .ok (.aload_n 0, 1) := by decide +kernel
theorem dX6_sources_54 : decode cX6_sources 54 = .ok (.dup, 1) := by decide +kernel
theorem dX6_sources_55 : decode cX6_sources 55 = .ok (.getfield 76, 3) := by decide +kernel
theorem dX6_sources_58 : decode cX6_sources 58 = .ok (.lconst 1, 1) := by decide +kernel
theorem dX6_sources_59 : decode cX6_sources 59 = .ok (.ladd, 1) := by decide +kernel
theorem dX6_sources_60 : decode cX6_sources 60 = .ok (.putfield 76, 3) := by decide +kernel
theorem dX6_sources_63 : decode cX6_sources 63 = .ok (.aload_n 0, 1) := by decide +kernel
theorem dX6_sources_64 : decode cX6_sources 64 = .ok (.getfield 26, 3) := by decide +kernel
theorem dX6_sources_67 : decode cX6_sources 67 = .ok (.getfield 80, 3) := by decide +kernel
theorem dX6_sources_70 : decode cX6_sources 70 = .ok (.i2l, 1) := by decide +kernel
theorem dX6_sources_71 : decode cX6_sources 71 = .ok (.lreturn, 1) := by decide +kernel
theorem dX6_set_0 : decode cX6_set 0 = .ok (.aload_n 0, 1) := by decide +kernel
theorem dX6_set_1 : decode cX6_set 1 = .ok (.getfield 26, 3) := by decide +kernel
theorem dX6_set_4 : decode cX6_set 4 = .ok (.iload_n 1, 1) := by decide +kernel
theorem dX6_set_5 : decode cX6_set 5 = .ok (.invokevirtual 83, 3) := by decide +kernel
theorem dX6_set_8 : decode cX6_set 8 = .ok (.ifCond .ne 7, 3) := by decide +kernel
theorem dX6_set_11 : decode cX6_set 11 = .ok (.ldc2_w 87, 3) := by decide +kernel
theorem dX6_set_14 : decode cX6_set 14 = .ok (.lreturn, 1) := by decide +kernel
theorem dX6_set_15 : decode cX6_set 15 = .ok (.iload_n 2, 1) := by decide +kernel
theorem dX6_set_16 : decode cX6_set 16 = .ok (.ifCond .ne 24, 3) := by decide +kernel
theorem dX6_set_19 : decode cX6_set 19 = .ok (.iload_n 3, 1) := by decide +kernel
theorem dX6_set_20 : decode cX6_set 20 = .ok (.invokestatic 89, 3) := by decide +kernel
theorem dX6_set_23 : decode cX6_set 23 = .ok (.ifCond .eq 13, 3) := by decide +kernel
theorem dX6_set_26 : decode cX6_set 26 = .ok (.aload_n 0, 1) := by decide +kernel
theorem dX6_set_27 : decode cX6_set 27 = .ok (.iconst 4, 1) := by decide +kernel
theorem dX6_set_28 : decode cX6_set 28 = .ok (.iload_n 1, 1) := by decide +kernel
theorem dX6_set_29 : decode cX6_set 29 = .ok (.iload_n 3, 1) := by decide +kernel
theorem dX6_set_30 : decode cX6_set 30 = .ok (.invokevirtual 92, 3) := by decide +kernel
theorem dX6_set_33 : decode cX6_set 33 = .ok (.goto 6, 3) := by decide +kernel
theorem dX6_set_36 : decode cX6_set 36 = .ok (.ldc2_w 44, 3) := by decide +kernel
theorem dX6_set_39 : decode cX6_set 39 = .ok (.lreturn, 1) := by decide +kernel
theorem dX6_set_40 : decode cX6_set 40 = .ok (.iload_n 2, 1) := by decide +kernel
theorem dX6_set_41 : decode cX6_set 41 = .ok (.iconst 1, 1) := by decide +kernel
theorem dX6_set_42 : decode cX6_set 42 = .ok (.if_icmp .ne 46, 3) := by decide +kernel
theorem dX6_set_45 : decode cX6_set 45 = .ok (.iload_n 3, 1) := by decide +kernel
theorem dX6_set_46 : decode cX6_set 46 = .ok (.iconst 1, 1) := by decide +kernel
theorem dX6_set_47 : decode cX6_set 47 = .ok (.if_icmp .lt 41, 3) := by decide +kernel
theorem dX6_set_50 : decode cX6_set 50 = .ok (.iload_n 3, 1) := by decide +kernel
theorem dX6_set_51 : decode cX6_set 51 = .ok (.iconst 5, 1) := by decide +kernel
theorem dX6_set_52 : decode cX6_set 52 = .ok (.if_icmp .gt 36, 3) := by decide +kernel
theorem dX6_set_55 : decode cX6_set 55 = .ok (.aload_n 0, 1) := by decide +kernel
theorem dX6_set_56 : decode cX6_set 56 = .ok (.getfield 26, 3) := by decide +kernel
theorem dX6_set_59 : decode cX6_set 59 = .ok (.iload_n 1, 1) := by decide +kernel
theorem dX6_set_60 : decode cX6_set 60 = .ok (.invokevirtual 96, 3) := by decide +kernel
theorem dX6_set_63 : decode cX6_set 63 = .ok (.i2l, 1) := by decide +kernel
theorem dX6_set_64 : decode cX6_set 64 = .ok (.lstore 4, 2) := by decide +kernel
theorem dX6_set_66 : decode cX6_set 66 = .ok (.aload_n 0, 1) := by decide +kernel
theorem dX6_set_67 : decode cX6_set 67 = .ok (.getfield 26, 3) := by decide +kernel
theorem dX6_set_70 : decode cX6_set 70 = .ok (.iload_n 1, 1) := by decide +kernel
theorem dX6_set_71 : decode cX6_set 71 = .ok (.iload_n 3, 1) := by decide +kernel
theorem dX6_set_72 : decode cX6_set 72 = .ok (.invokevirtual 100, 3) := by decide +kernel
theorem dX6_set_75 : decode cX6_set 75 = .ok (.aload_n 0, 1) := by decide +kernel
theorem dX6_set_76 : decode cX6_set 76 = .ok (.dup, 1) := by decide +kernel
theorem dX6_set_77 : decode cX6_set 77 = .ok (.getfield 104, 3) := by decide +kernel
theorem dX6_set_80 : decode cX6_set 80 = .ok (.lconst 1, 1) := by decide +kernel
theorem dX6_set_81 : decode cX6_set 81 = .ok (.ladd, 1) := by decide +kernel
theorem dX6_set_82 : decode cX6_set 82 = .ok (.putfield 104, 3) := by decide +kernel
theorem dX6_set_85 : decode cX6_set 85 = .ok (.lload 4, 2) := by decide +kernel
theorem dX6_set_87 : decode cX6_set 87 = .ok (.lreturn, 1) := by decide +kernel
theorem dX6_set_88 : decode cX6_set 88 = .ok (.ldc2_w 44, 3) := by decide +kernel
theorem dX6_set_91 : decode cX6_set 91 = .ok (.lreturn, 1) := by decide +kernel
theorem dX6_alter_0 : decode cX6_alter 0 = .ok (.aload_n 0, 1) := by decide +kernel
theorem dX6_alter_1 : decode cX6_alter 1 = .ok (.getfield 26, 3) := by decide +kernel
theorem dX6_alter_4 : decode cX6_alter 4 = .ok (.iload_n 1, 1) := by decide +kernel
theorem dX6_alter_5 : decode cX6_alter 5 = .ok (.invokevirtual 107, 3) := by decide +kernel
theorem dX6_alter_8 : decode cX6_alter 8 = .ok (.ifCond .eq 14, 3) := by decide +kernel
theorem dX6_alter_11 : decode cX6_alter 11 = .ok (.aload_n 0, 1) := by decide +kernel
theorem dX6_alter_12 : decode cX6_alter 12 = .ok (.getfield 26, 3) := by decide +kernel
theorem dX6_alter_15 : decode cX6_alter 15 = .ok (.iload_n 2, 1) := by decide +kernel
theorem dX6_alter_16 : decode cX6_alter 16 = .ok (.invokevirtual 83, 3) := by decide +kernel
theorem dX6_alter_19 : decode cX6_alter 19 = .ok (.ifCond .ne 7, 3) := by decide +kernel
theorem dX6_alter_22 : decode cX6_alter 22 = .ok (.ldc2_w 87, 3) := by decide +kernel
theorem dX6_alter_25 : decode cX6_alter 25 = .ok (.lreturn, 1) := by decide +kernel
theorem dX6_alter_26 : decode cX6_alter 26 = .ok (.iload_n 3, 1) := by decide +kernel
theorem dX6_alter_27 : decode cX6_alter 27 = .ok (.invokestatic 89, 3) := by decide +kernel
theorem dX6_alter_30 : decode cX6_alter 30 = .ok (.ifCond .eq 13, 3) := by decide +kernel
theorem dX6_alter_33 : decode cX6_alter 33 = .ok (.aload_n 0, 1) := by decide +kernel
theorem dX6_alter_34 : decode cX6_alter 34 = .ok (.iload_n 1, 1) := by decide +kernel
theorem dX6_alter_35 : decode cX6_alter 35 = .ok (.iload_n 2, 1) := by decide +kernel
theorem dX6_alter_36 : decode cX6_alter 36 = .ok (.iload_n 3, 1) := by decide +kernel
theorem dX6_alter_37 : decode cX6_alter 37 = .ok (.invokevirtual 92, 3) := by decide +kernel
theorem dX6_alter_40 : decode cX6_alter 40 = .ok (.goto 6, 3) := by decide +kernel
theorem dX6_alter_43 : decode cX6_alter 43 = .ok (.ldc2_w 44, 3) := by decide +kernel
theorem dX6_alter_46 : decode cX6_alter 46 = .ok (.lreturn, 1) := by decide +kernel
theorem dX6_made_0 : decode cX6_made 0 = .ok (.aload_n 0, 1) := by decide +kernel
theorem dX6_made_1 : decode cX6_made 1 = .ok (.getfield 26, 3) := by decide +kernel
theorem dX6_made_4 : decode cX6_made 4 = .ok (.getfield 80, 3) := by decide +kernel
theorem dX6_made_7 : decode cX6_made 7 = .ok (.ifCond .ne 7, 3) := by decide +kernel
theorem dX6_made_10 : decode cX6_made 10 = .ok (.ldc2_w 70, 3) := by decide +kernel
theorem dX6_made_13 : decode cX6_made 13 = .ok (.lreturn, 1) := by decide +kernel
theorem dX6_made_14 : decode cX6_made 14 = .ok (.iload_n 1, 1) := by decide +kernel
theorem dX6_made_15 : decode cX6_made 15 = .ok (.iconst 1, 1) := by decide +kernel
theorem dX6_made_16 : decode cX6_made 16 = .ok (.if_icmp .lt 17, 3) := by decide +kernel
theorem dX6_made_19 : decode cX6_made 19 = .ok (.iload_n 1, 1) := by decide +kernel
theorem dX6_made_20 : decode cX6_made 20 = .ok (.aload_n 0, 1) := by decide +kernel
theorem dX6_made_21 : decode cX6_made 21 = .ok (.getfield 26, 3) := by decide +kernel
theorem dX6_made_24 : decode cX6_made 24 = .ok (.getfield 80, 3) := by decide +kernel
theorem dX6_made_27 : decode cX6_made 27 = .ok (.invokestatic 110, 3) := by decide +kernel
theorem dX6_made_30 : decode cX6_made 30 = .ok (.if_icmp .lt 7, 3) := by decide +kernel
theorem dX6_made_33 : decode cX6_made 33 = .ok (.ldc2_w 44, 3) := by decide +kernel
theorem dX6_made_36 : decode cX6_made 36 = .ok (.lreturn, 1) := by decide +kernel
theorem dX6_made_37 : decode cX6_made 37 = .ok (.iload_n 1, 1) := by decide +kernel
theorem dX6_made_38 : decode cX6_made 38 = .ok (.invokestatic 113, 3) := by decide +kernel
theorem dX6_made_41 : decode cX6_made 41 = .ok (.istore_n 2, 1) := by decide +kernel
theorem dX6_made_42 : decode cX6_made 42 = .ok (.iconst 0, 1) := by decide +kernel
theorem dX6_made_43 : decode cX6_made 43 = .ok (.istore_n 3, 1) := by decide +kernel
theorem dX6_made_44 : decode cX6_made 44 = .ok (.iload_n 3, 1) := by decide +kernel
theorem dX6_made_45 : decode cX6_made 45 = .ok (.iconst 4, 1) := by decide +kernel
theorem dX6_made_46 : decode cX6_made 46 = .ok (.if_icmp .ge 29, 3) := by decide +kernel
theorem dX6_made_49 : decode cX6_made 49 = .ok (.aload_n 0, 1) := by decide +kernel
theorem dX6_made_50 : decode cX6_made 50 = .ok (.getfield 26, 3) := by decide +kernel
theorem dX6_made_53 : decode cX6_made 53 = .ok (.iload_n 3, 1) := by decide +kernel
theorem dX6_made_54 : decode cX6_made 54 = .ok (.iload_n 1, 1) := by decide +kernel
theorem dX6_made_55 : decode cX6_made 55 = .ok (.invokevirtual 116, 3) := by decide +kernel
theorem dX6_made_58 : decode cX6_made 58 = .ok (.iload_n 2, 1) := by decide +kernel
theorem dX6_made_59 : decode cX6_made 59 = .ok (.invokestatic 120, 3) := by decide +kernel
theorem dX6_made_62 : decode cX6_made 62 = .ok (.ifCond .ne 7, 3) := by decide +kernel
theorem dX6_made_65 : decode cX6_made 65 = .ok (.ldc2_w 70, 3) := by decide +kernel
theorem dX6_made_68 : decode cX6_made 68 = .ok (.lreturn, 1) := by decide +kernel
theorem dX6_made_69 : decode cX6_made 69 = .ok (.iinc 3 1, 3) := by decide +kernel
theorem dX6_made_72 : decode cX6_made 72 = .ok (.goto (-28), 3) := by decide +kernel
theorem dX6_made_75 : decode cX6_made 75 = .ok (.iconst 0, 1) := by decide +kernel
theorem dX6_made_76 : decode cX6_made 76 = .ok (.istore_n 3, 1) := by decide +kernel
theorem dX6_made_77 : decode cX6_made 77 = .ok (.iload_n 3, 1) := by decide +kernel
theorem dX6_made_78 : decode cX6_made 78 = .ok (.iconst 4, 1) := by decide +kernel
theorem dX6_made_79 : decode cX6_made 79 = .ok (.if_icmp .ge 31, 3) := by decide +kernel
theorem dX6_made_82 : decode cX6_made 82 = .ok (.aload_n 0, 1) := by decide +kernel
theorem dX6_made_83 : decode cX6_made 83 = .ok (.getfield 26, 3) := by decide +kernel
theorem dX6_made_86 : decode cX6_made 86 = .ok (.iconst 4, 1) := by decide +kernel
theorem dX6_made_87 : decode cX6_made 87 = .ok (.iload_n 3, 1) := by decide +kernel
theorem dX6_made_88 : decode cX6_made 88 = .ok (.aload_n 0, 1) := by decide +kernel
theorem dX6_made_89 : decode cX6_made 89 = .ok (.getfield 26, 3) := by decide +kernel
theorem dX6_made_92 : decode cX6_made 92 = .ok (.iload_n 3, 1) := by decide +kernel
theorem dX6_made_93 : decode cX6_made 93 = .ok (.iload_n 1, 1) := by decide +kernel
theorem dX6_made_94 : decode cX6_made 94 = .ok (.invokevirtual 116, 3) := by decide +kernel
theorem dX6_made_97 : decode cX6_made 97 = .ok (.iload_n 2, 1) := by decide +kernel
theorem dX6_made_98 : decode cX6_made 98 = .ok (.invokestatic 124, 3) := by decide +kernel
theorem dX6_made_101 : decode cX6_made 101 = .ok (.invokevirtual 127, 3) := by decide +kernel
theorem dX6_made_104 : decode cX6_made 104 = .ok (.iinc 3 1, 3) := by decide +kernel
theorem dX6_made_107 : decode cX6_made 107 = .ok (.goto (-30), 3) := by decide +kernel
theorem dX6_made_110 : decode cX6_made 110 = .ok (.aload_n 0, 1) := by decide +kernel
theorem dX6_made_111 : decode cX6_made 111 = .ok (.dup, 1) := by decide +kernel
theorem dX6_made_112 : decode cX6_made 112 = .ok (.getfield 104, 3) := by decide +kernel
theorem dX6_made_115 : decode cX6_made 115 = .ok (.lconst 1, 1) := by decide +kernel
theorem dX6_made_116 : decode cX6_made 116 = .ok (.ladd, 1) := by decide +kernel
theorem dX6_made_117 : decode cX6_made 117 = .ok (.putfield 104, 3) := by decide +kernel
theorem dX6_made_120 : decode cX6_made 120 = .ok (.iload_n 2, 1) := by decide +kernel
theorem dX6_made_121 : decode cX6_made 121 = .ok (.i2l, 1) := by decide +kernel
theorem dX6_made_122 : decode cX6_made 122 = .ok (.lreturn, 1) := by decide +kernel
theorem dX6_has_0 : decode cX6_has 0 = .ok (.aload_n 0, 1) := by decide +kernel
theorem dX6_has_1 : decode cX6_has 1 = .ok (.getfield 26, 3) := by decide +kernel
theorem dX6_has_4 : decode cX6_has 4 = .ok (.iload_n 1, 1) := by decide +kernel
theorem dX6_has_5 : decode cX6_has 5 = .ok (.invokevirtual 107, 3) := by decide +kernel
theorem dX6_has_8 : decode cX6_has 8 = .ok (.ifCond .ne 7, 3) := by decide +kernel
theorem dX6_has_11 : decode cX6_has 11 = .ok (.ldc2_w 87, 3) := by decide +kernel
theorem dX6_has_14 : decode cX6_has 14 = .ok (.lreturn, 1) := by decide +kernel
theorem dX6_has_15 : decode cX6_has 15 = .ok (.iload_n 2, 1) := by decide +kernel
theorem dX6_has_16 : decode cX6_has 16 = .ok (.ifCond .lt 8, 3) := by decide +kernel
theorem dX6_has_19 : decode cX6_has 19 = .ok (.iload_n 2, 1) := by decide +kernel
theorem dX6_has_20 : decode cX6_has 20 = .ok (.iconst 4, 1) := by decide +kernel
theorem dX6_has_21 : decode cX6_has 21 = .ok (.if_icmp .lt 7, 3) := by decide +kernel
theorem dX6_has_24 : decode cX6_has 24 = .ok (.ldc2_w 44, 3) := by decide +kernel
theorem dX6_has_27 : decode cX6_has 27 = .ok (.lreturn, 1) := by decide +kernel
theorem dX6_has_28 : decode cX6_has 28 = .ok (.aload_n 0, 1) := by decide +kernel
theorem dX6_has_29 : decode cX6_has 29 = .ok (.getfield 26, 3) := by decide +kernel
theorem dX6_has_32 : decode cX6_has 32 = .ok (.iload_n 2, 1) := by decide +kernel
theorem dX6_has_33 : decode cX6_has 33 = .ok (.invokevirtual 83, 3) := by decide +kernel
theorem dX6_has_36 : decode cX6_has 36 = .ok (.ifCond .eq 16, 3) := by decide +kernel
theorem dX6_has_39 : decode cX6_has 39 = .ok (.aload_n 0, 1) := by decide +kernel
theorem dX6_has_40 : decode cX6_has 40 = .ok (.getfield 26, 3) := by decide +kernel
theorem dX6_has_43 : decode cX6_has 43 = .ok (.iload_n 1, 1) := by decide +kernel
theorem dX6_has_44 : decode cX6_has 44 = .ok (.iload_n 2, 1) := by decide +kernel
theorem dX6_has_45 : decode cX6_has 45 = .ok (.invokevirtual 130, 3) := by decide +kernel
theorem dX6_has_48 : decode cX6_has 48 = .ok (.i2l, 1) := by decide +kernel
theorem dX6_has_49 : decode cX6_has 49 = .ok (.goto 6, 3) := by decide +kernel
theorem dX6_has_52 : decode cX6_has 52 = .ok (.ldc2_w 133, 3) := by decide +kernel
theorem dX6_has_55 : decode cX6_has 55 = .ok (.lreturn, 1) := by decide +kernel
theorem dX6_tracer_0 : decode cX6_tracer 0 = .ok (.aload_n 0, 1) := by decide +kernel
theorem dX6_tracer_1 : decode cX6_tracer 1 = .ok (.getfield 26, 3) := by decide +kernel
theorem dX6_tracer_4 : decode cX6_tracer 4 = .ok (.iload_n 1, 1) := by decide +kernel
theorem dX6_tracer_5 : decode cX6_tracer 5 = .ok (.invokevirtual 83, 3) := by decide +kernel
theorem dX6_tracer_8 : decode cX6_tracer 8 = .ok (.ifCond .ne 7, 3) := by decide +kernel
theorem dX6_tracer_11 : decode cX6_tracer 11 = .ok (.ldc2_w 87, 3) := by decide +kernel
theorem dX6_tracer_14 : decode cX6_tracer 14 = .ok (.lreturn, 1) := by decide +kernel
theorem dX6_tracer_15 : decode cX6_tracer 15 = .ok (.iload_n 2, 1) := by decide +kernel
theorem dX6_tracer_16 : decode cX6_tracer 16 = .ok (.lookupswitch 49 #[(0, 28), (1, 39)], 28) := by decide +kernel
theorem dX6_tracer_44 : decode cX6_tracer 44 = .ok (.aload_n 0, 1) := by decide +kernel
theorem dX6_tracer_45 : decode cX6_tracer 45 = .ok (.getfield 26, 3) := by decide +kernel
theorem dX6_tracer_48 : decode cX6_tracer 48 = .ok (.iconst 4, 1) := by decide +kernel
theorem dX6_tracer_49 : decode cX6_tracer 49 = .ok (.iload_n 1, 1) := by decide +kernel
theorem dX6_tracer_50 : decode cX6_tracer 50 = .ok (.invokevirtual 130, 3) := by decide +kernel
theorem dX6_tracer_53 : decode cX6_tracer 53 = .ok (.i2l, 1) := by decide +kernel
theorem dX6_tracer_54 : decode cX6_tracer 54 = .ok (.lreturn, 1) := by decide +kernel
theorem dX6_tracer_55 : decode cX6_tracer 55 = .ok (.aload_n 0, 1) := by decide +kernel
theorem dX6_tracer_56 : decode cX6_tracer 56 = .ok (.getfield 26, 3) := by decide +kernel
theorem dX6_tracer_59 : decode cX6_tracer 59 = .ok (.iload_n 1, 1) := by decide +kernel
theorem dX6_tracer_60 : decode cX6_tracer 60 = .ok (.invokevirtual 96, 3) := by decide +kernel
theorem dX6_tracer_63 : decode cX6_tracer 63 = .ok (.i2l, 1) := by decide +kernel
theorem dX6_tracer_64 : decode cX6_tracer 64 = .ok (.lreturn, 1) := by decide +kernel
theorem dX6_tracer_65 : decode cX6_tracer 65 = .ok (.ldc2_w 44, 3) := by decide +kernel
theorem dX6_tracer_68 : decode cX6_tracer 68 = .ok (.lreturn, 1) := by decide +kernel
theorem dX6_alike_0 : decode cX6_alike 0 = .ok (.aload_n 0, 1) := by decide +kernel
theorem dX6_alike_1 : decode cX6_alike 1 = .ok (.getfield 26, 3) := by decide +kernel
theorem dX6_alike_4 : decode cX6_alike 4 = .ok (.iload_n 1, 1) := by decide +kernel
theorem dX6_alike_5 : decode cX6_alike 5 = .ok (.invokevirtual 107, 3) := by decide +kernel
theorem dX6_alike_8 : decode cX6_alike 8 = .ok (.ifCond .ne 7, 3) := by decide +kernel
theorem dX6_alike_11 : decode cX6_alike 11 = .ok (.ldc2_w 87, 3) := by decide +kernel
theorem dX6_alike_14 : decode cX6_alike 14 = .ok (.lreturn, 1) := by decide +kernel
theorem dX6_alike_15 : decode cX6_alike 15 = .ok (.aload_n 0, 1) := by decide +kernel
theorem dX6_alike_16 : decode cX6_alike 16 = .ok (.getfield 26, 3) := by decide +kernel
theorem dX6_alike_19 : decode cX6_alike 19 = .ok (.iload_n 2, 1) := by decide +kernel
theorem dX6_alike_20 : decode cX6_alike 20 = .ok (.invokevirtual 135, 3) := by decide +kernel
theorem dX6_alike_23 : decode cX6_alike 23 = .ok (.ifCond .ne 7, 3) := by decide +kernel
theorem dX6_alike_26 : decode cX6_alike 26 = .ok (.ldc2_w 44, 3) := by decide +kernel
theorem dX6_alike_29 : decode cX6_alike 29 = .ok (.lreturn, 1) := by decide +kernel
theorem dX6_alike_30 : decode cX6_alike 30 = .ok (.aload_n 0, 1) := by decide +kernel
theorem dX6_alike_31 : decode cX6_alike 31 = .ok (.getfield 26, 3) := by decide +kernel
theorem dX6_alike_34 : decode cX6_alike 34 = .ok (.iload_n 1, 1) := by decide +kernel
theorem dX6_alike_35 : decode cX6_alike 35 = .ok (.iload_n 2, 1) := by decide +kernel
theorem dX6_alike_36 : decode cX6_alike 36 = .ok (.invokevirtual 138, 3) := by decide +kernel
theorem dX6_alike_39 : decode cX6_alike 39 = .ok (.i2l, 1) := by decide +kernel
theorem dX6_alike_40 : decode cX6_alike 40 = .ok (.lreturn, 1) := by decide +kernel
theorem dX6_best_0 : decode cX6_best 0 = .ok (.aload_n 0, 1) := by decide +kernel
theorem dX6_best_1 : decode cX6_best 1 = .ok (.getfield 26, 3) := by decide +kernel
theorem dX6_best_4 : decode cX6_best 4 = .ok (.getfield 80, 3) := by decide +kernel
theorem dX6_best_7 : decode cX6_best 7 = .ok (.ifCond .ne 7, 3) := by decide +kernel
theorem dX6_best_10 : decode cX6_best 10 = .ok (.ldc2_w 70, 3) := by decide +kernel
theorem dX6_best_13 : decode cX6_best 13 = .ok (.lreturn, 1) := by decide +kernel
theorem dX6_best_14 : decode cX6_best 14 = .ok (.aload_n 0, 1) := by decide +kernel
theorem dX6_best_15 : decode cX6_best 15 = .ok (.getfield 26, 3) := by decide +kernel
theorem dX6_best_18 : decode cX6_best 18 = .ok (.iload_n 1, 1) := by decide +kernel
theorem dX6_best_19 : decode cX6_best 19 = .ok (.invokevirtual 135, 3) := by decide +kernel
theorem dX6_best_22 : decode cX6_best 22 = .ok (.ifCond .eq 12, 3) := by decide +kernel
theorem dX6_best_25 : decode cX6_best 25 = .ok (.iload_n 2, 1) := by decide +kernel
theorem dX6_best_26 : decode cX6_best 26 = .ok (.ifCond .lt 8, 3) := by decide +kernel
theorem dX6_best_29 : decode cX6_best 29 = .ok (.iload_n 2, 1) := by decide +kernel
theorem dX6_best_30 : decode cX6_best 30 = .ok (.iconst 3, 1) := by decide +kernel
theorem dX6_best_31 : decode cX6_best 31 = .ok (.if_icmp .le 7, 3) := by decide +kernel
theorem dX6_best_34 : decode cX6_best 34 = .ok (.ldc2_w 44, 3) := by decide +kernel
theorem dX6_best_37 : decode cX6_best 37 = .ok (.lreturn, 1) := by decide +kernel
theorem dX6_best_38 : decode cX6_best 38 = .ok (.aload_n 0, 1) := by decide +kernel
theorem dX6_best_39 : decode cX6_best 39 = .ok (.getfield 33, 3) := by decide +kernel
theorem dX6_best_42 : decode cX6_best 42 = .ok (.aload_n 0, 1) := by decide +kernel
theorem dX6_best_43 : decode cX6_best 43 = .ok (.getfield 26, 3) := by decide +kernel
theorem dX6_best_46 : decode cX6_best 46 = .ok (.iload_n 1, 1) := by decide +kernel
theorem dX6_best_47 : decode cX6_best 47 = .ok (.invokevirtual 141, 3) := by decide +kernel
theorem dX6_best_50 : decode cX6_best 50 = .ok (.aload_n 0, 1) := by decide +kernel
theorem dX6_best_51 : decode cX6_best 51 = .ok (.iload_n 2, 1) := by decide +kernel
theorem dX6_best_52 : decode cX6_best 52 = .ok (.invokevirtual 145, 3) := by decide +kernel
theorem dX6_best_55 : decode cX6_best 55 = .ok (.lreturn, 1) := by decide +kernel
theorem dX6_share_0 : decode cX6_share 0 = .ok (.aload_n 0, 1) := by decide +kernel
theorem dX6_share_1 : decode cX6_share 1 = .ok (.getfield 26, 3) := by decide +kernel
theorem dX6_share_4 : decode cX6_share 4 = .ok (.iload_n 1, 1) := by decide +kernel
theorem dX6_share_5 : decode cX6_share 5 = .ok (.invokevirtual 107, 3) := by decide +kernel
theorem dX6_share_8 : decode cX6_share 8 = .ok (.ifCond .ne 7, 3) := by decide +kernel
theorem dX6_share_11 : decode cX6_share 11 = .ok (.ldc2_w 87, 3) := by decide +kernel
theorem dX6_share_14 : decode cX6_share 14 = .ok (.lreturn, 1) := by decide +kernel
theorem dX6_share_15 : decode cX6_share 15 = .ok (.aload_n 0, 1) := by decide +kernel
theorem dX6_share_16 : decode cX6_share 16 = .ok (.getfield 26, 3) := by decide +kernel
theorem dX6_share_19 : decode cX6_share 19 = .ok (.iload_n 2, 1) := by decide +kernel
theorem dX6_share_20 : decode cX6_share 20 = .ok (.invokevirtual 135, 3) := by decide +kernel
theorem dX6_share_23 : decode cX6_share 23 = .ok (.ifCond .eq 10, 3) := by decide +kernel
theorem dX6_share_26 : decode cX6_share 26 = .ok (.iload_n 3, 1) := by decide +kernel
theorem dX6_share_27 : decode cX6_share 27 = .ok (.invokestatic 149, 3) := by decide +kernel
theorem dX6_share_30 : decode cX6_share 30 = .ok (.ifCond .ne 7, 3) := by decide +kernel
theorem dX6_share_33 : decode cX6_share 33 = .ok (.ldc2_w 44, 3) := by decide +kernel
theorem dX6_share_36 : decode cX6_share 36 = .ok (.lreturn, 1) := by decide +kernel
theorem dX6_share_37 : decode cX6_share 37 = .ok (.aload_n 0, 1) := by decide +kernel
theorem dX6_share_38 : decode cX6_share 38 = .ok (.getfield 33, 3) := by decide +kernel
theorem dX6_share_41 : decode cX6_share 41 = .ok (.aload_n 0, 1) := by decide +kernel
theorem dX6_share_42 : decode cX6_share 42 = .ok (.getfield 26, 3) := by decide +kernel
theorem dX6_share_45 : decode cX6_share 45 = .ok (.iload_n 2, 1) := by decide +kernel
theorem dX6_share_46 : decode cX6_share 46 = .ok (.invokevirtual 141, 3) := by decide +kernel
theorem dX6_share_49 : decode cX6_share 49 = .ok (.aload_n 0, 1) := by decide +kernel
theorem dX6_share_50 : decode cX6_share 50 = .ok (.iload_n 1, 1) := by decide +kernel
theorem dX6_share_51 : decode cX6_share 51 = .ok (.iload_n 3, 1) := by decide +kernel
theorem dX6_share_52 : decode cX6_share 52 = .ok (.invokevirtual 152, 3) := by decide +kernel
theorem dX6_share_55 : decode cX6_share 55 = .ok (.lreturn, 1) := by decide +kernel
theorem dX6_press_0 : decode cX6_press 0 = .ok (.aload_n 0, 1) := by decide +kernel
theorem dX6_press_1 : decode cX6_press 1 = .ok (.getfield 26, 3) := by decide +kernel
theorem dX6_press_4 : decode cX6_press 4 = .ok (.iload_n 1, 1) := by decide +kernel
theorem dX6_press_5 : decode cX6_press 5 = .ok (.invokevirtual 107, 3) := by decide +kernel
theorem dX6_press_8 : decode cX6_press 8 = .ok (.ifCond .ne 7, 3) := by decide +kernel
theorem dX6_press_11 : decode cX6_press 11 = .ok (.ldc2_w 87, 3) := by decide +kernel
theorem dX6_press_14 : decode cX6_press 14 = .ok (.lreturn, 1) := by decide +kernel
theorem dX6_press_15 : decode cX6_press 15 = .ok (.aload_n 0, 1) := by decide +kernel
theorem dX6_press_16 : decode cX6_press 16 = .ok (.getfield 26, 3) := by decide +kernel
theorem dX6_press_19 : decode cX6_press 19 = .ok (.iload_n 2, 1) := by decide +kernel
theorem dX6_press_20 : decode cX6_press 20 = .ok (.invokevirtual 135, 3) := by decide +kernel
theorem dX6_press_23 : decode cX6_press 23 = .ok (.ifCond .eq 10, 3) := by decide +kernel
theorem dX6_press_26 : decode cX6_press 26 = .ok (.iload_n 3, 1) := by decide +kernel
theorem dX6_press_27 : decode cX6_press 27 = .ok (.invokestatic 149, 3) := by decide +kernel
theorem dX6_press_30 : decode cX6_press 30 = .ok (.ifCond .ne 7, 3) := by decide +kernel
theorem dX6_press_33 : decode cX6_press 33 = .ok (.ldc2_w 44, 3) := by decide +kernel
theorem dX6_press_36 : decode cX6_press 36 = .ok (.lreturn, 1) := by decide +kernel
theorem dX6_press_37 : decode cX6_press 37 = .ok (.aload_n 0, 1) := by decide +kernel
theorem dX6_press_38 : decode cX6_press 38 = .ok (.getfield 33, 3) := by decide +kernel
theorem dX6_press_41 : decode cX6_press 41 = .ok (.aload_n 0, 1) := by decide +kernel
theorem dX6_press_42 : decode cX6_press 42 = .ok (.getfield 26, 3) := by decide +kernel
theorem dX6_press_45 : decode cX6_press 45 = .ok (.iload_n 2, 1) := by decide +kernel
theorem dX6_press_46 : decode cX6_press 46 = .ok (.invokevirtual 141, 3) := by decide +kernel
theorem dX6_press_49 : decode cX6_press 49 = .ok (.aload_n 0, 1) := by decide +kernel
theorem dX6_press_50 : decode cX6_press 50 = .ok (.iload_n 1, 1) := by decide +kernel
theorem dX6_press_51 : decode cX6_press 51 = .ok (.iload_n 3, 1) := by decide +kernel
theorem dX6_press_52 : decode cX6_press 52 = .ok (.invokevirtual 156, 3) := by decide +kernel
theorem dX6_press_55 : decode cX6_press 55 = .ok (.lreturn, 1) := by decide +kernel
theorem dX6_mixed_0 : decode cX6_mixed 0 = .ok (.aload_n 0, 1) := by decide +kernel
theorem dX6_mixed_1 : decode cX6_mixed 1 = .ok (.getfield 26, 3) := by decide +kernel
theorem dX6_mixed_4 : decode cX6_mixed 4 = .ok (.iload_n 1, 1) := by decide +kernel
theorem dX6_mixed_5 : decode cX6_mixed 5 = .ok (.invokevirtual 83, 3) := by decide +kernel
theorem dX6_mixed_8 : decode cX6_mixed 8 = .ok (.ifCond .ne 7, 3) := by decide +kernel
theorem dX6_mixed_11 : decode cX6_mixed 11 = .ok (.ldc2_w 87, 3) := by decide +kernel
theorem dX6_mixed_14 : decode cX6_mixed 14 = .ok (.lreturn, 1) := by decide +kernel
theorem dX6_mixed_15 : decode cX6_mixed 15 = .ok (.aload_n 0, 1) := by decide +kernel
theorem dX6_mixed_16 : decode cX6_mixed 16 = .ok (.getfield 26, 3) := by decide +kernel
theorem dX6_mixed_19 : decode cX6_mixed 19 = .ok (.iload_n 2, 1) := by decide +kernel
theorem dX6_mixed_20 : decode cX6_mixed 20 = .ok (.invokevirtual 135, 3) := by decide +kernel
theorem dX6_mixed_23 : decode cX6_mixed 23 = .ok (.ifCond .eq 10, 3) := by decide +kernel
theorem dX6_mixed_26 : decode cX6_mixed 26 = .ok (.iload_n 3, 1) := by decide +kernel
theorem dX6_mixed_27 : decode cX6_mixed 27 = .ok (.invokestatic 149, 3) := by decide +kernel
theorem dX6_mixed_30 : decode cX6_mixed 30 = .ok (.ifCond .ne 7, 3) := by decide +kernel
theorem dX6_mixed_33 : decode cX6_mixed 33 = .ok (.ldc2_w 44, 3) := by decide +kernel
theorem dX6_mixed_36 : decode cX6_mixed 36 = .ok (.lreturn, 1) := by decide +kernel
theorem dX6_mixed_37 : decode cX6_mixed 37 = .ok (.aload_n 0, 1) := by decide +kernel
theorem dX6_mixed_38 : decode cX6_mixed 38 = .ok (.getfield 33, 3) := by decide +kernel
theorem dX6_mixed_41 : decode cX6_mixed 41 = .ok (.aload_n 0, 1) := by decide +kernel
theorem dX6_mixed_42 : decode cX6_mixed 42 = .ok (.getfield 26, 3) := by decide +kernel
theorem dX6_mixed_45 : decode cX6_mixed 45 = .ok (.iload_n 2, 1) := by decide +kernel
theorem dX6_mixed_46 : decode cX6_mixed 46 = .ok (.invokevirtual 141, 3) := by decide +kernel
theorem dX6_mixed_49 : decode cX6_mixed 49 = .ok (.aload_n 0, 1) := by decide +kernel
theorem dX6_mixed_50 : decode cX6_mixed 50 = .ok (.iload_n 1, 1) := by decide +kernel
theorem dX6_mixed_51 : decode cX6_mixed 51 = .ok (.iload_n 3, 1) := by decide +kernel
theorem dX6_mixed_52 : decode cX6_mixed 52 = .ok (.invokevirtual 159, 3) := by decide +kernel
theorem dX6_mixed_55 : decode cX6_mixed 55 = .ok (.lreturn, 1) := by decide +kernel
theorem dX6_corner_0 : decode cX6_corner 0 = .ok (.aload_n 0, 1) := by decide +kernel
theorem dX6_corner_1 : decode cX6_corner 1 = .ok (.getfield 26, 3) := by decide +kernel
theorem dX6_corner_4 : decode cX6_corner 4 = .ok (.getfield 80, 3) := by decide +kernel
theorem dX6_corner_7 : decode cX6_corner 7 = .ok (.ifCond .ne 7, 3) := by decide +kernel
theorem dX6_corner_10 : decode cX6_corner 10 = .ok (.ldc2_w 70, 3) := by decide +kernel
theorem dX6_corner_13 : decode cX6_corner 13 = .ok (.lreturn, 1) := by decide +kernel
theorem dX6_corner_14 : decode cX6_corner 14 = .ok (.aload_n 0, 1) := by decide +kernel
theorem dX6_corner_15 : decode cX6_corner 15 = .ok (.getfield 26, 3) := by decide +kernel
theorem dX6_corner_18 : decode cX6_corner 18 = .ok (.iload_n 1, 1) := by decide +kernel
theorem dX6_corner_19 : decode cX6_corner 19 = .ok (.invokevirtual 162, 3) := by decide +kernel
theorem dX6_corner_22 : decode cX6_corner 22 = .ok (.ifCond .eq 23, 3) := by decide +kernel
theorem dX6_corner_25 : decode cX6_corner 25 = .ok (.aload_n 0, 1) := by decide +kernel
theorem dX6_corner_26 : decode cX6_corner 26 = .ok (.getfield 26, 3) := by decide +kernel
theorem dX6_corner_29 : decode cX6_corner 29 = .ok (.iload_n 2, 1) := by decide +kernel
theorem dX6_corner_30 : decode cX6_corner 30 = .ok (.invokevirtual 135, 3) := by decide +kernel
theorem dX6_corner_33 : decode cX6_corner 33 = .ok (.ifCond .eq 12, 3) := by decide +kernel
theorem dX6_corner_36 : decode cX6_corner 36 = .ok (.iload_n 3, 1) := by decide +kernel
theorem dX6_corner_37 : decode cX6_corner 37 = .ok (.ifCond .lt 8, 3) := by decide +kernel
theorem dX6_corner_40 : decode cX6_corner 40 = .ok (.iload_n 3, 1) := by decide +kernel
theorem dX6_corner_41 : decode cX6_corner 41 = .ok (.iconst 2, 1) := by decide +kernel
theorem dX6_corner_42 : decode cX6_corner 42 = .ok (.if_icmp .le 7, 3) := by decide +kernel
theorem dX6_corner_45 : decode cX6_corner 45 = .ok (.ldc2_w 44, 3) := by decide +kernel
theorem dX6_corner_48 : decode cX6_corner 48 = .ok (.lreturn, 1) := by decide +kernel
theorem dX6_corner_49 : decode cX6_corner 49 = .ok (.aload_n 0, 1) := by decide +kernel
theorem dX6_corner_50 : decode cX6_corner 50 = .ok (.getfield 33, 3) := by decide +kernel
theorem dX6_corner_53 : decode cX6_corner 53 = .ok (.getfield 165, 3) := by decide +kernel
theorem dX6_corner_56 : decode cX6_corner 56 = .ok (.astore 4, 2) := by decide +kernel
theorem dX6_corner_58 : decode cX6_corner 58 = .ok (.aload 4, 2) := by decide +kernel
theorem dX6_corner_60 : decode cX6_corner 60 = .ok (.aload_n 0, 1) := by decide +kernel
theorem dX6_corner_61 : decode cX6_corner 61 = .ok (.getfield 26, 3) := by decide +kernel
theorem dX6_corner_64 : decode cX6_corner 64 = .ok (.iload_n 2, 1) := by decide +kernel
theorem dX6_corner_65 : decode cX6_corner 65 = .ok (.invokevirtual 169, 3) := by decide +kernel
theorem dX6_corner_68 : decode cX6_corner 68 = .ok (.aload 4, 2) := by decide +kernel
theorem dX6_corner_70 : decode cX6_corner 70 = .ok (.iload_n 1, 1) := by decide +kernel
theorem dX6_corner_71 : decode cX6_corner 71 = .ok (.invokevirtual 174, 3) := by decide +kernel
theorem dX6_corner_74 : decode cX6_corner 74 = .ok (.iload_n 3, 1) := by decide +kernel
theorem dX6_corner_75 : decode cX6_corner 75 = .ok (.ifCond .ne 17, 3) := by decide +kernel
theorem dX6_corner_78 : decode cX6_corner 78 = .ok (.aload 4, 2) := by decide +kernel
theorem dX6_corner_80 : decode cX6_corner 80 = .ok (.invokevirtual 177, 3) := by decide +kernel
theorem dX6_corner_83 : decode cX6_corner 83 = .ok (.ifCond .eq 7, 3) := by decide +kernel
theorem dX6_corner_86 : decode cX6_corner 86 = .ok (.lconst 1, 1) := by decide +kernel
theorem dX6_corner_87 : decode cX6_corner 87 = .ok (.goto 4, 3) := by decide +kernel
theorem dX6_corner_90 : decode cX6_corner 90 = .ok (.lconst 0, 1) := by decide +kernel
theorem dX6_corner_91 : decode cX6_corner 91 = .ok (.lreturn, 1) := by decide +kernel
theorem dX6_corner_92 : decode cX6_corner 92 = .ok (.aload 4, 2) := by decide +kernel
theorem dX6_corner_94 : decode cX6_corner 94 = .ok (.invokevirtual 180, 3) := by decide +kernel
theorem dX6_corner_97 : decode cX6_corner 97 = .ok (.ifCond .eq 17, 3) := by decide +kernel
theorem dX6_corner_100 : decode cX6_corner 100 = .ok (.aload 4, 2) := by decide +kernel
theorem dX6_corner_102 : decode cX6_corner 102 = .ok (.getfield 183, 3) := by decide +kernel
theorem dX6_corner_105 : decode cX6_corner 105 = .ok (.iload_n 3, 1) := by decide +kernel
theorem dX6_corner_106 : decode cX6_corner 106 = .ok (.iconst 1, 1) := by decide +kernel
theorem dX6_corner_107 : decode cX6_corner 107 = .ok (.isub, 1) := by decide +kernel
theorem dX6_corner_108 : decode cX6_corner 108 = .ok (.invokevirtual 186, 3) := by decide +kernel
theorem dX6_corner_111 : decode cX6_corner 111 = .ok (.goto 6, 3) := by decide +kernel
theorem dX6_corner_114 : decode cX6_corner 114 = .ok (.ldc2_w 133, 3) := by decide +kernel
theorem dX6_corner_117 : decode cX6_corner 117 = .ok (.lreturn, 1) := by decide +kernel
theorem dX6_count_0 : decode cX6_count 0 = .ok (.iload_n 1, 1) := by decide +kernel
theorem dX6_count_1 : decode cX6_count 1 = .ok (.tableswitch 72 0 4 #[35, 44, 53, 62, 67], 35) := by decide +kernel
theorem dX6_count_36 : decode cX6_count 36 = .ok (.aload_n 0, 1) := by decide +kernel
theorem dX6_count_37 : decode cX6_count 37 = .ok (.getfield 26, 3) := by decide +kernel
theorem dX6_count_40 : decode cX6_count 40 = .ok (.getfield 80, 3) := by decide +kernel
theorem dX6_count_43 : decode cX6_count 43 = .ok (.i2l, 1) := by decide +kernel
theorem dX6_count_44 : decode cX6_count 44 = .ok (.lreturn, 1) := by decide +kernel
theorem dX6_count_45 : decode cX6_count 45 = .ok (.aload_n 0, 1) := by decide +kernel
theorem dX6_count_46 : decode cX6_count 46 = .ok (.getfield 26, 3) := by decide +kernel
theorem dX6_count_49 : decode cX6_count 49 = .ok (.getfield 189, 3) := by decide +kernel
theorem dX6_count_52 : decode cX6_count 52 = .ok (.i2l, 1) := by decide +kernel
theorem dX6_count_53 : decode cX6_count 53 = .ok (.lreturn, 1) := by decide +kernel
theorem dX6_count_54 : decode cX6_count 54 = .ok (.aload_n 0, 1) := by decide +kernel
theorem dX6_count_55 : decode cX6_count 55 = .ok (.getfield 12, 3) := by decide +kernel
theorem dX6_count_58 : decode cX6_count 58 = .ok (.getfield 56, 3) := by decide +kernel
theorem dX6_count_61 : decode cX6_count 61 = .ok (.i2l, 1) := by decide +kernel
theorem dX6_count_62 : decode cX6_count 62 = .ok (.lreturn, 1) := by decide +kernel
theorem dX6_count_63 : decode cX6_count 63 = .ok (.aload_n 0, 1) := by decide +kernel
theorem dX6_count_64 : decode cX6_count 64 = .ok (.getfield 76, 3) := by decide +kernel
theorem dX6_count_67 : decode cX6_count 67 = .ok (.lreturn, 1) := by decide +kernel
theorem dX6_count_68 : decode cX6_count 68 = .ok (.aload_n 0, 1) := by decide +kernel
theorem dX6_count_69 : decode cX6_count 69 = .ok (.getfield 104, 3) := by decide +kernel
theorem dX6_count_72 : decode cX6_count 72 = .ok (.lreturn, 1) := by decide +kernel
theorem dX6_count_73 : decode cX6_count 73 = .ok (.ldc2_w 44, 3) := by decide +kernel
theorem dX6_count_76 : decode cX6_count 76 = .ok (.lreturn, 1) := by decide +kernel
theorem dX6_digest_0 : decode cX6_digest 0 = .ok (.aload_n 0, 1) := by decide +kernel
theorem dX6_digest_1 : decode cX6_digest 1 = .ok (.ldc2_w 192, 3) := by decide +kernel
theorem dX6_digest_4 : decode cX6_digest 4 = .ok (.invokevirtual 194, 3) := by decide +kernel
theorem dX6_digest_7 : decode cX6_digest 7 = .ok (.lstore_n 1, 1) := by decide +kernel
theorem dX6_digest_8 : decode cX6_digest 8 = .ok (.aload_n 0, 1) := by decide +kernel
theorem dX6_digest_9 : decode cX6_digest 9 = .ok (.getfield 26, 3) := by decide +kernel
theorem dX6_digest_12 : decode cX6_digest 12 = .ok (.getfield 80, 3) := by decide +kernel
theorem dX6_digest_15 : decode cX6_digest 15 = .ok (.ifCond .le 64, 3) := by decide +kernel
theorem dX6_digest_18 : decode cX6_digest 18 = .ok (.aload_n 0, 1) := by decide +kernel
theorem dX6_digest_19 : decode cX6_digest 19 = .ok (.getfield 26, 3) := by decide +kernel
theorem dX6_digest_22 : decode cX6_digest 22 = .ok (.invokevirtual 198, 3) := by decide +kernel
theorem dX6_digest_25 : decode cX6_digest 25 = .ok (.istore_n 3, 1) := by decide +kernel
theorem dX6_digest_26 : decode cX6_digest 26 = .ok (.aload_n 0, 1) := by decide +kernel
theorem dX6_digest_27 : decode cX6_digest 27 = .ok (.lload_n 1, 1) := by decide +kernel
theorem dX6_digest_28 : decode cX6_digest 28 = .ok (.iload_n 3, 1) := by decide +kernel
theorem dX6_digest_29 : decode cX6_digest 29 = .ok (.invokevirtual 202, 3) := by decide +kernel
theorem dX6_digest_32 : decode cX6_digest 32 = .ok (.lstore_n 1, 1) := by decide +kernel
theorem dX6_digest_33 : decode cX6_digest 33 = .ok (.iconst 0, 1) := by decide +kernel
theorem dX6_digest_34 : decode cX6_digest 34 = .ok (.istore 4, 2) := by decide +kernel
theorem dX6_digest_36 : decode cX6_digest 36 = .ok (.iload 4, 2) := by decide +kernel
theorem dX6_digest_38 : decode cX6_digest 38 = .ok (.aload_n 0, 1) := by decide +kernel
theorem dX6_digest_39 : decode cX6_digest 39 = .ok (.getfield 26, 3) := by decide +kernel
theorem dX6_digest_42 : decode cX6_digest 42 = .ok (.getfield 189, 3) := by decide +kernel
theorem dX6_digest_45 : decode cX6_digest 45 = .ok (.if_icmp .ge 34, 3) := by decide +kernel
theorem dX6_digest_48 : decode cX6_digest 48 = .ok (.aload_n 0, 1) := by decide +kernel
theorem dX6_digest_49 : decode cX6_digest 49 = .ok (.getfield 26, 3) := by decide +kernel
theorem dX6_digest_52 : decode cX6_digest 52 = .ok (.getfield 189, 3) := by decide +kernel
theorem dX6_digest_55 : decode cX6_digest 55 = .ok (.iconst 1, 1) := by decide +kernel
theorem dX6_digest_56 : decode cX6_digest 56 = .ok (.if_icmp .le 23, 3) := by decide +kernel
theorem dX6_digest_59 : decode cX6_digest 59 = .ok (.aload_n 0, 1) := by decide +kernel
theorem dX6_digest_60 : decode cX6_digest 60 = .ok (.lload_n 1, 1) := by decide +kernel
theorem dX6_digest_61 : decode cX6_digest 61 = .ok (.iload_n 3, 1) := by decide +kernel
theorem dX6_digest_62 : decode cX6_digest 62 = .ok (.iconst 1, 1) := by decide +kernel
theorem dX6_digest_63 : decode cX6_digest 63 = .ok (.iload 4, 2) := by decide +kernel
theorem dX6_digest_65 : decode cX6_digest 65 = .ok (.ishl, 1) := by decide +kernel
theorem dX6_digest_66 : decode cX6_digest 66 = .ok (.iconst (-1), 1) := by decide +kernel
theorem dX6_digest_67 : decode cX6_digest 67 = .ok (.ixor, 1) := by decide +kernel
theorem dX6_digest_68 : decode cX6_digest 68 = .ok (.iand, 1) := by decide +kernel
theorem dX6_digest_69 : decode cX6_digest 69 = .ok (.invokevirtual 202, 3) := by decide +kernel
theorem dX6_digest_72 : decode cX6_digest 72 = .ok (.lstore_n 1, 1) := by decide +kernel
theorem dX6_digest_73 : decode cX6_digest 73 = .ok (.iinc 4 1, 3) := by decide +kernel
theorem dX6_digest_76 : decode cX6_digest 76 = .ok (.goto (-40), 3) := by decide +kernel
theorem dX6_digest_79 : decode cX6_digest 79 = .ok (.iconst 0, 1) := by decide +kernel
theorem dX6_digest_80 : decode cX6_digest 80 = .ok (.istore_n 3, 1) := by decide +kernel
theorem dX6_digest_81 : decode cX6_digest 81 = .ok (.iload_n 3, 1) := by decide +kernel
theorem dX6_digest_82 : decode cX6_digest 82 = .ok (.aload_n 0, 1) := by decide +kernel
theorem dX6_digest_83 : decode cX6_digest 83 = .ok (.getfield 12, 3) := by decide +kernel
theorem dX6_digest_86 : decode cX6_digest 86 = .ok (.getfield 56, 3) := by decide +kernel
theorem dX6_digest_89 : decode cX6_digest 89 = .ok (.if_icmp .ge 25, 3) := by decide +kernel
theorem dX6_digest_92 : decode cX6_digest 92 = .ok (.ldc2_w 206, 3) := by decide +kernel
theorem dX6_digest_95 : decode cX6_digest 95 = .ok (.lload_n 1, 1) := by decide +kernel
theorem dX6_digest_96 : decode cX6_digest 96 = .ok (.lmul, 1) := by decide +kernel
theorem dX6_digest_97 : decode cX6_digest 97 = .ok (.aload_n 0, 1) := by decide +kernel
theorem dX6_digest_98 : decode cX6_digest 98 = .ok (.getfield 12, 3) := by decide +kernel
theorem dX6_digest_101 : decode cX6_digest 101 = .ok (.iload_n 3, 1) := by decide +kernel
theorem dX6_digest_102 : decode cX6_digest 102 = .ok (.invokevirtual 208, 3) := by decide +kernel
theorem dX6_digest_105 : decode cX6_digest 105 = .ok (.i2l, 1) := by decide +kernel
theorem dX6_digest_106 : decode cX6_digest 106 = .ok (.ladd, 1) := by decide +kernel
theorem dX6_digest_107 : decode cX6_digest 107 = .ok (.lstore_n 1, 1) := by decide +kernel
theorem dX6_digest_108 : decode cX6_digest 108 = .ok (.iinc 3 1, 3) := by decide +kernel
theorem dX6_digest_111 : decode cX6_digest 111 = .ok (.goto (-30), 3) := by decide +kernel
theorem dX6_digest_114 : decode cX6_digest 114 = .ok (.iconst 0, 1) := by decide +kernel
theorem dX6_digest_115 : decode cX6_digest 115 = .ok (.istore_n 3, 1) := by decide +kernel
theorem dX6_digest_116 : decode cX6_digest 116 = .ok (.iload_n 3, 1) := by decide +kernel
theorem dX6_digest_117 : decode cX6_digest 117 = .ok (.iconst 4, 1) := by decide +kernel
theorem dX6_digest_118 : decode cX6_digest 118 = .ok (.if_icmp .gt 21, 3) := by decide +kernel
theorem dX6_digest_121 : decode cX6_digest 121 = .ok (.ldc2_w 206, 3) := by decide +kernel
theorem dX6_digest_124 : decode cX6_digest 124 = .ok (.lload_n 1, 1) := by decide +kernel
theorem dX6_digest_125 : decode cX6_digest 125 = .ok (.lmul, 1) := by decide +kernel
theorem dX6_digest_126 : decode cX6_digest 126 = .ok (.aload_n 0, 1) := by decide +kernel
theorem dX6_digest_127 : decode cX6_digest 127 = .ok (.iload_n 3, 1) := by decide +kernel
theorem dX6_digest_128 : decode cX6_digest 128 = .ok (.invokevirtual 211, 3) := by decide +kernel
theorem dX6_digest_131 : decode cX6_digest 131 = .ok (.ladd, 1) := by decide +kernel
theorem dX6_digest_132 : decode cX6_digest 132 = .ok (.lstore_n 1, 1) := by decide +kernel
theorem dX6_digest_133 : decode cX6_digest 133 = .ok (.iinc 3 1, 3) := by decide +kernel
theorem dX6_digest_136 : decode cX6_digest 136 = .ok (.goto (-20), 3) := by decide +kernel
theorem dX6_digest_139 : decode cX6_digest 139 = .ok (.lload_n 1, 1) := by decide +kernel
theorem dX6_digest_140 : decode cX6_digest 140 = .ok (.lreturn, 1) := by decide +kernel
theorem dX6_digestOfMud_0 : decode cX6_digestOfMud 0 = .ok (.lload_n 1, 1) := by decide +kernel
theorem dX6_digestOfMud_1 : decode cX6_digestOfMud 1 = .ok (.lstore_n 3, 1) := by decide +kernel
theorem dX6_digestOfMud_2 : decode cX6_digestOfMud 2 = .ok (.iconst 0, 1) := by decide +kernel
theorem dX6_digestOfMud_3 : decode cX6_digestOfMud 3 = .ok (.istore 5, 2) := by decide +kernel
theorem dX6_digestOfMud_5 : decode cX6_digestOfMud 5 = .ok (.iload 5, 2) := by decide +kernel
theorem dX6_digestOfMud_7 : decode cX6_digestOfMud 7 = .ok (.aload_n 0, 1) := by decide +kernel
theorem dX6_digestOfMud_8 : decode cX6_digestOfMud 8 = .ok (.getfield 26, 3) := by decide +kernel
theorem dX6_digestOfMud_11 : decode cX6_digestOfMud 11 = .ok (.getfield 80, 3) := by decide +kernel
theorem dX6_digestOfMud_14 : decode cX6_digestOfMud 14 = .ok (.if_icmp .ge 39, 3) := by decide +kernel
theorem dX6_digestOfMud_17 : decode cX6_digestOfMud 17 = .ok (.iconst 0, 1) := by decide +kernel
theorem dX6_digestOfMud_18 : decode cX6_digestOfMud 18 = .ok (.istore 6, 2) := by decide +kernel
theorem dX6_digestOfMud_20 : decode cX6_digestOfMud 20 = .ok (.iload 6, 2) := by decide +kernel
theorem dX6_digestOfMud_22 : decode cX6_digestOfMud 22 = .ok (.iconst 4, 1) := by decide +kernel
theorem dX6_digestOfMud_23 : decode cX6_digestOfMud 23 = .ok (.if_icmp .ge 24, 3) := by decide +kernel
theorem dX6_digestOfMud_26 : decode cX6_digestOfMud 26 = .ok (.ldc2_w 206, 3) := by decide +kernel
theorem dX6_digestOfMud_29 : decode cX6_digestOfMud 29 = .ok (.lload_n 3, 1) := by decide +kernel
theorem dX6_digestOfMud_30 : decode cX6_digestOfMud 30 = .ok (.lmul, 1) := by decide +kernel
theorem dX6_digestOfMud_31 : decode cX6_digestOfMud 31 = .ok (.aload_n 0, 1) := by decide +kernel
theorem dX6_digestOfMud_32 : decode cX6_digestOfMud 32 = .ok (.iload 5, 2) := by decide +kernel
theorem dX6_digestOfMud_34 : decode cX6_digestOfMud 34 = .ok (.iload 6, 2) := by decide +kernel
theorem dX6_digestOfMud_36 : decode cX6_digestOfMud 36 = .ok (.invokevirtual 214, 3) := by decide +kernel
theorem dX6_digestOfMud_39 : decode cX6_digestOfMud 39 = .ok (.ladd, 1) := by decide +kernel
theorem dX6_digestOfMud_40 : decode cX6_digestOfMud 40 = .ok (.lstore_n 3, 1) := by decide +kernel
theorem dX6_digestOfMud_41 : decode cX6_digestOfMud 41 = .ok (.iinc 6 1, 3) := by decide +kernel
theorem dX6_digestOfMud_44 : decode cX6_digestOfMud 44 = .ok (.goto (-24), 3) := by decide +kernel
theorem dX6_digestOfMud_47 : decode cX6_digestOfMud 47 = .ok (.iinc 5 1, 3) := by decide +kernel
theorem dX6_digestOfMud_50 : decode cX6_digestOfMud 50 = .ok (.goto (-45), 3) := by decide +kernel
theorem dX6_digestOfMud_53 : decode cX6_digestOfMud 53 = .ok (.iconst 0, 1) := by decide +kernel
theorem dX6_digestOfMud_54 : decode cX6_digestOfMud 54 = .ok (.istore 5, 2) := by decide +kernel
theorem dX6_digestOfMud_56 : decode cX6_digestOfMud 56 = .ok (.iload 5, 2) := by decide +kernel
theorem dX6_digestOfMud_58 : decode cX6_digestOfMud 58 = .ok (.aload_n 0, 1) := by decide +kernel
theorem dX6_digestOfMud_59 : decode cX6_digestOfMud 59 = .ok (.getfield 26, 3) := by decide +kernel
theorem dX6_digestOfMud_62 : decode cX6_digestOfMud 62 = .ok (.getfield 189, 3) := by decide +kernel
theorem dX6_digestOfMud_65 : decode cX6_digestOfMud 65 = .ok (.if_icmp .ge 37, 3) := by decide +kernel
theorem dX6_digestOfMud_68 : decode cX6_digestOfMud 68 = .ok (.ldc2_w 206, 3) := by decide +kernel
theorem dX6_digestOfMud_71 : decode cX6_digestOfMud 71 = .ok (.lload_n 3, 1) := by decide +kernel
theorem dX6_digestOfMud_72 : decode cX6_digestOfMud 72 = .ok (.lmul, 1) := by decide +kernel
theorem dX6_digestOfMud_73 : decode cX6_digestOfMud 73 = .ok (.aload_n 0, 1) := by decide +kernel
theorem dX6_digestOfMud_74 : decode cX6_digestOfMud 74 = .ok (.iload 5, 2) := by decide +kernel
theorem dX6_digestOfMud_76 : decode cX6_digestOfMud 76 = .ok (.iconst 0, 1) := by decide +kernel
theorem dX6_digestOfMud_77 : decode cX6_digestOfMud 77 = .ok (.invokevirtual 217, 3) := by decide +kernel
theorem dX6_digestOfMud_80 : decode cX6_digestOfMud 80 = .ok (.ladd, 1) := by decide +kernel
theorem dX6_digestOfMud_81 : decode cX6_digestOfMud 81 = .ok (.lstore_n 3, 1) := by decide +kernel
theorem dX6_digestOfMud_82 : decode cX6_digestOfMud 82 = .ok (.ldc2_w 206, 3) := by decide +kernel
theorem dX6_digestOfMud_85 : decode cX6_digestOfMud 85 = .ok (.lload_n 3, 1) := by decide +kernel
theorem dX6_digestOfMud_86 : decode cX6_digestOfMud 86 = .ok (.lmul, 1) := by decide +kernel
theorem dX6_digestOfMud_87 : decode cX6_digestOfMud 87 = .ok (.aload_n 0, 1) := by decide +kernel
theorem dX6_digestOfMud_88 : decode cX6_digestOfMud 88 = .ok (.iload 5, 2) := by decide +kernel
theorem dX6_digestOfMud_90 : decode cX6_digestOfMud 90 = .ok (.iconst 1, 1) := by decide +kernel
theorem dX6_digestOfMud_91 : decode cX6_digestOfMud 91 = .ok (.invokevirtual 217, 3) := by decide +kernel
theorem dX6_digestOfMud_94 : decode cX6_digestOfMud 94 = .ok (.ladd, 1) := by decide +kernel
theorem dX6_digestOfMud_95 : decode cX6_digestOfMud 95 = .ok (.lstore_n 3, 1) := by decide +kernel
theorem dX6_digestOfMud_96 : decode cX6_digestOfMud 96 = .ok (.iinc 5 1, 3) := by decide +kernel
theorem dX6_digestOfMud_99 : decode cX6_digestOfMud 99 = .ok (.goto (-43), 3) := by decide +kernel
theorem dX6_digestOfMud_102 : decode cX6_digestOfMud 102 = .ok (.lload_n 3, 1) := by decide +kernel
theorem dX6_digestOfMud_103 : decode cX6_digestOfMud 103 = .ok (.lreturn, 1) := by decide +kernel
theorem dX6_digestOfShares_0 : decode cX6_digestOfShares 0 = .ok (.aload_n 0, 1) := by decide +kernel
theorem dX6_digestOfShares_1 : decode cX6_digestOfShares 1 = .ok (.getfield 33, 3) := by decide +kernel
theorem dX6_digestOfShares_4 : decode cX6_digestOfShares 4 = .ok (.aload_n 0, 1) := by decide +kernel
theorem dX6_digestOfShares_5 : decode cX6_digestOfShares 5 = .ok (.getfield 26, 3) := by decide +kernel
theorem dX6_digestOfShares_8 : decode cX6_digestOfShares 8 = .ok (.iload_n 3, 1) := by decide +kernel
theorem dX6_digestOfShares_9 : decode cX6_digestOfShares 9 = .ok (.invokevirtual 141, 3) := by decide +kernel
theorem dX6_digestOfShares_12 : decode cX6_digestOfShares 12 = .ok (.lload_n 1, 1) := by decide +kernel
theorem dX6_digestOfShares_13 : decode cX6_digestOfShares 13 = .ok (.lstore 4, 2) := by decide +kernel
theorem dX6_digestOfShares_15 : decode cX6_digestOfShares 15 = .ok (.iconst 0, 1) := by decide +kernel
theorem dX6_digestOfShares_16 : decode cX6_digestOfShares 16 = .ok (.istore 6, 2) := by decide +kernel
theorem dX6_digestOfShares_18 : decode cX6_digestOfShares 18 = .ok (.iload 6, 2) := by decide +kernel
theorem dX6_digestOfShares_20 : decode cX6_digestOfShares 20 = .ok (.iconst 3, 1) := by decide +kernel
theorem dX6_digestOfShares_21 : decode cX6_digestOfShares 21 = .ok (.if_icmp .gt 24, 3) := by decide +kernel
theorem dX6_digestOfShares_24 : decode cX6_digestOfShares 24 = .ok (.ldc2_w 206, 3) := by decide +kernel
theorem dX6_digestOfShares_27 : decode cX6_digestOfShares 27 = .ok (.lload 4, 2) := by decide +kernel
theorem dX6_digestOfShares_29 : decode cX6_digestOfShares 29 = .ok (.lmul, 1) := by decide +kernel
theorem dX6_digestOfShares_30 : decode cX6_digestOfShares 30 = .ok (.aload_n 0, 1) := by decide +kernel
theorem dX6_digestOfShares_31 : decode cX6_digestOfShares 31 = .ok (.iload 6, 2) := by decide +kernel
theorem dX6_digestOfShares_33 : decode cX6_digestOfShares 33 = .ok (.invokevirtual 145, 3) := by decide +kernel
theorem dX6_digestOfShares_36 : decode cX6_digestOfShares 36 = .ok (.ladd, 1) := by decide +kernel
theorem dX6_digestOfShares_37 : decode cX6_digestOfShares 37 = .ok (.lstore 4, 2) := by decide +kernel
theorem dX6_digestOfShares_39 : decode cX6_digestOfShares 39 = .ok (.iinc 6 1, 3) := by decide +kernel
theorem dX6_digestOfShares_42 : decode cX6_digestOfShares 42 = .ok (.goto (-24), 3) := by decide +kernel
theorem dX6_digestOfShares_45 : decode cX6_digestOfShares 45 = .ok (.iconst 0, 1) := by decide +kernel
theorem dX6_digestOfShares_46 : decode cX6_digestOfShares 46 = .ok (.istore 6, 2) := by decide +kernel
theorem dX6_digestOfShares_48 : decode cX6_digestOfShares 48 = .ok (.iload 6, 2) := by decide +kernel
theorem dX6_digestOfShares_50 : decode cX6_digestOfShares 50 = .ok (.aload_n 0, 1) := by decide +kernel
theorem dX6_digestOfShares_51 : decode cX6_digestOfShares 51 = .ok (.getfield 26, 3) := by decide +kernel
theorem dX6_digestOfShares_54 : decode cX6_digestOfShares 54 = .ok (.getfield 80, 3) := by decide +kernel
theorem dX6_digestOfShares_57 : decode cX6_digestOfShares 57 = .ok (.if_icmp .ge 93, 3) := by decide +kernel
theorem dX6_digestOfShares_60 : decode cX6_digestOfShares 60 = .ok (.ldc2_w 206, 3) := by decide +kernel
theorem dX6_digestOfShares_63 : decode cX6_digestOfShares 63 = .ok (.lload 4, 2) := by decide +kernel
theorem dX6_digestOfShares_65 : decode cX6_digestOfShares 65 = .ok (.lmul, 1) := by decide +kernel
theorem dX6_digestOfShares_66 : decode cX6_digestOfShares 66 = .ok (.aload_n 0, 1) := by decide +kernel
theorem dX6_digestOfShares_67 : decode cX6_digestOfShares 67 = .ok (.iload 6, 2) := by decide +kernel
theorem dX6_digestOfShares_69 : decode cX6_digestOfShares 69 = .ok (.iconst 0, 1) := by decide +kernel
theorem dX6_digestOfShares_70 : decode cX6_digestOfShares 70 = .ok (.invokevirtual 152, 3) := by decide +kernel
theorem dX6_digestOfShares_73 : decode cX6_digestOfShares 73 = .ok (.ladd, 1) := by decide +kernel
theorem dX6_digestOfShares_74 : decode cX6_digestOfShares 74 = .ok (.lstore 4, 2) := by decide +kernel
theorem dX6_digestOfShares_76 : decode cX6_digestOfShares 76 = .ok (.ldc2_w 206, 3) := by decide +kernel
theorem dX6_digestOfShares_79 : decode cX6_digestOfShares 79 = .ok (.lload 4, 2) := by decide +kernel
theorem dX6_digestOfShares_81 : decode cX6_digestOfShares 81 = .ok (.lmul, 1) := by decide +kernel
theorem dX6_digestOfShares_82 : decode cX6_digestOfShares 82 = .ok (.aload_n 0, 1) := by decide +kernel
theorem dX6_digestOfShares_83 : decode cX6_digestOfShares 83 = .ok (.iload 6, 2) := by decide +kernel
theorem dX6_digestOfShares_85 : decode cX6_digestOfShares 85 = .ok (.iconst 1, 1) := by decide +kernel
theorem dX6_digestOfShares_86 : decode cX6_digestOfShares 86 = .ok (.invokevirtual 152, 3) := by decide +kernel
theorem dX6_digestOfShares_89 : decode cX6_digestOfShares 89 = .ok (.ladd, 1) := by decide +kernel
theorem dX6_digestOfShares_90 : decode cX6_digestOfShares 90 = .ok (.lstore 4, 2) := by decide +kernel
theorem dX6_digestOfShares_92 : decode cX6_digestOfShares 92 = .ok (.ldc2_w 206, 3) := by decide +kernel
theorem dX6_digestOfShares_95 : decode cX6_digestOfShares 95 = .ok (.lload 4, 2) := by decide +kernel
theorem dX6_digestOfShares_97 : decode cX6_digestOfShares 97 = .ok (.lmul, 1) := by decide +kernel
theorem dX6_digestOfShares_98 : decode cX6_digestOfShares 98 = .ok (.aload_n 0, 1) := by decide +kernel
theorem dX6_digestOfShares_99 : decode cX6_digestOfShares 99 = .ok (.iload 6, 2) := by decide +kernel
theorem dX6_digestOfShares_101 : decode cX6_digestOfShares 101 = .ok (.iconst 0, 1) := by decide +kernel
theorem dX6_digestOfShares_102 : decode cX6_digestOfShares 102 = .ok (.invokevirtual 156, 3) := by decide +kernel
theorem dX6_digestOfShares_105 : decode cX6_digestOfShares 105 = .ok (.ladd, 1) := by decide +kernel
theorem dX6_digestOfShares_106 : decode cX6_digestOfShares 106 = .ok (.lstore 4, 2) := by decide +kernel
theorem dX6_digestOfShares_108 : decode cX6_digestOfShares 108 = .ok (.ldc2_w 206, 3) := by decide +kernel
theorem dX6_digestOfShares_111 : decode cX6_digestOfShares 111 = .ok (.lload 4, 2) := by decide +kernel
theorem dX6_digestOfShares_113 : decode cX6_digestOfShares 113 = .ok (.lmul, 1) := by decide +kernel
theorem dX6_digestOfShares_114 : decode cX6_digestOfShares 114 = .ok (.aload_n 0, 1) := by decide +kernel
theorem dX6_digestOfShares_115 : decode cX6_digestOfShares 115 = .ok (.iload 6, 2) := by decide +kernel
theorem dX6_digestOfShares_117 : decode cX6_digestOfShares 117 = .ok (.iconst 1, 1) := by decide +kernel
theorem dX6_digestOfShares_118 : decode cX6_digestOfShares 118 = .ok (.invokevirtual 156, 3) := by decide +kernel
theorem dX6_digestOfShares_121 : decode cX6_digestOfShares 121 = .ok (.ladd, 1) := by decide +kernel
theorem dX6_digestOfShares_122 : decode cX6_digestOfShares 122 = .ok (.lstore 4, 2) := by decide +kernel
theorem dX6_digestOfShares_124 : decode cX6_digestOfShares 124 = .ok (.ldc2_w 206, 3) := by decide +kernel
theorem dX6_digestOfShares_127 : decode cX6_digestOfShares 127 = .ok (.lload 4, 2) := by decide +kernel
theorem dX6_digestOfShares_129 : decode cX6_digestOfShares 129 = .ok (.lmul, 1) := by decide +kernel
theorem dX6_digestOfShares_130 : decode cX6_digestOfShares 130 = .ok (.aload_n 0, 1) := by decide +kernel
theorem dX6_digestOfShares_131 : decode cX6_digestOfShares 131 = .ok (.getfield 26, 3) := by decide +kernel
theorem dX6_digestOfShares_134 : decode cX6_digestOfShares 134 = .ok (.iload 6, 2) := by decide +kernel
theorem dX6_digestOfShares_136 : decode cX6_digestOfShares 136 = .ok (.iload_n 3, 1) := by decide +kernel
theorem dX6_digestOfShares_137 : decode cX6_digestOfShares 137 = .ok (.invokevirtual 138, 3) := by decide +kernel
theorem dX6_digestOfShares_140 : decode cX6_digestOfShares 140 = .ok (.i2l, 1) := by decide +kernel
theorem dX6_digestOfShares_141 : decode cX6_digestOfShares 141 = .ok (.ladd, 1) := by decide +kernel
theorem dX6_digestOfShares_142 : decode cX6_digestOfShares 142 = .ok (.lstore 4, 2) := by decide +kernel
theorem dX6_digestOfShares_144 : decode cX6_digestOfShares 144 = .ok (.iinc 6 1, 3) := by decide +kernel
theorem dX6_digestOfShares_147 : decode cX6_digestOfShares 147 = .ok (.goto (-99), 3) := by decide +kernel
theorem dX6_digestOfShares_150 : decode cX6_digestOfShares 150 = .ok (.iconst 0, 1) := by decide +kernel
theorem dX6_digestOfShares_151 : decode cX6_digestOfShares 151 = .ok (.istore 6, 2) := by decide +kernel
theorem dX6_digestOfShares_153 : decode cX6_digestOfShares 153 = .ok (.iload 6, 2) := by decide +kernel
theorem dX6_digestOfShares_155 : decode cX6_digestOfShares 155 = .ok (.aload_n 0, 1) := by decide +kernel
theorem dX6_digestOfShares_156 : decode cX6_digestOfShares 156 = .ok (.getfield 26, 3) := by decide +kernel
theorem dX6_digestOfShares_159 : decode cX6_digestOfShares 159 = .ok (.getfield 189, 3) := by decide +kernel
theorem dX6_digestOfShares_162 : decode cX6_digestOfShares 162 = .ok (.if_icmp .ge 41, 3) := by decide +kernel
theorem dX6_digestOfShares_165 : decode cX6_digestOfShares 165 = .ok (.ldc2_w 206, 3) := by decide +kernel
theorem dX6_digestOfShares_168 : decode cX6_digestOfShares 168 = .ok (.lload 4, 2) := by decide +kernel
theorem dX6_digestOfShares_170 : decode cX6_digestOfShares 170 = .ok (.lmul, 1) := by decide +kernel
theorem dX6_digestOfShares_171 : decode cX6_digestOfShares 171 = .ok (.aload_n 0, 1) := by decide +kernel
theorem dX6_digestOfShares_172 : decode cX6_digestOfShares 172 = .ok (.iload 6, 2) := by decide +kernel
theorem dX6_digestOfShares_174 : decode cX6_digestOfShares 174 = .ok (.iconst 0, 1) := by decide +kernel
theorem dX6_digestOfShares_175 : decode cX6_digestOfShares 175 = .ok (.invokevirtual 159, 3) := by decide +kernel
theorem dX6_digestOfShares_178 : decode cX6_digestOfShares 178 = .ok (.ladd, 1) := by decide +kernel
theorem dX6_digestOfShares_179 : decode cX6_digestOfShares 179 = .ok (.lstore 4, 2) := by decide +kernel
theorem dX6_digestOfShares_181 : decode cX6_digestOfShares 181 = .ok (.ldc2_w 206, 3) := by decide +kernel
theorem dX6_digestOfShares_184 : decode cX6_digestOfShares 184 = .ok (.lload 4, 2) := by decide +kernel
theorem dX6_digestOfShares_186 : decode cX6_digestOfShares 186 = .ok (.lmul, 1) := by decide +kernel
theorem dX6_digestOfShares_187 : decode cX6_digestOfShares 187 = .ok (.aload_n 0, 1) := by decide +kernel
theorem dX6_digestOfShares_188 : decode cX6_digestOfShares 188 = .ok (.iload 6, 2) := by decide +kernel
theorem dX6_digestOfShares_190 : decode cX6_digestOfShares 190 = .ok (.iconst 1, 1) := by decide +kernel
theorem dX6_digestOfShares_191 : decode cX6_digestOfShares 191 = .ok (.invokevirtual 159, 3) := by decide +kernel
theorem dX6_digestOfShares_194 : decode cX6_digestOfShares 194 = .ok (.ladd, 1) := by decide +kernel
theorem dX6_digestOfShares_195 : decode cX6_digestOfShares 195 = .ok (.lstore 4, 2) := by decide +kernel
theorem dX6_digestOfShares_197 : decode cX6_digestOfShares 197 = .ok (.iinc 6 1, 3) := by decide +kernel
theorem dX6_digestOfShares_200 : decode cX6_digestOfShares 200 = .ok (.goto (-47), 3) := by decide +kernel
theorem dX6_digestOfShares_203 : decode cX6_digestOfShares 203 = .ok (.lload 4, 2) := by decide +kernel
theorem dX6_digestOfShares_205 : decode cX6_digestOfShares 205 = .ok (.lreturn, 1) := by decide +kernel
theorem dX6_ofNearest_0 : decode cX6_ofNearest 0 = .ok (.iload_n 1, 1) := by decide +kernel
theorem dX6_ofNearest_1 : decode cX6_ofNearest 1 = .ok (.tableswitch 58 0 2 #[27, 36, 47], 27) := by decide +kernel
theorem dX6_ofNearest_28 : decode cX6_ofNearest 28 = .ok (.aload_n 0, 1) := by decide +kernel
theorem dX6_ofNearest_29 : decode cX6_ofNearest 29 = .ok (.getfield 33, 3) := by decide +kernel
theorem dX6_ofNearest_32 : decode cX6_ofNearest 32 = .ok (.getfield 220, 3) := by decide +kernel
theorem dX6_ofNearest_35 : decode cX6_ofNearest 35 = .ok (.i2l, 1) := by decide +kernel
theorem dX6_ofNearest_36 : decode cX6_ofNearest 36 = .ok (.lreturn, 1) := by decide +kernel
theorem dX6_ofNearest_37 : decode cX6_ofNearest 37 = .ok (.aload_n 0, 1) := by decide +kernel
theorem dX6_ofNearest_38 : decode cX6_ofNearest 38 = .ok (.getfield 33, 3) := by decide +kernel
theorem dX6_ofNearest_41 : decode cX6_ofNearest 41 = .ok (.getfield 223, 3) := by decide +kernel
theorem dX6_ofNearest_44 : decode cX6_ofNearest 44 = .ok (.getfield 224, 3) := by decide +kernel
theorem dX6_ofNearest_47 : decode cX6_ofNearest 47 = .ok (.lreturn, 1) := by decide +kernel
theorem dX6_ofNearest_48 : decode cX6_ofNearest 48 = .ok (.aload_n 0, 1) := by decide +kernel
theorem dX6_ofNearest_49 : decode cX6_ofNearest 49 = .ok (.getfield 33, 3) := by decide +kernel
theorem dX6_ofNearest_52 : decode cX6_ofNearest 52 = .ok (.getfield 223, 3) := by decide +kernel
theorem dX6_ofNearest_55 : decode cX6_ofNearest 55 = .ok (.getfield 227, 3) := by decide +kernel
theorem dX6_ofNearest_58 : decode cX6_ofNearest 58 = .ok (.lreturn, 1) := by decide +kernel
theorem dX6_ofNearest_59 : decode cX6_ofNearest 59 = .ok (.aload_n 0, 1) := by decide +kernel
theorem dX6_ofNearest_60 : decode cX6_ofNearest 60 = .ok (.getfield 33, 3) := by decide +kernel
theorem dX6_ofNearest_63 : decode cX6_ofNearest 63 = .ok (.getfield 230, 3) := by decide +kernel
theorem dX6_ofNearest_66 : decode cX6_ofNearest 66 = .ok (.i2l, 1) := by decide +kernel
theorem dX6_ofNearest_67 : decode cX6_ofNearest 67 = .ok (.lreturn, 1) := by decide +kernel
theorem dX6_shareByNearest_0 : decode cX6_shareByNearest 0 = .ok (.aload_n 0, 1) := by decide +kernel
theorem dX6_shareByNearest_1 : decode cX6_shareByNearest 1 = .ok (.getfield 33, 3) := by decide +kernel
theorem dX6_shareByNearest_4 : decode cX6_shareByNearest 4 = .ok (.getfield 165, 3) := by decide +kernel
theorem dX6_shareByNearest_7 : decode cX6_shareByNearest 7 = .ok (.astore_n 3, 1) := by decide +kernel
theorem dX6_shareByNearest_8 : decode cX6_shareByNearest 8 = .ok (.aload_n 0, 1) := by decide +kernel
theorem dX6_shareByNearest_9 : decode cX6_shareByNearest 9 = .ok (.getfield 40, 3) := by decide +kernel
theorem dX6_shareByNearest_12 : decode cX6_shareByNearest 12 = .ok (.aload_n 3, 1) := by decide +kernel
theorem dX6_shareByNearest_13 : decode cX6_shareByNearest 13 = .ok (.iload_n 1, 1) := by decide +kernel
theorem dX6_shareByNearest_14 : decode cX6_shareByNearest 14 = .ok (.invokevirtual 233, 3) := by decide +kernel
theorem dX6_shareByNearest_17 : decode cX6_shareByNearest 17 = .ok (.aload_n 3, 1) := by decide +kernel
theorem dX6_shareByNearest_18 : decode cX6_shareByNearest 18 = .ok (.getfield 236, 3) := by decide +kernel
theorem dX6_shareByNearest_21 : decode cX6_shareByNearest 21 = .ok (.invokevirtual 237, 3) := by decide +kernel
theorem dX6_shareByNearest_24 : decode cX6_shareByNearest 24 = .ok (.aload_n 0, 1) := by decide +kernel
theorem dX6_shareByNearest_25 : decode cX6_shareByNearest 25 = .ok (.getfield 40, 3) := by decide +kernel
theorem dX6_shareByNearest_28 : decode cX6_shareByNearest 28 = .ok (.iload_n 2, 1) := by decide +kernel
theorem dX6_shareByNearest_29 : decode cX6_shareByNearest 29 = .ok (.invokevirtual 186, 3) := by decide +kernel
theorem dX6_shareByNearest_32 : decode cX6_shareByNearest 32 = .ok (.lreturn, 1) := by decide +kernel
theorem dX6_pressByNearest_0 : decode cX6_pressByNearest 0 = .ok (.aload_n 0, 1) := by decide +kernel
theorem dX6_pressByNearest_1 : decode cX6_pressByNearest 1 = .ok (.getfield 33, 3) := by decide +kernel
theorem dX6_pressByNearest_4 : decode cX6_pressByNearest 4 = .ok (.getfield 165, 3) := by decide +kernel
theorem dX6_pressByNearest_7 : decode cX6_pressByNearest 7 = .ok (.astore_n 3, 1) := by decide +kernel
theorem dX6_pressByNearest_8 : decode cX6_pressByNearest 8 = .ok (.aload_n 0, 1) := by decide +kernel
theorem dX6_pressByNearest_9 : decode cX6_pressByNearest 9 = .ok (.getfield 40, 3) := by decide +kernel
theorem dX6_pressByNearest_12 : decode cX6_pressByNearest 12 = .ok (.aload_n 3, 1) := by decide +kernel
theorem dX6_pressByNearest_13 : decode cX6_pressByNearest 13 = .ok (.iload_n 1, 1) := by decide +kernel
theorem dX6_pressByNearest_14 : decode cX6_pressByNearest 14 = .ok (.invokevirtual 241, 3) := by decide +kernel
theorem dX6_pressByNearest_17 : decode cX6_pressByNearest 17 = .ok (.aload_n 3, 1) := by decide +kernel
theorem dX6_pressByNearest_18 : decode cX6_pressByNearest 18 = .ok (.getfield 236, 3) := by decide +kernel
theorem dX6_pressByNearest_21 : decode cX6_pressByNearest 21 = .ok (.invokevirtual 237, 3) := by decide +kernel
theorem dX6_pressByNearest_24 : decode cX6_pressByNearest 24 = .ok (.aload_n 0, 1) := by decide +kernel
theorem dX6_pressByNearest_25 : decode cX6_pressByNearest 25 = .ok (.getfield 40, 3) := by decide +kernel
theorem dX6_pressByNearest_28 : decode cX6_pressByNearest 28 = .ok (.iload_n 2, 1) := by decide +kernel
theorem dX6_pressByNearest_29 : decode cX6_pressByNearest 29 = .ok (.invokevirtual 186, 3) := by decide +kernel
theorem dX6_pressByNearest_32 : decode cX6_pressByNearest 32 = .ok (.lreturn, 1) := by decide +kernel
theorem dX6_mixedByNearest_0 : decode cX6_mixedByNearest 0 = .ok (.aload_n 0, 1) := by decide +kernel
theorem dX6_mixedByNearest_1 : decode cX6_mixedByNearest 1 = .ok (.getfield 33, 3) := by decide +kernel
theorem dX6_mixedByNearest_4 : decode cX6_mixedByNearest 4 = .ok (.getfield 165, 3) := by decide +kernel
theorem dX6_mixedByNearest_7 : decode cX6_mixedByNearest 7 = .ok (.astore_n 3, 1) := by decide +kernel
theorem dX6_mixedByNearest_8 : decode cX6_mixedByNearest 8 = .ok (.aload_n 0, 1) := by decide +kernel
theorem dX6_mixedByNearest_9 : decode cX6_mixedByNearest 9 = .ok (.getfield 40, 3) := by decide +kernel
theorem dX6_mixedByNearest_12 : decode cX6_mixedByNearest 12 = .ok (.aload_n 3, 1) := by decide +kernel
theorem dX6_mixedByNearest_13 : decode cX6_mixedByNearest 13 = .ok (.aload_n 0, 1) := by decide +kernel
theorem dX6_mixedByNearest_14 : decode cX6_mixedByNearest 14 = .ok (.getfield 26, 3) := by decide +kernel
theorem dX6_mixedByNearest_17 : decode cX6_mixedByNearest 17 = .ok (.iload_n 1, 1) := by decide +kernel
theorem dX6_mixedByNearest_18 : decode cX6_mixedByNearest 18 = .ok (.invokevirtual 244, 3) := by decide +kernel
theorem dX6_mixedByNearest_21 : decode cX6_mixedByNearest 21 = .ok (.aload_n 3, 1) := by decide +kernel
theorem dX6_mixedByNearest_22 : decode cX6_mixedByNearest 22 = .ok (.getfield 236, 3) := by decide +kernel
theorem dX6_mixedByNearest_25 : decode cX6_mixedByNearest 25 = .ok (.invokevirtual 237, 3) := by decide +kernel
theorem dX6_mixedByNearest_28 : decode cX6_mixedByNearest 28 = .ok (.aload_n 0, 1) := by decide +kernel
theorem dX6_mixedByNearest_29 : decode cX6_mixedByNearest 29 = .ok (.getfield 40, 3) := by decide +kernel
theorem dX6_mixedByNearest_32 : decode cX6_mixedByNearest 32 = .ok (.iload_n 2, 1) := by decide +kernel
theorem dX6_mixedByNearest_33 : decode cX6_mixedByNearest 33 = .ok (.invokevirtual 186, 3) := by decide +kernel
theorem dX6_mixedByNearest_36 : decode cX6_mixedByNearest 36 = .ok (.lreturn, 1) := by decide +kernel
theorem dX6_putHeld_0 : decode cX6_putHeld 0 = .ok (.aload_n 0, 1) := by decide +kernel
theorem dX6_putHeld_1 : decode cX6_putHeld 1 = .ok (.getfield 26, 3) := by decide +kernel
theorem dX6_putHeld_4 : decode cX6_putHeld 4 = .ok (.iload_n 1, 1) := by decide +kernel
theorem dX6_putHeld_5 : decode cX6_putHeld 5 = .ok (.iload_n 2, 1) := by decide +kernel
theorem dX6_putHeld_6 : decode cX6_putHeld 6 = .ok (.invokevirtual 130, 3) := by decide +kernel
theorem dX6_putHeld_9 : decode cX6_putHeld 9 = .ok (.i2l, 1) := by decide +kernel
theorem dX6_putHeld_10 : decode cX6_putHeld 10 = .ok (.lstore 4, 2) := by decide +kernel
theorem dX6_putHeld_12 : decode cX6_putHeld 12 = .ok (.aload_n 0, 1) := by decide +kernel
theorem dX6_putHeld_13 : decode cX6_putHeld 13 = .ok (.getfield 26, 3) := by decide +kernel
theorem dX6_putHeld_16 : decode cX6_putHeld 16 = .ok (.iload_n 1, 1) := by decide +kernel
theorem dX6_putHeld_17 : decode cX6_putHeld 17 = .ok (.iload_n 2, 1) := by decide +kernel
theorem dX6_putHeld_18 : decode cX6_putHeld 18 = .ok (.iload_n 3, 1) := by decide +kernel
theorem dX6_putHeld_19 : decode cX6_putHeld 19 = .ok (.invokevirtual 127, 3) := by decide +kernel
theorem dX6_putHeld_22 : decode cX6_putHeld 22 = .ok (.aload_n 0, 1) := by decide +kernel
theorem dX6_putHeld_23 : decode cX6_putHeld 23 = .ok (.dup, 1) := by decide +kernel
theorem dX6_putHeld_24 : decode cX6_putHeld 24 = .ok (.getfield 104, 3) := by decide +kernel
theorem dX6_putHeld_27 : decode cX6_putHeld 27 = .ok (.lconst 1, 1) := by decide +kernel
theorem dX6_putHeld_28 : decode cX6_putHeld 28 = .ok (.ladd, 1) := by decide +kernel
theorem dX6_putHeld_29 : decode cX6_putHeld 29 = .ok (.putfield 104, 3) := by decide +kernel
theorem dX6_putHeld_32 : decode cX6_putHeld 32 = .ok (.lload 4, 2) := by decide +kernel
theorem dX6_putHeld_34 : decode cX6_putHeld 34 = .ok (.lreturn, 1) := by decide +kernel
theorem dX6_isHeld_0 : decode cX6_isHeld 0 = .ok (.iload_n 0, 1) := by decide +kernel
theorem dX6_isHeld_1 : decode cX6_isHeld 1 = .ok (.ifCond .lt 13, 3) := by decide +kernel
theorem dX6_isHeld_4 : decode cX6_isHeld 4 = .ok (.iload_n 0, 1) := by decide +kernel
theorem dX6_isHeld_5 : decode cX6_isHeld 5 = .ok (.bipush 20, 2) := by decide +kernel
theorem dX6_isHeld_7 : decode cX6_isHeld 7 = .ok (.if_icmp .gt 7, 3) := by decide +kernel
theorem dX6_isHeld_10 : decode cX6_isHeld 10 = .ok (.iconst 1, 1) := by decide +kernel
theorem dX6_isHeld_11 : decode cX6_isHeld 11 = .ok (.goto 4, 3) := by decide +kernel
theorem dX6_isHeld_14 : decode cX6_isHeld 14 = .ok (.iconst 0, 1) := by decide +kernel
theorem dX6_isHeld_15 : decode cX6_isHeld 15 = .ok (.ireturn, 1) := by decide +kernel
theorem dX6_isPart_0 : decode cX6_isPart 0 = .ok (.iload_n 0, 1) := by decide +kernel
theorem dX6_isPart_1 : decode cX6_isPart 1 = .ok (.ifCond .eq 8, 3) := by decide +kernel
theorem dX6_isPart_4 : decode cX6_isPart 4 = .ok (.iload_n 0, 1) := by decide +kernel
theorem dX6_isPart_5 : decode cX6_isPart 5 = .ok (.iconst 1, 1) := by decide +kernel
theorem dX6_isPart_6 : decode cX6_isPart 6 = .ok (.if_icmp .ne 7, 3) := by decide +kernel
theorem dX6_isPart_9 : decode cX6_isPart 9 = .ok (.iconst 1, 1) := by decide +kernel
theorem dX6_isPart_10 : decode cX6_isPart 10 = .ok (.goto 4, 3) := by decide +kernel
theorem dX6_isPart_13 : decode cX6_isPart 13 = .ok (.iconst 0, 1) := by decide +kernel
theorem dX6_isPart_14 : decode cX6_isPart 14 = .ok (.ireturn, 1) := by decide +kernel
theorem dX6_isMultiple_0 : decode cX6_isMultiple 0 = .ok (.iload_n 1, 1) := by decide +kernel
theorem dX6_isMultiple_1 : decode cX6_isMultiple 1 = .ok (.ifCond .le 13, 3) := by decide +kernel
theorem dX6_isMultiple_4 : decode cX6_isMultiple 4 = .ok (.iload_n 0, 1) := by decide +kernel
theorem dX6_isMultiple_5 : decode cX6_isMultiple 5 = .ok (.iload_n 1, 1) := by decide +kernel
theorem dX6_isMultiple_6 : decode cX6_isMultiple 6 = .ok (.irem, 1) := by decide +kernel
theorem dX6_isMultiple_7 : decode cX6_isMultiple 7 = .ok (.ifCond .ne 7, 3) := by decide +kernel
theorem dX6_isMultiple_10 : decode cX6_isMultiple 10 = .ok (.iconst 1, 1) := by decide +kernel
theorem dX6_isMultiple_11 : decode cX6_isMultiple 11 = .ok (.goto 4, 3) := by decide +kernel
theorem dX6_isMultiple_14 : decode cX6_isMultiple 14 = .ok (.iconst 0, 1) := by decide +kernel
theorem dX6_isMultiple_15 : decode cX6_isMultiple 15 = .ok (.ireturn, 1) := by decide +kernel
theorem dX6_quotient_0 : decode cX6_quotient 0 = .ok (.iload_n 1, 1) := by decide +kernel
theorem dX6_quotient_1 : decode cX6_quotient 1 = .ok (.ifCond .le 9, 3) := by decide +kernel
theorem dX6_quotient_4 : decode cX6_quotient 4 = .ok (.iload_n 0, 1) := by decide +kernel
theorem dX6_quotient_5 : decode cX6_quotient 5 = .ok (.iload_n 1, 1) := by decide +kernel
theorem dX6_quotient_6 : decode cX6_quotient 6 = .ok (.idiv, 1) := by decide +kernel
theorem dX6_quotient_7 : decode cX6_quotient 7 = .ok (.goto 4, 3) := by decide +kernel
theorem dX6_quotient_10 : decode cX6_quotient 10 = .ok (.iconst 0, 1) := by decide +kernel
theorem dX6_quotient_11 : decode cX6_quotient 11 = .ok (.ireturn, 1) := by decide +kernel
theorem dX6_isIn_0 : decode cX6_isIn 0 = .ok (.iload_n 0, 1) := by decide +kernel
theorem dX6_isIn_1 : decode cX6_isIn 1 = .ok (.iload_n 1, 1) := by decide +kernel
theorem dX6_isIn_2 : decode cX6_isIn 2 = .ok (.ishr, 1) := by decide +kernel
theorem dX6_isIn_3 : decode cX6_isIn 3 = .ok (.iconst 1, 1) := by decide +kernel
theorem dX6_isIn_4 : decode cX6_isIn 4 = .ok (.iand, 1) := by decide +kernel
theorem dX6_isIn_5 : decode cX6_isIn 5 = .ok (.iconst 1, 1) := by decide +kernel
theorem dX6_isIn_6 : decode cX6_isIn 6 = .ok (.if_icmp .ne 7, 3) := by decide +kernel
theorem dX6_isIn_9 : decode cX6_isIn 9 = .ok (.iconst 1, 1) := by decide +kernel
theorem dX6_isIn_10 : decode cX6_isIn 10 = .ok (.goto 4, 3) := by decide +kernel
theorem dX6_isIn_13 : decode cX6_isIn 13 = .ok (.iconst 0, 1) := by decide +kernel
theorem dX6_isIn_14 : decode cX6_isIn 14 = .ok (.ireturn, 1) := by decide +kernel
theorem dX6_powerOfTen_0 : decode cX6_powerOfTen 0 = .ok (.iconst 1, 1) := by decide +kernel
theorem dX6_powerOfTen_1 : decode cX6_powerOfTen 1 = .ok (.istore_n 1, 1) := by decide +kernel
theorem dX6_powerOfTen_2 : decode cX6_powerOfTen 2 = .ok (.iconst 0, 1) := by decide +kernel
theorem dX6_powerOfTen_3 : decode cX6_powerOfTen 3 = .ok (.istore_n 2, 1) := by decide +kernel
theorem dX6_powerOfTen_4 : decode cX6_powerOfTen 4 = .ok (.iload_n 2, 1) := by decide +kernel
theorem dX6_powerOfTen_5 : decode cX6_powerOfTen 5 = .ok (.iconst 4, 1) := by decide +kernel
theorem dX6_powerOfTen_6 : decode cX6_powerOfTen 6 = .ok (.if_icmp .ge 19, 3) := by decide +kernel
theorem dX6_powerOfTen_9 : decode cX6_powerOfTen 9 = .ok (.iload_n 2, 1) := by decide +kernel
theorem dX6_powerOfTen_10 : decode cX6_powerOfTen 10 = .ok (.iload_n 0, 1) := by decide +kernel
theorem dX6_powerOfTen_11 : decode cX6_powerOfTen 11 = .ok (.if_icmp .ge 14, 3) := by decide +kernel
theorem dX6_powerOfTen_14 : decode cX6_powerOfTen 14 = .ok (.iload_n 1, 1) := by decide +kernel
theorem dX6_powerOfTen_15 : decode cX6_powerOfTen 15 = .ok (.bipush 10, 2) := by decide +kernel
theorem dX6_powerOfTen_17 : decode cX6_powerOfTen 17 = .ok (.imul, 1) := by decide +kernel
theorem dX6_powerOfTen_18 : decode cX6_powerOfTen 18 = .ok (.istore_n 1, 1) := by decide +kernel
theorem dX6_powerOfTen_19 : decode cX6_powerOfTen 19 = .ok (.iinc 2 1, 3) := by decide +kernel
theorem dX6_powerOfTen_22 : decode cX6_powerOfTen 22 = .ok (.goto (-18), 3) := by decide +kernel
theorem dX6_powerOfTen_25 : decode cX6_powerOfTen 25 = .ok (.iload_n 1, 1) := by decide +kernel
theorem dX6_powerOfTen_26 : decode cX6_powerOfTen 26 = .ok (.ireturn, 1) := by decide +kernel
theorem dX6_figureSum_0 : decode cX6_figureSum 0 = .ok (.iconst 0, 1) := by decide +kernel
theorem dX6_figureSum_1 : decode cX6_figureSum 1 = .ok (.istore_n 1, 1) := by decide +kernel
theorem dX6_figureSum_2 : decode cX6_figureSum 2 = .ok (.iload_n 0, 1) := by decide +kernel
theorem dX6_figureSum_3 : decode cX6_figureSum 3 = .ok (.istore_n 2, 1) := by decide +kernel
theorem dX6_figureSum_4 : decode cX6_figureSum 4 = .ok (.iconst 0, 1) := by decide +kernel
theorem dX6_figureSum_5 : decode cX6_figureSum 5 = .ok (.istore_n 3, 1) := by decide +kernel
theorem dX6_figureSum_6 : decode cX6_figureSum 6 = .ok (.iload_n 3, 1) := by decide +kernel
theorem dX6_figureSum_7 : decode cX6_figureSum 7 = .ok (.iconst 4, 1) := by decide +kernel
theorem dX6_figureSum_8 : decode cX6_figureSum 8 = .ok (.if_icmp .ge 21, 3) := by decide +kernel
theorem dX6_figureSum_11 : decode cX6_figureSum 11 = .ok (.iload_n 1, 1) := by decide +kernel
theorem dX6_figureSum_12 : decode cX6_figureSum 12 = .ok (.iload_n 2, 1) := by decide +kernel
theorem dX6_figureSum_13 : decode cX6_figureSum 13 = .ok (.bipush 10, 2) := by decide +kernel
theorem dX6_figureSum_15 : decode cX6_figureSum 15 = .ok (.irem, 1) := by decide +kernel
theorem dX6_figureSum_16 : decode cX6_figureSum 16 = .ok (.iadd, 1) := by decide +kernel
theorem dX6_figureSum_17 : decode cX6_figureSum 17 = .ok (.istore_n 1, 1) := by decide +kernel
theorem dX6_figureSum_18 : decode cX6_figureSum 18 = .ok (.iload_n 2, 1) := by decide +kernel
theorem dX6_figureSum_19 : decode cX6_figureSum 19 = .ok (.bipush 10, 2) := by decide +kernel
theorem dX6_figureSum_21 : decode cX6_figureSum 21 = .ok (.idiv, 1) := by decide +kernel
theorem dX6_figureSum_22 : decode cX6_figureSum 22 = .ok (.istore_n 2, 1) := by decide +kernel
theorem dX6_figureSum_23 : decode cX6_figureSum 23 = .ok (.iinc 3 1, 3) := by decide +kernel
theorem dX6_figureSum_26 : decode cX6_figureSum 26 = .ok (.goto (-20), 3) := by decide +kernel
theorem dX6_figureSum_29 : decode cX6_figureSum 29 = .ok (.iload_n 1, 1) := by decide +kernel
theorem dX6_figureSum_30 : decode cX6_figureSum 30 = .ok (.ireturn, 1) := by decide +kernel
