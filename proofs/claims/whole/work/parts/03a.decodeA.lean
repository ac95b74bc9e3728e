theorem dX0_init_0 : decode cX0_init 0 = .ok (.aload_n 0, 1) := by decide +kernel
theorem dX0_init_1 : decode cX0_init 1 = .ok (.invokespecial 3, 3) := by decide +kernel
theorem dX0_init_4 : decode cX0_init 4 = .ok (.aload_n 0, 1) := by decide +kernel
theorem dX0_init_5 : decode cX0_init 5 = .ok (.bipush 25, 2) := by decide +kernel
theorem dX0_init_7 : decode cX0_init 7 = .ok (.newarray .long, 2) := by decide +kernel
theorem dX0_init_9 : decode cX0_init 9 = .ok (.putfield 9, 3) := by decide +kernel
theorem dX0_init_12 : decode cX0_init 12 = .ok (.aload_n 0, 1) := by decide +kernel
theorem dX0_init_13 : decode cX0_init 13 = .ok (.bipush 9, 2) := by decide +kernel
theorem dX0_init_15 : decode cX0_init 15 = .ok (.newarray .long, 2) := by decide +kernel
theorem dX0_init_17 : decode cX0_init 17 = .ok (.putfield 15, 3) := by decide +kernel
theorem dX0_init_20 : decode cX0_init 20 = .ok (.aload_n 0, 1) := by decide +kernel
theorem dX0_init_21 : decode cX0_init 21 = .ok (.iconst 3, 1) := by decide +kernel
theorem dX0_init_22 : decode cX0_init 22 = .ok (.newarray .long, 2) := by decide +kernel
theorem dX0_init_24 : decode cX0_init 24 = .ok (.putfield 18, 3) := by decide +kernel
theorem dX0_init_27 : decode cX0_init 27 = .ok (.aload_n 0, 1) := by decide +kernel
theorem dX0_init_28 : decode cX0_init 28 = .ok (.iconst 4, 1) := by decide +kernel
theorem dX0_init_29 : decode cX0_init 29 = .ok (.newarray .long, 2) := by decide +kernel
theorem dX0_init_31 : decode cX0_init 31 = .ok (.putfield 21, 3) := by decide +kernel
theorem dX0_init_34 : decode cX0_init 34 = .ok (.aload_n 0, 1) := by decide +kernel
theorem dX0_init_35 : decode cX0_init 35 = .ok (.new 24, 3) := by decide +kernel
theorem dX0_init_38 : decode cX0_init 38 = .ok (.dup, 1) := by decide +kernel
theorem dX0_init_39 : decode cX0_init 39 = .ok (.invokespecial 26, 3) := by decide +kernel
theorem dX0_init_42 : decode cX0_init 42 = .ok (.putfield 27, 3) := by decide +kernel
theorem dX0_init_45 : decode cX0_init 45 = .ok (.return_, 1) := by decide +kernel
theorem dX0_weigh_0 : decode cX0_weigh 0 = .ok (.iconst 0, 1) := by decide +kernel
theorem dX0_weigh_1 : decode cX0_weigh 1 = .ok (.istore_n 3, 1) := by decide +kernel
theorem dX0_weigh_2 : decode cX0_weigh 2 = .ok (.iload_n 3, 1) := by decide +kernel
theorem dX0_weigh_3 : decode cX0_weigh 3 = .ok (.iconst 5, 1) := by decide +kernel
theorem dX0_weigh_4 : decode cX0_weigh 4 = .ok (.if_icmp .ge 43, 3) := by decide +kernel
theorem dX0_weigh_7 : decode cX0_weigh 7 = .ok (.iconst 0, 1) := by decide +kernel
theorem dX0_weigh_8 : decode cX0_weigh 8 = .ok (.istore 4, 2) := by decide +kernel
theorem dX0_weigh_10 : decode cX0_weigh 10 = .ok (.iload 4, 2) := by decide +kernel
theorem dX0_weigh_12 : decode cX0_weigh 12 = .ok (.iconst 5, 1) := by decide +kernel
theorem dX0_weigh_13 : decode cX0_weigh 13 = .ok (.if_icmp .ge 28, 3) := by decide +kernel
theorem dX0_weigh_16 : decode cX0_weigh 16 = .ok (.aload_n 0, 1) := by decide +kernel
theorem dX0_weigh_17 : decode cX0_weigh 17 = .ok (.getfield 9, 3) := by decide +kernel
theorem dX0_weigh_20 : decode cX0_weigh 20 = .ok (.iload_n 3, 1) := by decide +kernel
theorem dX0_weigh_21 : decode cX0_weigh 21 = .ok (.iconst 5, 1) := by decide +kernel
theorem dX0_weigh_22 : decode cX0_weigh 22 = .ok (.imul, 1) := by decide +kernel
theorem dX0_weigh_23 : decode cX0_weigh 23 = .ok (.iload 4, 2) := by decide +kernel
theorem dX0_weigh_25 : decode cX0_weigh 25 = .ok (.iadd, 1) := by decide +kernel
theorem dX0_weigh_26 : decode cX0_weigh 26 = .ok (.aload_n 1, 1) := by decide +kernel
theorem dX0_weigh_27 : decode cX0_weigh 27 = .ok (.iload_n 3, 1) := by decide +kernel
theorem dX0_weigh_28 : decode cX0_weigh 28 = .ok (.iload 4, 2) := by decide +kernel
theorem dX0_weigh_30 : decode cX0_weigh 30 = .ok (.iload_n 2, 1) := by decide +kernel
theorem dX0_weigh_31 : decode cX0_weigh 31 = .ok (.invokevirtual 31, 3) := by decide +kernel
theorem dX0_weigh_34 : decode cX0_weigh 34 = .ok (.lastore, 1) := by decide +kernel
theorem dX0_weigh_35 : decode cX0_weigh 35 = .ok (.iinc 4 1, 3) := by decide +kernel
theorem dX0_weigh_38 : decode cX0_weigh 38 = .ok (.goto (-28), 3) := by decide +kernel
theorem dX0_weigh_41 : decode cX0_weigh 41 = .ok (.iinc 3 1, 3) := by decide +kernel
theorem dX0_weigh_44 : decode cX0_weigh 44 = .ok (.goto (-42), 3) := by decide +kernel
theorem dX0_weigh_47 : decode cX0_weigh 47 = .ok (.return_, 1) := by decide +kernel
theorem dX0_solve_0 : decode cX0_solve 0 = .ok (.aload_n 0, 1) := by decide +kernel
theorem dX0_solve_1 : decode cX0_solve 1 = .ok (.iload_n 1, 1) := by decide +kernel
theorem dX0_solve_2 : decode cX0_solve 2 = .ok (.putfield 37, 3) := by decide +kernel
theorem dX0_solve_5 : decode cX0_solve 5 = .ok (.aload_n 0, 1) := by decide +kernel
theorem dX0_solve_6 : decode cX0_solve 6 = .ok (.iload_n 1, 1) := by decide +kernel
theorem dX0_solve_7 : decode cX0_solve 7 = .ok (.invokestatic 41, 3) := by decide +kernel
theorem dX0_solve_10 : decode cX0_solve 10 = .ok (.putfield 45, 3) := by decide +kernel
theorem dX0_solve_13 : decode cX0_solve 13 = .ok (.aload_n 0, 1) := by decide +kernel
theorem dX0_solve_14 : decode cX0_solve 14 = .ok (.invokevirtual 48, 3) := by decide +kernel
theorem dX0_solve_17 : decode cX0_solve 17 = .ok (.aload_n 0, 1) := by decide +kernel
theorem dX0_solve_18 : decode cX0_solve 18 = .ok (.aload_n 0, 1) := by decide +kernel
theorem dX0_solve_19 : decode cX0_solve 19 = .ok (.invokevirtual 51, 3) := by decide +kernel
theorem dX0_solve_22 : decode cX0_solve 22 = .ok (.putfield 55, 3) := by decide +kernel
theorem dX0_solve_25 : decode cX0_solve 25 = .ok (.aload_n 0, 1) := by decide +kernel
theorem dX0_solve_26 : decode cX0_solve 26 = .ok (.invokevirtual 59, 3) := by decide +kernel
theorem dX0_solve_29 : decode cX0_solve 29 = .ok (.aload_n 0, 1) := by decide +kernel
theorem dX0_solve_30 : decode cX0_solve 30 = .ok (.getfield 27, 3) := by decide +kernel
theorem dX0_solve_33 : decode cX0_solve 33 = .ok (.aload_n 0, 1) := by decide +kernel
theorem dX0_solve_34 : decode cX0_solve 34 = .ok (.invokevirtual 62, 3) := by decide +kernel
theorem dX0_solve_37 : decode cX0_solve 37 = .ok (.aload_n 0, 1) := by decide +kernel
theorem dX0_solve_38 : decode cX0_solve 38 = .ok (.getfield 55, 3) := by decide +kernel
theorem dX0_solve_41 : decode cX0_solve 41 = .ok (.invokevirtual 65, 3) := by decide +kernel
theorem dX0_solve_44 : decode cX0_solve 44 = .ok (.return_, 1) := by decide +kernel
theorem dX0_isOnly_0 : decode cX0_isOnly 0 = .ok (.aload_n 0, 1) := by decide +kernel
theorem dX0_isOnly_1 : decode cX0_isOnly 1 = .ok (.getfield 55, 3) := by decide +kernel
theorem dX0_isOnly_4 : decode cX0_isOnly 4 = .ok (.lconst 0, 1) := by decide +kernel
theorem dX0_isOnly_5 : decode cX0_isOnly 5 = .ok (.lcmp, 1) := by decide +kernel
theorem dX0_isOnly_6 : decode cX0_isOnly 6 = .ok (.ifCond .le 7, 3) := by decide +kernel
theorem dX0_isOnly_9 : decode cX0_isOnly 9 = .ok (.iconst 1, 1) := by decide +kernel
theorem dX0_isOnly_10 : decode cX0_isOnly 10 = .ok (.goto 4, 3) := by decide +kernel
theorem dX0_isOnly_13 : decode cX0_isOnly 13 = .ok (.iconst 0, 1) := by decide +kernel
theorem dX0_isOnly_14 : decode cX0_isOnly 14 = .ok (.ireturn, 1) := by decide +kernel
theorem dX0_isGood_0 : decode cX0_isGood 0 = .ok (.iconst 0, 1) := by decide +kernel
theorem dX0_isGood_1 : decode cX0_isGood 1 = .ok (.istore_n 1, 1) := by decide +kernel
theorem dX0_isGood_2 : decode cX0_isGood 2 = .ok (.iload_n 1, 1) := by decide +kernel
theorem dX0_isGood_3 : decode cX0_isGood 3 = .ok (.iconst 4, 1) := by decide +kernel
theorem dX0_isGood_4 : decode cX0_isGood 4 = .ok (.if_icmp .ge 33, 3) := by decide +kernel
theorem dX0_isGood_7 : decode cX0_isGood 7 = .ok (.aload_n 0, 1) := by decide +kernel
theorem dX0_isGood_8 : decode cX0_isGood 8 = .ok (.getfield 37, 3) := by decide +kernel
theorem dX0_isGood_11 : decode cX0_isGood 11 = .ok (.iload_n 1, 1) := by decide +kernel
theorem dX0_isGood_12 : decode cX0_isGood 12 = .ok (.invokestatic 69, 3) := by decide +kernel
theorem dX0_isGood_15 : decode cX0_isGood 15 = .ok (.ifCond .eq 16, 3) := by decide +kernel
theorem dX0_isGood_18 : decode cX0_isGood 18 = .ok (.aload_n 0, 1) := by decide +kernel
theorem dX0_isGood_19 : decode cX0_isGood 19 = .ok (.getfield 21, 3) := by decide +kernel
theorem dX0_isGood_22 : decode cX0_isGood 22 = .ok (.iload_n 1, 1) := by decide +kernel
theorem dX0_isGood_23 : decode cX0_isGood 23 = .ok (.laload, 1) := by decide +kernel
theorem dX0_isGood_24 : decode cX0_isGood 24 = .ok (.lconst 0, 1) := by decide +kernel
theorem dX0_isGood_25 : decode cX0_isGood 25 = .ok (.lcmp, 1) := by decide +kernel
theorem dX0_isGood_26 : decode cX0_isGood 26 = .ok (.ifCond .gt 5, 3) := by decide +kernel
theorem dX0_isGood_29 : decode cX0_isGood 29 = .ok (.iconst 0, 1) := by decide +kernel
theorem dX0_isGood_30 : decode cX0_isGood 30 = .ok (.ireturn, 1) := by decide +kernel
theorem dX0_isGood_31 : decode cX0_isGood 31 = .ok (.iinc 1 1, 3) := by decide +kernel
theorem dX0_isGood_34 : decode cX0_isGood 34 = .ok (.goto (-32), 3) := by decide +kernel
theorem dX0_isGood_37 : decode cX0_isGood 37 = .ok (.aload_n 0, 1) := by decide +kernel
theorem dX0_isGood_38 : decode cX0_isGood 38 = .ok (.invokevirtual 73, 3) := by decide +kernel
theorem dX0_isGood_41 : decode cX0_isGood 41 = .ok (.ireturn, 1) := by decide +kernel
theorem dX0_partOf_0 : decode cX0_partOf 0 = .ok (.iload_n 1, 1) := by decide +kernel
theorem dX0_partOf_1 : decode cX0_partOf 1 = .ok (.ifCond .lt 17, 3) := by decide +kernel
theorem dX0_partOf_4 : decode cX0_partOf 4 = .ok (.iload_n 1, 1) := by decide +kernel
theorem dX0_partOf_5 : decode cX0_partOf 5 = .ok (.iconst 4, 1) := by decide +kernel
theorem dX0_partOf_6 : decode cX0_partOf 6 = .ok (.if_icmp .ge 12, 3) := by decide +kernel
theorem dX0_partOf_9 : decode cX0_partOf 9 = .ok (.aload_n 0, 1) := by decide +kernel
theorem dX0_partOf_10 : decode cX0_partOf 10 = .ok (.getfield 21, 3) := by decide +kernel
theorem dX0_partOf_13 : decode cX0_partOf 13 = .ok (.iload_n 1, 1) := by decide +kernel
theorem dX0_partOf_14 : decode cX0_partOf 14 = .ok (.laload, 1) := by decide +kernel
theorem dX0_partOf_15 : decode cX0_partOf 15 = .ok (.goto 4, 3) := by decide +kernel
theorem dX0_partOf_18 : decode cX0_partOf 18 = .ok (.lconst 0, 1) := by decide +kernel
theorem dX0_partOf_19 : decode cX0_partOf 19 = .ok (.lreturn, 1) := by decide +kernel
theorem dX0_pressAbove_0 : decode cX0_pressAbove 0 = .ok (.aload_n 0, 1) := by decide +kernel
theorem dX0_pressAbove_1 : decode cX0_pressAbove 1 = .ok (.getfield 55, 3) := by decide +kernel
theorem dX0_pressAbove_4 : decode cX0_pressAbove 4 = .ok (.lneg, 1) := by decide +kernel
theorem dX0_pressAbove_5 : decode cX0_pressAbove 5 = .ok (.aload_n 0, 1) := by decide +kernel
theorem dX0_pressAbove_6 : decode cX0_pressAbove 6 = .ok (.iload_n 1, 1) := by decide +kernel
theorem dX0_pressAbove_7 : decode cX0_pressAbove 7 = .ok (.iconst 4, 1) := by decide +kernel
theorem dX0_pressAbove_8 : decode cX0_pressAbove 8 = .ok (.invokevirtual 77, 3) := by decide +kernel
theorem dX0_pressAbove_11 : decode cX0_pressAbove 11 = .ok (.lmul, 1) := by decide +kernel
theorem dX0_pressAbove_12 : decode cX0_pressAbove 12 = .ok (.lstore_n 2, 1) := by decide +kernel
theorem dX0_pressAbove_13 : decode cX0_pressAbove 13 = .ok (.iconst 0, 1) := by decide +kernel
theorem dX0_pressAbove_14 : decode cX0_pressAbove 14 = .ok (.istore 4, 2) := by decide +kernel
theorem dX0_pressAbove_16 : decode cX0_pressAbove 16 = .ok (.iload 4, 2) := by decide +kernel
theorem dX0_pressAbove_18 : decode cX0_pressAbove 18 = .ok (.iconst 4, 1) := by decide +kernel
theorem dX0_pressAbove_19 : decode cX0_pressAbove 19 = .ok (.if_icmp .ge 27, 3) := by decide +kernel
theorem dX0_pressAbove_22 : decode cX0_pressAbove 22 = .ok (.lload_n 2, 1) := by decide +kernel
theorem dX0_pressAbove_23 : decode cX0_pressAbove 23 = .ok (.aload_n 0, 1) := by decide +kernel
theorem dX0_pressAbove_24 : decode cX0_pressAbove 24 = .ok (.getfield 21, 3) := by decide +kernel
theorem dX0_pressAbove_27 : decode cX0_pressAbove 27 = .ok (.iload 4, 2) := by decide +kernel
theorem dX0_pressAbove_29 : decode cX0_pressAbove 29 = .ok (.laload, 1) := by decide +kernel
theorem dX0_pressAbove_30 : decode cX0_pressAbove 30 = .ok (.aload_n 0, 1) := by decide +kernel
theorem dX0_pressAbove_31 : decode cX0_pressAbove 31 = .ok (.iload_n 1, 1) := by decide +kernel
theorem dX0_pressAbove_32 : decode cX0_pressAbove 32 = .ok (.iload 4, 2) := by decide +kernel
theorem dX0_pressAbove_34 : decode cX0_pressAbove 34 = .ok (.invokevirtual 77, 3) := by decide +kernel
theorem dX0_pressAbove_37 : decode cX0_pressAbove 37 = .ok (.lmul, 1) := by decide +kernel
theorem dX0_pressAbove_38 : decode cX0_pressAbove 38 = .ok (.ladd, 1) := by decide +kernel
theorem dX0_pressAbove_39 : decode cX0_pressAbove 39 = .ok (.lstore_n 2, 1) := by decide +kernel
theorem dX0_pressAbove_40 : decode cX0_pressAbove 40 = .ok (.iinc 4 1, 3) := by decide +kernel
theorem dX0_pressAbove_43 : decode cX0_pressAbove 43 = .ok (.goto (-27), 3) := by decide +kernel
theorem dX0_pressAbove_46 : decode cX0_pressAbove 46 = .ok (.lload_n 2, 1) := by decide +kernel
theorem dX0_pressAbove_47 : decode cX0_pressAbove 47 = .ok (.lreturn, 1) := by decide +kernel
theorem dX0_mixedAbove_0 : decode cX0_mixedAbove 0 = .ok (.lconst 0, 1) := by decide +kernel
theorem dX0_mixedAbove_1 : decode cX0_mixedAbove 1 = .ok (.lstore_n 3, 1) := by decide +kernel
theorem dX0_mixedAbove_2 : decode cX0_mixedAbove 2 = .ok (.iconst 0, 1) := by decide +kernel
theorem dX0_mixedAbove_3 : decode cX0_mixedAbove 3 = .ok (.istore 5, 2) := by decide +kernel
theorem dX0_mixedAbove_5 : decode cX0_mixedAbove 5 = .ok (.iload 5, 2) := by decide +kernel
theorem dX0_mixedAbove_7 : decode cX0_mixedAbove 7 = .ok (.iconst 4, 1) := by decide +kernel
theorem dX0_mixedAbove_8 : decode cX0_mixedAbove 8 = .ok (.if_icmp .ge 28, 3) := by decide +kernel
theorem dX0_mixedAbove_11 : decode cX0_mixedAbove 11 = .ok (.lload_n 3, 1) := by decide +kernel
theorem dX0_mixedAbove_12 : decode cX0_mixedAbove 12 = .ok (.aload_n 0, 1) := by decide +kernel
theorem dX0_mixedAbove_13 : decode cX0_mixedAbove 13 = .ok (.getfield 21, 3) := by decide +kernel
theorem dX0_mixedAbove_16 : decode cX0_mixedAbove 16 = .ok (.iload 5, 2) := by decide +kernel
theorem dX0_mixedAbove_18 : decode cX0_mixedAbove 18 = .ok (.laload, 1) := by decide +kernel
theorem dX0_mixedAbove_19 : decode cX0_mixedAbove 19 = .ok (.aload_n 1, 1) := by decide +kernel
theorem dX0_mixedAbove_20 : decode cX0_mixedAbove 20 = .ok (.iload 5, 2) := by decide +kernel
theorem dX0_mixedAbove_22 : decode cX0_mixedAbove 22 = .ok (.iload_n 2, 1) := by decide +kernel
theorem dX0_mixedAbove_23 : decode cX0_mixedAbove 23 = .ok (.invokevirtual 81, 3) := by decide +kernel
theorem dX0_mixedAbove_26 : decode cX0_mixedAbove 26 = .ok (.i2l, 1) := by decide +kernel
theorem dX0_mixedAbove_27 : decode cX0_mixedAbove 27 = .ok (.lmul, 1) := by decide +kernel
theorem dX0_mixedAbove_28 : decode cX0_mixedAbove 28 = .ok (.ladd, 1) := by decide +kernel
theorem dX0_mixedAbove_29 : decode cX0_mixedAbove 29 = .ok (.lstore_n 3, 1) := by decide +kernel
theorem dX0_mixedAbove_30 : decode cX0_mixedAbove 30 = .ok (.iinc 5 1, 3) := by decide +kernel
theorem dX0_mixedAbove_33 : decode cX0_mixedAbove 33 = .ok (.goto (-28), 3) := by decide +kernel
theorem dX0_mixedAbove_36 : decode cX0_mixedAbove 36 = .ok (.lload_n 3, 1) := by decide +kernel
theorem dX0_mixedAbove_37 : decode cX0_mixedAbove 37 = .ok (.lreturn, 1) := by decide +kernel
theorem dX0_writeEquations_0 : decode cX0_writeEquations 0 = .ok (.iconst 0, 1) := by decide +kernel
theorem dX0_writeEquations_1 : decode cX0_writeEquations 1 = .ok (.istore_n 1, 1) := by decide +kernel
theorem dX0_writeEquations_2 : decode cX0_writeEquations 2 = .ok (.iload_n 1, 1) := by decide +kernel
theorem dX0_writeEquations_3 : decode cX0_writeEquations 3 = .ok (.iconst 3, 1) := by decide +kernel
theorem dX0_writeEquations_4 : decode cX0_writeEquations 4 = .ok (.if_icmp .ge 131, 3) := by decide +kernel
theorem dX0_writeEquations_7 : decode cX0_writeEquations 7 = .ok (.aload_n 0, 1) := by decide +kernel
theorem dX0_writeEquations_8 : decode cX0_writeEquations 8 = .ok (.getfield 37, 3) := by decide +kernel
theorem dX0_writeEquations_11 : decode cX0_writeEquations 11 = .ok (.aload_n 0, 1) := by decide +kernel
theorem dX0_writeEquations_12 : decode cX0_writeEquations 12 = .ok (.iload_n 1, 1) := by decide +kernel
theorem dX0_writeEquations_13 : decode cX0_writeEquations 13 = .ok (.invokevirtual 85, 3) := by decide +kernel
theorem dX0_writeEquations_16 : decode cX0_writeEquations 16 = .ok (.invokestatic 69, 3) := by decide +kernel
theorem dX0_writeEquations_19 : decode cX0_writeEquations 19 = .ok (.istore_n 2, 1) := by decide +kernel
theorem dX0_writeEquations_20 : decode cX0_writeEquations 20 = .ok (.iconst 0, 1) := by decide +kernel
theorem dX0_writeEquations_21 : decode cX0_writeEquations 21 = .ok (.istore_n 3, 1) := by decide +kernel
theorem dX0_writeEquations_22 : decode cX0_writeEquations 22 = .ok (.iload_n 3, 1) := by decide +kernel
theorem dX0_writeEquations_23 : decode cX0_writeEquations 23 = .ok (.iconst 3, 1) := by decide +kernel
theorem dX0_writeEquations_24 : decode cX0_writeEquations 24 = .ok (.if_icmp .ge 81, 3) := by decide +kernel
theorem dX0_writeEquations_27 : decode cX0_writeEquations 27 = .ok (.iload_n 1, 1) := by decide +kernel
theorem dX0_writeEquations_28 : decode cX0_writeEquations 28 = .ok (.iload_n 3, 1) := by decide +kernel
theorem dX0_writeEquations_29 : decode cX0_writeEquations 29 = .ok (.if_icmp .ne 7, 3) := by decide +kernel
theorem dX0_writeEquations_32 : decode cX0_writeEquations 32 = .ok (.lconst 1, 1) := by decide +kernel
theorem dX0_writeEquations_33 : decode cX0_writeEquations 33 = .ok (.goto 4, 3) := by decide +kernel
theorem dX0_writeEquations_36 : decode cX0_writeEquations 36 = .ok (.lconst 0, 1) := by decide +kernel
theorem dX0_writeEquations_37 : decode cX0_writeEquations 37 = .ok (.lstore 4, 2) := by decide +kernel
theorem dX0_writeEquations_39 : decode cX0_writeEquations 39 = .ok (.iload_n 2, 1) := by decide +kernel
theorem dX0_writeEquations_40 : decode cX0_writeEquations 40 = .ok (.ifCond .eq 22, 3) := by decide +kernel
theorem dX0_writeEquations_43 : decode cX0_writeEquations 43 = .ok (.aload_n 0, 1) := by decide +kernel
theorem dX0_writeEquations_44 : decode cX0_writeEquations 44 = .ok (.getfield 37, 3) := by decide +kernel
theorem dX0_writeEquations_47 : decode cX0_writeEquations 47 = .ok (.aload_n 0, 1) := by decide +kernel
theorem dX0_writeEquations_48 : decode cX0_writeEquations 48 = .ok (.iload_n 3, 1) := by decide +kernel
theorem dX0_writeEquations_49 : decode cX0_writeEquations 49 = .ok (.invokevirtual 85, 3) := by decide +kernel
theorem dX0_writeEquations_52 : decode cX0_writeEquations 52 = .ok (.invokestatic 69, 3) := by decide +kernel
theorem dX0_writeEquations_55 : decode cX0_writeEquations 55 = .ok (.ifCond .eq 7, 3) := by decide +kernel
theorem dX0_writeEquations_58 : decode cX0_writeEquations 58 = .ok (.iconst 1, 1) := by decide +kernel
theorem dX0_writeEquations_59 : decode cX0_writeEquations 59 = .ok (.goto 4, 3) := by decide +kernel
theorem dX0_writeEquations_62 : decode cX0_writeEquations 62 = .ok (.iconst 0, 1) := by decide +kernel
theorem dX0_writeEquations_63 : decode cX0_writeEquations 63 = .ok (.istore 6, 2) := by decide +kernel
theorem dX0_writeEquations_65 : decode cX0_writeEquations 65 = .ok (.aload_n 0, 1) := by decide +kernel
theorem dX0_writeEquations_66 : decode cX0_writeEquations 66 = .ok (.getfield 15, 3) := by decide +kernel
theorem dX0_writeEquations_69 : decode cX0_writeEquations 69 = .ok (.iload_n 1, 1) := by decide +kernel
theorem dX0_writeEquations_70 : decode cX0_writeEquations 70 = .ok (.iconst 3, 1) := by decide +kernel
theorem dX0_writeEquations_71 : decode cX0_writeEquations 71 = .ok (.imul, 1) := by decide +kernel
theorem dX0_writeEquations_72 : decode cX0_writeEquations 72 = .ok (.iload_n 3, 1) := by decide +kernel
theorem dX0_writeEquations_73 : decode cX0_writeEquations 73 = .ok (.iadd, 1) := by decide +kernel
theorem dX0_writeEquations_74 : decode cX0_writeEquations 74 = .ok (.iload 6, 2) := by decide +kernel
theorem dX0_writeEquations_76 : decode cX0_writeEquations 76 = .ok (.ifCond .eq 20, 3) := by decide +kernel
theorem dX0_writeEquations_79 : decode cX0_writeEquations 79 = .ok (.aload_n 0, 1) := by decide +kernel
theorem dX0_writeEquations_80 : decode cX0_writeEquations 80 = .ok (.aload_n 0, 1) := by decide +kernel
theorem dX0_writeEquations_81 : decode cX0_writeEquations 81 = .ok (.iload_n 1, 1) := by decide +kernel
theorem dX0_writeEquations_82 : decode cX0_writeEquations 82 = .ok (.invokevirtual 85, 3) := by decide +kernel
theorem dX0_writeEquations_85 : decode cX0_writeEquations 85 = .ok (.aload_n 0, 1) := by decide +kernel
theorem dX0_writeEquations_86 : decode cX0_writeEquations 86 = .ok (.iload_n 3, 1) := by decide +kernel
theorem dX0_writeEquations_87 : decode cX0_writeEquations 87 = .ok (.invokevirtual 85, 3) := by decide +kernel
theorem dX0_writeEquations_90 : decode cX0_writeEquations 90 = .ok (.invokevirtual 77, 3) := by decide +kernel
theorem dX0_writeEquations_93 : decode cX0_writeEquations 93 = .ok (.goto 5, 3) := by decide +kernel
theorem dX0_writeEquations_96 : decode cX0_writeEquations 96 = .ok (.lload 4, 2) := by decide +kernel
theorem dX0_writeEquations_98 : decode cX0_writeEquations 98 = .ok (.lastore, 1) := by decide +kernel
theorem dX0_writeEquations_99 : decode cX0_writeEquations 99 = .ok (.iinc 3 1, 3) := by decide +kernel
theorem dX0_writeEquations_102 : decode cX0_writeEquations 102 = .ok (.goto (-80), 3) := by decide +kernel
theorem dX0_writeEquations_105 : decode cX0_writeEquations 105 = .ok (.aload_n 0, 1) := by decide +kernel
theorem dX0_writeEquations_106 : decode cX0_writeEquations 106 = .ok (.getfield 18, 3) := by decide +kernel
theorem dX0_writeEquations_109 : decode cX0_writeEquations 109 = .ok (.iload_n 1, 1) := by decide +kernel
theorem dX0_writeEquations_110 : decode cX0_writeEquations 110 = .ok (.iload_n 2, 1) := by decide +kernel
theorem dX0_writeEquations_111 : decode cX0_writeEquations 111 = .ok (.ifCond .eq 16, 3) := by decide +kernel
theorem dX0_writeEquations_114 : decode cX0_writeEquations 114 = .ok (.aload_n 0, 1) := by decide +kernel
theorem dX0_writeEquations_115 : decode cX0_writeEquations 115 = .ok (.aload_n 0, 1) := by decide +kernel
theorem dX0_writeEquations_116 : decode cX0_writeEquations 116 = .ok (.iload_n 1, 1) := by decide +kernel
theorem dX0_writeEquations_117 : decode cX0_writeEquations 117 = .ok (.invokevirtual 85, 3) := by decide +kernel
theorem dX0_writeEquations_120 : decode cX0_writeEquations 120 = .ok (.iconst 4, 1) := by decide +kernel
theorem dX0_writeEquations_121 : decode cX0_writeEquations 121 = .ok (.invokevirtual 77, 3) := by decide +kernel
theorem dX0_writeEquations_124 : decode cX0_writeEquations 124 = .ok (.goto 4, 3) := by decide +kernel
theorem dX0_writeEquations_127 : decode cX0_writeEquations 127 = .ok (.lconst 0, 1) := by decide +kernel
theorem dX0_writeEquations_128 : decode cX0_writeEquations 128 = .ok (.lastore, 1) := by decide +kernel
theorem dX0_writeEquations_129 : decode cX0_writeEquations 129 = .ok (.iinc 1 1, 3) := by decide +kernel
theorem dX0_writeEquations_132 : decode cX0_writeEquations 132 = .ok (.goto (-130), 3) := by decide +kernel
theorem dX0_writeEquations_135 : decode cX0_writeEquations 135 = .ok (.return_, 1) := by decide +kernel
theorem dX0_solveParts_0 : decode cX0_solveParts 0 = .ok (.aload_n 0, 1) := by decide +kernel
theorem dX0_solveParts_1 : decode cX0_solveParts 1 = .ok (.getfield 55, 3) := by decide +kernel
theorem dX0_solveParts_4 : decode cX0_solveParts 4 = .ok (.lstore_n 1, 1) := by decide +kernel
theorem dX0_solveParts_5 : decode cX0_solveParts 5 = .ok (.iconst 0, 1) := by decide +kernel
theorem dX0_solveParts_6 : decode cX0_solveParts 6 = .ok (.istore_n 3, 1) := by decide +kernel
theorem dX0_solveParts_7 : decode cX0_solveParts 7 = .ok (.iload_n 3, 1) := by decide +kernel
theorem dX0_solveParts_8 : decode cX0_solveParts 8 = .ok (.iconst 3, 1) := by decide +kernel
theorem dX0_solveParts_9 : decode cX0_solveParts 9 = .ok (.if_icmp .ge 63, 3) := by decide +kernel
theorem dX0_solveParts_12 : decode cX0_solveParts 12 = .ok (.lconst 0, 1) := by decide +kernel
theorem dX0_solveParts_13 : decode cX0_solveParts 13 = .ok (.lstore 4, 2) := by decide +kernel
theorem dX0_solveParts_15 : decode cX0_solveParts 15 = .ok (.iconst 0, 1) := by decide +kernel
theorem dX0_solveParts_16 : decode cX0_solveParts 16 = .ok (.istore 6, 2) := by decide +kernel
theorem dX0_solveParts_18 : decode cX0_solveParts 18 = .ok (.iload 6, 2) := by decide +kernel
theorem dX0_solveParts_20 : decode cX0_solveParts 20 = .ok (.iconst 3, 1) := by decide +kernel
theorem dX0_solveParts_21 : decode cX0_solveParts 21 = .ok (.if_icmp .ge 29, 3) := by decide +kernel
theorem dX0_solveParts_24 : decode cX0_solveParts 24 = .ok (.lload 4, 2) := by decide +kernel
theorem dX0_solveParts_26 : decode cX0_solveParts 26 = .ok (.aload_n 0, 1) := by decide +kernel
theorem dX0_solveParts_27 : decode cX0_solveParts 27 = .ok (.iload_n 3, 1) := by decide +kernel
theorem dX0_solveParts_28 : decode cX0_solveParts 28 = .ok (.iload 6, 2) := by decide +kernel
theorem dX0_solveParts_30 : decode cX0_solveParts 30 = .ok (.invokevirtual 88, 3) := by decide +kernel
theorem dX0_solveParts_33 : decode cX0_solveParts 33 = .ok (.aload_n 0, 1) := by decide +kernel
theorem dX0_solveParts_34 : decode cX0_solveParts 34 = .ok (.getfield 18, 3) := by decide +kernel
theorem dX0_solveParts_37 : decode cX0_solveParts 37 = .ok (.iload 6, 2) := by decide +kernel
theorem dX0_solveParts_39 : decode cX0_solveParts 39 = .ok (.laload, 1) := by decide +kernel
theorem dX0_solveParts_40 : decode cX0_solveParts 40 = .ok (.lmul, 1) := by decide +kernel
theorem dX0_solveParts_41 : decode cX0_solveParts 41 = .ok (.ladd, 1) := by decide +kernel
theorem dX0_solveParts_42 : decode cX0_solveParts 42 = .ok (.lstore 4, 2) := by decide +kernel
theorem dX0_solveParts_44 : decode cX0_solveParts 44 = .ok (.iinc 6 1, 3) := by decide +kernel
theorem dX0_solveParts_47 : decode cX0_solveParts 47 = .ok (.goto (-29), 3) := by decide +kernel
theorem dX0_solveParts_50 : decode cX0_solveParts 50 = .ok (.aload_n 0, 1) := by decide +kernel
theorem dX0_solveParts_51 : decode cX0_solveParts 51 = .ok (.aload_n 0, 1) := by decide +kernel
theorem dX0_solveParts_52 : decode cX0_solveParts 52 = .ok (.iload_n 3, 1) := by decide +kernel
theorem dX0_solveParts_53 : decode cX0_solveParts 53 = .ok (.invokevirtual 85, 3) := by decide +kernel
theorem dX0_solveParts_56 : decode cX0_solveParts 56 = .ok (.lload 4, 2) := by decide +kernel
theorem dX0_solveParts_58 : decode cX0_solveParts 58 = .ok (.invokevirtual 91, 3) := by decide +kernel
theorem dX0_solveParts_61 : decode cX0_solveParts 61 = .ok (.lload_n 1, 1) := by decide +kernel
theorem dX0_solveParts_62 : decode cX0_solveParts 62 = .ok (.lload 4, 2) := by decide +kernel
theorem dX0_solveParts_64 : decode cX0_solveParts 64 = .ok (.lsub, 1) := by decide +kernel
theorem dX0_solveParts_65 : decode cX0_solveParts 65 = .ok (.lstore_n 1, 1) := by decide +kernel
theorem dX0_solveParts_66 : decode cX0_solveParts 66 = .ok (.iinc 3 1, 3) := by decide +kernel
theorem dX0_solveParts_69 : decode cX0_solveParts 69 = .ok (.goto (-62), 3) := by decide +kernel
theorem dX0_solveParts_72 : decode cX0_solveParts 72 = .ok (.aload_n 0, 1) := by decide +kernel
theorem dX0_solveParts_73 : decode cX0_solveParts 73 = .ok (.aload_n 0, 1) := by decide +kernel
theorem dX0_solveParts_74 : decode cX0_solveParts 74 = .ok (.getfield 45, 3) := by decide +kernel
theorem dX0_solveParts_77 : decode cX0_solveParts 77 = .ok (.lload_n 1, 1) := by decide +kernel
theorem dX0_solveParts_78 : decode cX0_solveParts 78 = .ok (.invokevirtual 91, 3) := by decide +kernel
theorem dX0_solveParts_81 : decode cX0_solveParts 81 = .ok (.return_, 1) := by decide +kernel
theorem dX0_misfitAbove_0 : decode cX0_misfitAbove 0 = .ok (.aload_n 0, 1) := by decide +kernel
theorem dX0_misfitAbove_1 : decode cX0_misfitAbove 1 = .ok (.getfield 55, 3) := by decide +kernel
theorem dX0_misfitAbove_4 : decode cX0_misfitAbove 4 = .ok (.aload_n 0, 1) := by decide +kernel
theorem dX0_misfitAbove_5 : decode cX0_misfitAbove 5 = .ok (.iconst 4, 1) := by decide +kernel
theorem dX0_misfitAbove_6 : decode cX0_misfitAbove 6 = .ok (.iconst 4, 1) := by decide +kernel
theorem dX0_misfitAbove_7 : decode cX0_misfitAbove 7 = .ok (.invokevirtual 77, 3) := by decide +kernel
theorem dX0_misfitAbove_10 : decode cX0_misfitAbove 10 = .ok (.lmul, 1) := by decide +kernel
theorem dX0_misfitAbove_11 : decode cX0_misfitAbove 11 = .ok (.lstore_n 1, 1) := by decide +kernel
theorem dX0_misfitAbove_12 : decode cX0_misfitAbove 12 = .ok (.iconst 0, 1) := by decide +kernel
theorem dX0_misfitAbove_13 : decode cX0_misfitAbove 13 = .ok (.istore_n 3, 1) := by decide +kernel
theorem dX0_misfitAbove_14 : decode cX0_misfitAbove 14 = .ok (.iload_n 3, 1) := by decide +kernel
theorem dX0_misfitAbove_15 : decode cX0_misfitAbove 15 = .ok (.iconst 3, 1) := by decide +kernel
theorem dX0_misfitAbove_16 : decode cX0_misfitAbove 16 = .ok (.if_icmp .ge 28, 3) := by decide +kernel
theorem dX0_misfitAbove_19 : decode cX0_misfitAbove 19 = .ok (.lload_n 1, 1) := by decide +kernel
theorem dX0_misfitAbove_20 : decode cX0_misfitAbove 20 = .ok (.aload_n 0, 1) := by decide +kernel
theorem dX0_misfitAbove_21 : decode cX0_misfitAbove 21 = .ok (.getfield 18, 3) := by decide +kernel
theorem dX0_misfitAbove_24 : decode cX0_misfitAbove 24 = .ok (.iload_n 3, 1) := by decide +kernel
theorem dX0_misfitAbove_25 : decode cX0_misfitAbove 25 = .ok (.laload, 1) := by decide +kernel
theorem dX0_misfitAbove_26 : decode cX0_misfitAbove 26 = .ok (.aload_n 0, 1) := by decide +kernel
theorem dX0_misfitAbove_27 : decode cX0_misfitAbove 27 = .ok (.aload_n 0, 1) := by decide +kernel
theorem dX0_misfitAbove_28 : decode cX0_misfitAbove 28 = .ok (.iload_n 3, 1) := by decide +kernel
theorem dX0_misfitAbove_29 : decode cX0_misfitAbove 29 = .ok (.invokevirtual 85, 3) := by decide +kernel
theorem dX0_misfitAbove_32 : decode cX0_misfitAbove 32 = .ok (.invokevirtual 95, 3) := by decide +kernel
theorem dX0_misfitAbove_35 : decode cX0_misfitAbove 35 = .ok (.lmul, 1) := by decide +kernel
theorem dX0_misfitAbove_36 : decode cX0_misfitAbove 36 = .ok (.lsub, 1) := by decide +kernel
theorem dX0_misfitAbove_37 : decode cX0_misfitAbove 37 = .ok (.lstore_n 1, 1) := by decide +kernel
theorem dX0_misfitAbove_38 : decode cX0_misfitAbove 38 = .ok (.iinc 3 1, 3) := by decide +kernel
theorem dX0_misfitAbove_41 : decode cX0_misfitAbove 41 = .ok (.goto (-27), 3) := by decide +kernel
theorem dX0_misfitAbove_44 : decode cX0_misfitAbove 44 = .ok (.lload_n 1, 1) := by decide +kernel
theorem dX0_misfitAbove_45 : decode cX0_misfitAbove 45 = .ok (.lreturn, 1) := by decide +kernel
theorem dX0_determinant_0 : decode cX0_determinant 0 = .ok (.lconst 0, 1) := by decide +kernel
theorem dX0_determinant_1 : decode cX0_determinant 1 = .ok (.lstore_n 1, 1) := by decide +kernel
theorem dX0_determinant_2 : decode cX0_determinant 2 = .ok (.iconst 0, 1) := by decide +kernel
theorem dX0_determinant_3 : decode cX0_determinant 3 = .ok (.istore_n 3, 1) := by decide +kernel
theorem dX0_determinant_4 : decode cX0_determinant 4 = .ok (.iload_n 3, 1) := by decide +kernel
theorem dX0_determinant_5 : decode cX0_determinant 5 = .ok (.iconst 3, 1) := by decide +kernel
theorem dX0_determinant_6 : decode cX0_determinant 6 = .ok (.if_icmp .ge 25, 3) := by decide +kernel
theorem dX0_determinant_9 : decode cX0_determinant 9 = .ok (.lload_n 1, 1) := by decide +kernel
theorem dX0_determinant_10 : decode cX0_determinant 10 = .ok (.aload_n 0, 1) := by decide +kernel
theorem dX0_determinant_11 : decode cX0_determinant 11 = .ok (.getfield 15, 3) := by decide +kernel
theorem dX0_determinant_14 : decode cX0_determinant 14 = .ok (.iload_n 3, 1) := by decide +kernel
theorem dX0_determinant_15 : decode cX0_determinant 15 = .ok (.laload, 1) := by decide +kernel
theorem dX0_determinant_16 : decode cX0_determinant 16 = .ok (.aload_n 0, 1) := by decide +kernel
theorem dX0_determinant_17 : decode cX0_determinant 17 = .ok (.iconst 0, 1) := by decide +kernel
theorem dX0_determinant_18 : decode cX0_determinant 18 = .ok (.iload_n 3, 1) := by decide +kernel
theorem dX0_determinant_19 : decode cX0_determinant 19 = .ok (.invokevirtual 88, 3) := by decide +kernel
theorem dX0_determinant_22 : decode cX0_determinant 22 = .ok (.lmul, 1) := by decide +kernel
theorem dX0_determinant_23 : decode cX0_determinant 23 = .ok (.ladd, 1) := by decide +kernel
theorem dX0_determinant_24 : decode cX0_determinant 24 = .ok (.lstore_n 1, 1) := by decide +kernel
theorem dX0_determinant_25 : decode cX0_determinant 25 = .ok (.iinc 3 1, 3) := by decide +kernel
theorem dX0_determinant_28 : decode cX0_determinant 28 = .ok (.goto (-24), 3) := by decide +kernel
theorem dX0_determinant_31 : decode cX0_determinant 31 = .ok (.lload_n 1, 1) := by decide +kernel
theorem dX0_determinant_32 : decode cX0_determinant 32 = .ok (.lreturn, 1) := by decide +kernel
theorem dX0_cofactor_0 : decode cX0_cofactor 0 = .ok (.aload_n 0, 1) := by decide +kernel
theorem dX0_cofactor_1 : decode cX0_cofactor 1 = .ok (.iload_n 1, 1) := by decide +kernel
theorem dX0_cofactor_2 : decode cX0_cofactor 2 = .ok (.iconst 1, 1) := by decide +kernel
theorem dX0_cofactor_3 : decode cX0_cofactor 3 = .ok (.iadd, 1) := by decide +kernel
theorem dX0_cofactor_4 : decode cX0_cofactor 4 = .ok (.iload_n 2, 1) := by decide +kernel
theorem dX0_cofactor_5 : decode cX0_cofactor 5 = .ok (.iconst 1, 1) := by decide +kernel
theorem dX0_cofactor_6 : decode cX0_cofactor 6 = .ok (.iadd, 1) := by decide +kernel
theorem dX0_cofactor_7 : decode cX0_cofactor 7 = .ok (.invokevirtual 99, 3) := by decide +kernel
theorem dX0_cofactor_10 : decode cX0_cofactor 10 = .ok (.aload_n 0, 1) := by decide +kernel
theorem dX0_cofactor_11 : decode cX0_cofactor 11 = .ok (.iload_n 1, 1) := by decide +kernel
theorem dX0_cofactor_12 : decode cX0_cofactor 12 = .ok (.iconst 2, 1) := by decide +kernel
theorem dX0_cofactor_13 : decode cX0_cofactor 13 = .ok (.iadd, 1) := by decide +kernel
theorem dX0_cofactor_14 : decode cX0_cofactor 14 = .ok (.iload_n 2, 1) := by decide +kernel
theorem dX0_cofactor_15 : decode cX0_cofactor 15 = .ok (.iconst 2, 1) := by decide +kernel
theorem dX0_cofactor_16 : decode cX0_cofactor 16 = .ok (.iadd, 1) := by decide +kernel
theorem dX0_cofactor_17 : decode cX0_cofactor 17 = .ok (.invokevirtual 99, 3) := by decide +kernel
theorem dX0_cofactor_20 : decode cX0_cofactor 20 = .ok (.lmul, 1) := by decide +kernel
theorem dX0_cofactor_21 : decode cX0_cofactor 21 = .ok (.aload_n 0, 1) := by decide +kernel
theorem dX0_cofactor_22 : decode cX0_cofactor 22 = .ok (.iload_n 1, 1) := by decide +kernel
theorem dX0_cofactor_23 : decode cX0_cofactor 23 = .ok (.iconst 1, 1) := by decide +kernel
theorem dX0_cofactor_24 : decode cX0_cofactor 24 = .ok (.iadd, 1) := by decide +kernel
theorem dX0_cofactor_25 : decode cX0_cofactor 25 = .ok (.iload_n 2, 1) := by decide +kernel
theorem dX0_cofactor_26 : decode cX0_cofactor 26 = .ok (.iconst 2, 1) := by decide +kernel
theorem dX0_cofactor_27 : decode cX0_cofactor 27 = .ok (.iadd, 1) := by decide +kernel
theorem dX0_cofactor_28 : decode cX0_cofactor 28 = .ok (.invokevirtual 99, 3) := by decide +kernel
theorem dX0_cofactor_31 : decode cX0_cofactor 31 = .ok (.aload_n 0, 1) := by decide +kernel
theorem dX0_cofactor_32 : decode cX0_cofactor 32 = .ok (.iload_n 1, 1) := by decide +kernel
theorem dX0_cofactor_33 : decode cX0_cofactor 33 = .ok (.iconst 2, 1) := by decide +kernel
theorem dX0_cofactor_34 : decode cX0_cofactor 34 = .ok (.iadd, 1) := by decide +kernel
theorem dX0_cofactor_35 : decode cX0_cofactor 35 = .ok (.iload_n 2, 1) := by decide +kernel
theorem dX0_cofactor_36 : decode cX0_cofactor 36 = .ok (.iconst 1, 1) := by decide +kernel
theorem dX0_cofactor_37 : decode cX0_cofactor 37 = .ok (.iadd, 1) := by decide +kernel
theorem dX0_cofactor_38 : decode cX0_cofactor 38 = .ok (.invokevirtual 99, 3) := by decide +kernel
theorem dX0_cofactor_41 : decode cX0_cofactor 41 = .ok (.lmul, 1) := by decide +kernel
theorem dX0_cofactor_42 : decode cX0_cofactor 42 = .ok (.lsub, 1) := by decide +kernel
theorem dX0_cofactor_43 : decode cX0_cofactor 43 = .ok (.lreturn, 1) := by decide +kernel
theorem dX0_entry_0 : decode cX0_entry 0 = .ok (.iload_n 1, 1) := by decide +kernel
theorem dX0_entry_1 : decode cX0_entry 1 = .ok (.iconst 3, 1) := by decide +kernel
theorem dX0_entry_2 : decode cX0_entry 2 = .ok (.irem, 1) := by decide +kernel
theorem dX0_entry_3 : decode cX0_entry 3 = .ok (.iconst 3, 1) := by decide +kernel
theorem dX0_entry_4 : decode cX0_entry 4 = .ok (.imul, 1) := by decide +kernel
theorem dX0_entry_5 : decode cX0_entry 5 = .ok (.iload_n 2, 1) := by decide +kernel
theorem dX0_entry_6 : decode cX0_entry 6 = .ok (.iconst 3, 1) := by decide +kernel
theorem dX0_entry_7 : decode cX0_entry 7 = .ok (.irem, 1) := by decide +kernel
theorem dX0_entry_8 : decode cX0_entry 8 = .ok (.iadd, 1) := by decide +kernel
theorem dX0_entry_9 : decode cX0_entry 9 = .ok (.istore_n 3, 1) := by decide +kernel
theorem dX0_entry_10 : decode cX0_entry 10 = .ok (.iload_n 3, 1) := by decide +kernel
theorem dX0_entry_11 : decode cX0_entry 11 = .ok (.ifCond .lt 18, 3) := by decide +kernel
theorem dX0_entry_14 : decode cX0_entry 14 = .ok (.iload_n 3, 1) := by decide +kernel
theorem dX0_entry_15 : decode cX0_entry 15 = .ok (.bipush 9, 2) := by decide +kernel
theorem dX0_entry_17 : decode cX0_entry 17 = .ok (.if_icmp .ge 12, 3) := by decide +kernel
theorem dX0_entry_20 : decode cX0_entry 20 = .ok (.aload_n 0, 1) := by decide +kernel
theorem dX0_entry_21 : decode cX0_entry 21 = .ok (.getfield 15, 3) := by decide +kernel
theorem dX0_entry_24 : decode cX0_entry 24 = .ok (.iload_n 3, 1) := by decide +kernel
theorem dX0_entry_25 : decode cX0_entry 25 = .ok (.laload, 1) := by decide +kernel
theorem dX0_entry_26 : decode cX0_entry 26 = .ok (.goto 4, 3) := by decide +kernel
theorem dX0_entry_29 : decode cX0_entry 29 = .ok (.lconst 0, 1) := by decide +kernel
theorem dX0_entry_30 : decode cX0_entry 30 = .ok (.lreturn, 1) := by decide +kernel
theorem dX0_putPart_0 : decode cX0_putPart 0 = .ok (.iload_n 1, 1) := by decide +kernel
theorem dX0_putPart_1 : decode cX0_putPart 1 = .ok (.ifCond .lt 15, 3) := by decide +kernel
theorem dX0_putPart_4 : decode cX0_putPart 4 = .ok (.iload_n 1, 1) := by decide +kernel
theorem dX0_putPart_5 : decode cX0_putPart 5 = .ok (.iconst 4, 1) := by decide +kernel
theorem dX0_putPart_6 : decode cX0_putPart 6 = .ok (.if_icmp .ge 10, 3) := by decide +kernel
theorem dX0_putPart_9 : decode cX0_putPart 9 = .ok (.aload_n 0, 1) := by decide +kernel
theorem dX0_putPart_10 : decode cX0_putPart 10 = .ok (.getfield 21, 3) := by decide +kernel
theorem dX0_putPart_13 : decode cX0_putPart 13 = .ok (.iload_n 1, 1) := by decide +kernel
theorem dX0_putPart_14 : decode cX0_putPart 14 = .ok (.lload_n 2, 1) := by decide +kernel
theorem dX0_putPart_15 : decode cX0_putPart 15 = .ok (.lastore, 1) := by decide +kernel
theorem dX0_putPart_16 : decode cX0_putPart 16 = .ok (.return_, 1) := by decide +kernel
theorem dX0_otherAt_0 : decode cX0_otherAt 0 = .ok (.iload_n 1, 1) := by decide +kernel
theorem dX0_otherAt_1 : decode cX0_otherAt 1 = .ok (.aload_n 0, 1) := by decide +kernel
theorem dX0_otherAt_2 : decode cX0_otherAt 2 = .ok (.getfield 45, 3) := by decide +kernel
theorem dX0_otherAt_5 : decode cX0_otherAt 5 = .ok (.if_icmp .ge 7, 3) := by decide +kernel
theorem dX0_otherAt_8 : decode cX0_otherAt 8 = .ok (.iload_n 1, 1) := by decide +kernel
theorem dX0_otherAt_9 : decode cX0_otherAt 9 = .ok (.goto 6, 3) := by decide +kernel
theorem dX0_otherAt_12 : decode cX0_otherAt 12 = .ok (.iload_n 1, 1) := by decide +kernel
theorem dX0_otherAt_13 : decode cX0_otherAt 13 = .ok (.iconst 1, 1) := by decide +kernel
theorem dX0_otherAt_14 : decode cX0_otherAt 14 = .ok (.iadd, 1) := by decide +kernel
theorem dX0_otherAt_15 : decode cX0_otherAt 15 = .ok (.ireturn, 1) := by decide +kernel
theorem dX0_fromBase_0 : decode cX0_fromBase 0 = .ok (.aload_n 0, 1) := by decide +kernel
theorem dX0_fromBase_1 : decode cX0_fromBase 1 = .ok (.iload_n 1, 1) := by decide +kernel
theorem dX0_fromBase_2 : decode cX0_fromBase 2 = .ok (.iload_n 2, 1) := by decide +kernel
theorem dX0_fromBase_3 : decode cX0_fromBase 3 = .ok (.invokevirtual 102, 3) := by decide +kernel
theorem dX0_fromBase_6 : decode cX0_fromBase 6 = .ok (.aload_n 0, 1) := by decide +kernel
theorem dX0_fromBase_7 : decode cX0_fromBase 7 = .ok (.iload_n 1, 1) := by decide +kernel
theorem dX0_fromBase_8 : decode cX0_fromBase 8 = .ok (.aload_n 0, 1) := by decide +kernel
theorem dX0_fromBase_9 : decode cX0_fromBase 9 = .ok (.getfield 45, 3) := by decide +kernel
theorem dX0_fromBase_12 : decode cX0_fromBase 12 = .ok (.invokevirtual 102, 3) := by decide +kernel
theorem dX0_fromBase_15 : decode cX0_fromBase 15 = .ok (.lsub, 1) := by decide +kernel
theorem dX0_fromBase_16 : decode cX0_fromBase 16 = .ok (.aload_n 0, 1) := by decide +kernel
theorem dX0_fromBase_17 : decode cX0_fromBase 17 = .ok (.aload_n 0, 1) := by decide +kernel
theorem dX0_fromBase_18 : decode cX0_fromBase 18 = .ok (.getfield 45, 3) := by decide +kernel
theorem dX0_fromBase_21 : decode cX0_fromBase 21 = .ok (.iload_n 2, 1) := by decide +kernel
theorem dX0_fromBase_22 : decode cX0_fromBase 22 = .ok (.invokevirtual 102, 3) := by decide +kernel
theorem dX0_fromBase_25 : decode cX0_fromBase 25 = .ok (.lsub, 1) := by decide +kernel
theorem dX0_fromBase_26 : decode cX0_fromBase 26 = .ok (.aload_n 0, 1) := by decide +kernel
theorem dX0_fromBase_27 : decode cX0_fromBase 27 = .ok (.aload_n 0, 1) := by decide +kernel
theorem dX0_fromBase_28 : decode cX0_fromBase 28 = .ok (.getfield 45, 3) := by decide +kernel
theorem dX0_fromBase_31 : decode cX0_fromBase 31 = .ok (.aload_n 0, 1) := by decide +kernel
theorem dX0_fromBase_32 : decode cX0_fromBase 32 = .ok (.getfield 45, 3) := by decide +kernel
theorem dX0_fromBase_35 : decode cX0_fromBase 35 = .ok (.invokevirtual 102, 3) := by decide +kernel
theorem dX0_fromBase_38 : decode cX0_fromBase 38 = .ok (.ladd, 1) := by decide +kernel
theorem dX0_fromBase_39 : decode cX0_fromBase 39 = .ok (.lreturn, 1) := by decide +kernel
theorem dX0_productOf_0 : decode cX0_productOf 0 = .ok (.iload_n 1, 1) := by decide +kernel
theorem dX0_productOf_1 : decode cX0_productOf 1 = .ok (.iconst 5, 1) := by decide +kernel
theorem dX0_productOf_2 : decode cX0_productOf 2 = .ok (.imul, 1) := by decide +kernel
theorem dX0_productOf_3 : decode cX0_productOf 3 = .ok (.iload_n 2, 1) := by decide +kernel
theorem dX0_productOf_4 : decode cX0_productOf 4 = .ok (.iadd, 1) := by decide +kernel
theorem dX0_productOf_5 : decode cX0_productOf 5 = .ok (.istore_n 3, 1) := by decide +kernel
theorem dX0_productOf_6 : decode cX0_productOf 6 = .ok (.iload_n 3, 1) := by decide +kernel
theorem dX0_productOf_7 : decode cX0_productOf 7 = .ok (.ifCond .lt 18, 3) := by decide +kernel
theorem dX0_productOf_10 : decode cX0_productOf 10 = .ok (.iload_n 3, 1) := by decide +kernel
theorem dX0_productOf_11 : decode cX0_productOf 11 = .ok (.bipush 25, 2) := by decide +kernel
theorem dX0_productOf_13 : decode cX0_productOf 13 = .ok (.if_icmp .ge 12, 3) := by decide +kernel
theorem dX0_productOf_16 : decode cX0_productOf 16 = .ok (.aload_n 0, 1) := by decide +kernel
theorem dX0_productOf_17 : decode cX0_productOf 17 = .ok (.getfield 9, 3) := by decide +kernel
theorem dX0_productOf_20 : decode cX0_productOf 20 = .ok (.iload_n 3, 1) := by decide +kernel
theorem dX0_productOf_21 : decode cX0_productOf 21 = .ok (.laload, 1) := by decide +kernel
theorem dX0_productOf_22 : decode cX0_productOf 22 = .ok (.goto 4, 3) := by decide +kernel
theorem dX0_productOf_25 : decode cX0_productOf 25 = .ok (.lconst 0, 1) := by decide +kernel
theorem dX0_productOf_26 : decode cX0_productOf 26 = .ok (.lreturn, 1) := by decide +kernel
theorem dX0_firstOf_0 : decode cX0_firstOf 0 = .ok (.iconst 0, 1) := by decide +kernel
theorem dX0_firstOf_1 : decode cX0_firstOf 1 = .ok (.istore_n 1, 1) := by decide +kernel
theorem dX0_firstOf_2 : decode cX0_firstOf 2 = .ok (.iload_n 1, 1) := by decide +kernel
theorem dX0_firstOf_3 : decode cX0_firstOf 3 = .ok (.iconst 4, 1) := by decide +kernel
theorem dX0_firstOf_4 : decode cX0_firstOf 4 = .ok (.if_icmp .ge 19, 3) := by decide +kernel
theorem dX0_firstOf_7 : decode cX0_firstOf 7 = .ok (.iload_n 0, 1) := by decide +kernel
theorem dX0_firstOf_8 : decode cX0_firstOf 8 = .ok (.iload_n 1, 1) := by decide +kernel
theorem dX0_firstOf_9 : decode cX0_firstOf 9 = .ok (.invokestatic 69, 3) := by decide +kernel
theorem dX0_firstOf_12 : decode cX0_firstOf 12 = .ok (.ifCond .eq 5, 3) := by decide +kernel
theorem dX0_firstOf_15 : decode cX0_firstOf 15 = .ok (.iload_n 1, 1) := by decide +kernel
theorem dX0_firstOf_16 : decode cX0_firstOf 16 = .ok (.ireturn, 1) := by decide +kernel
theorem dX0_firstOf_17 : decode cX0_firstOf 17 = .ok (.iinc 1 1, 3) := by decide +kernel
theorem dX0_firstOf_20 : decode cX0_firstOf 20 = .ok (.goto (-18), 3) := by decide +kernel
theorem dX0_firstOf_23 : decode cX0_firstOf 23 = .ok (.iconst 0, 1) := by decide +kernel
theorem dX0_firstOf_24 : decode cX0_firstOf 24 = .ok (.ireturn, 1) := by decide +kernel
theorem dX1_init_0 : decode cX1_init 0 = .ok (.aload_n 0, 1) := by decide +kernel
theorem dX1_init_1 : decode cX1_init 1 = .ok (.invokespecial 3, 3) := by decide +kernel
theorem dX1_init_4 : decode cX1_init 4 = .ok (.aload_n 0, 1) := by decide +kernel
theorem dX1_init_5 : decode cX1_init 5 = .ok (.lconst 0, 1) := by decide +kernel
theorem dX1_init_6 : decode cX1_init 6 = .ok (.putfield 9, 3) := by decide +kernel
theorem dX1_init_9 : decode cX1_init 9 = .ok (.aload_n 0, 1) := by decide +kernel
theorem dX1_init_10 : decode cX1_init 10 = .ok (.lconst 1, 1) := by decide +kernel
theorem dX1_init_11 : decode cX1_init 11 = .ok (.putfield 15, 3) := by decide +kernel
theorem dX1_init_14 : decode cX1_init 14 = .ok (.return_, 1) := by decide +kernel
theorem dX1_put_0 : decode cX1_put 0 = .ok (.lload_n 1, 1) := by decide +kernel
theorem dX1_put_1 : decode cX1_put 1 = .ok (.invokestatic 18, 3) := by decide +kernel
theorem dX1_put_4 : decode cX1_put 4 = .ok (.lload_n 3, 1) := by decide +kernel
theorem dX1_put_5 : decode cX1_put 5 = .ok (.invokestatic 24, 3) := by decide +kernel
theorem dX1_put_8 : decode cX1_put 8 = .ok (.lstore 5, 2) := by decide +kernel
theorem dX1_put_10 : decode cX1_put 10 = .ok (.lload_n 3, 1) := by decide +kernel
theorem dX1_put_11 : decode cX1_put 11 = .ok (.lconst 0, 1) := by decide +kernel
theorem dX1_put_12 : decode cX1_put 12 = .ok (.lcmp, 1) := by decide +kernel
theorem dX1_put_13 : decode cX1_put 13 = .ok (.ifCond .le 10, 3) := by decide +kernel
theorem dX1_put_16 : decode cX1_put 16 = .ok (.lload 5, 2) := by decide +kernel
theorem dX1_put_18 : decode cX1_put 18 = .ok (.lconst 0, 1) := by decide +kernel
theorem dX1_put_19 : decode cX1_put 19 = .ok (.lcmp, 1) := by decide +kernel
theorem dX1_put_20 : decode cX1_put 20 = .ok (.ifCond .gt 14, 3) := by decide +kernel
theorem dX1_put_23 : decode cX1_put 23 = .ok (.aload_n 0, 1) := by decide +kernel
theorem dX1_put_24 : decode cX1_put 24 = .ok (.lconst 0, 1) := by decide +kernel
theorem dX1_put_25 : decode cX1_put 25 = .ok (.putfield 9, 3) := by decide +kernel
theorem dX1_put_28 : decode cX1_put 28 = .ok (.aload_n 0, 1) := by decide +kernel
theorem dX1_put_29 : decode cX1_put 29 = .ok (.lconst 1, 1) := by decide +kernel
theorem dX1_put_30 : decode cX1_put 30 = .ok (.putfield 15, 3) := by decide +kernel
theorem dX1_put_33 : decode cX1_put 33 = .ok (.return_, 1) := by decide +kernel
theorem dX1_put_34 : decode cX1_put 34 = .ok (.aload_n 0, 1) := by decide +kernel
theorem dX1_put_35 : decode cX1_put 35 = .ok (.lload_n 1, 1) := by decide +kernel
theorem dX1_put_36 : decode cX1_put 36 = .ok (.lload 5, 2) := by decide +kernel
theorem dX1_put_38 : decode cX1_put 38 = .ok (.ldiv, 1) := by decide +kernel
theorem dX1_put_39 : decode cX1_put 39 = .ok (.putfield 9, 3) := by decide +kernel
theorem dX1_put_42 : decode cX1_put 42 = .ok (.aload_n 0, 1) := by decide +kernel
theorem dX1_put_43 : decode cX1_put 43 = .ok (.lload_n 3, 1) := by decide +kernel
theorem dX1_put_44 : decode cX1_put 44 = .ok (.lload 5, 2) := by decide +kernel
theorem dX1_put_46 : decode cX1_put 46 = .ok (.ldiv, 1) := by decide +kernel
theorem dX1_put_47 : decode cX1_put 47 = .ok (.putfield 15, 3) := by decide +kernel
theorem dX1_put_50 : decode cX1_put 50 = .ok (.return_, 1) := by decide +kernel
theorem dX1_copy_0 : decode cX1_copy 0 = .ok (.aload_n 0, 1) := by decide +kernel
theorem dX1_copy_1 : decode cX1_copy 1 = .ok (.aload_n 1, 1) := by decide +kernel
theorem dX1_copy_2 : decode cX1_copy 2 = .ok (.getfield 9, 3) := by decide +kernel
theorem dX1_copy_5 : decode cX1_copy 5 = .ok (.putfield 9, 3) := by decide +kernel
theorem dX1_copy_8 : decode cX1_copy 8 = .ok (.aload_n 0, 1) := by decide +kernel
theorem dX1_copy_9 : decode cX1_copy 9 = .ok (.aload_n 1, 1) := by decide +kernel
theorem dX1_copy_10 : decode cX1_copy 10 = .ok (.getfield 15, 3) := by decide +kernel
theorem dX1_copy_13 : decode cX1_copy 13 = .ok (.putfield 15, 3) := by decide +kernel
theorem dX1_copy_16 : decode cX1_copy 16 = .ok (.return_, 1) := by decide +kernel
theorem dX1_part_0 : decode cX1_part 0 = .ok (.iload_n 1, 1) := by decide +kernel
theorem dX1_part_1 : decode cX1_part 1 = .ok (.ifCond .ne 10, 3) := by decide +kernel
theorem dX1_part_4 : decode cX1_part 4 = .ok (.aload_n 0, 1) := by decide +kernel
theorem dX1_part_5 : decode cX1_part 5 = .ok (.getfield 9, 3) := by decide +kernel
theorem dX1_part_8 : decode cX1_part 8 = .ok (.goto 7, 3) := by decide +kernel
theorem dX1_part_11 : decode cX1_part 11 = .ok (.aload_n 0, 1) := by decide +kernel
theorem dX1_part_12 : decode cX1_part 12 = .ok (.getfield 15, 3) := by decide +kernel
theorem dX1_part_15 : decode cX1_part 15 = .ok (.lreturn, 1) := by decide +kernel
theorem dX1_against_0 : decode cX1_against 0 = .ok (.aload_n 0, 1) := by decide +kernel
theorem dX1_against_1 : decode cX1_against 1 = .ok (.getfield 9, 3) := by decide +kernel
theorem dX1_against_4 : decode cX1_against 4 = .ok (.lstore_n 2, 1) := by decide +kernel
theorem dX1_against_5 : decode cX1_against 5 = .ok (.aload_n 0, 1) := by decide +kernel
theorem dX1_against_6 : decode cX1_against 6 = .ok (.getfield 15, 3) := by decide +kernel
theorem dX1_against_9 : decode cX1_against 9 = .ok (.lstore 4, 2) := by decide +kernel
theorem dX1_against_11 : decode cX1_against 11 = .ok (.aload_n 1, 1) := by decide +kernel
theorem dX1_against_12 : decode cX1_against 12 = .ok (.getfield 9, 3) := by decide +kernel
theorem dX1_against_15 : decode cX1_against 15 = .ok (.lstore 6, 2) := by decide +kernel
theorem dX1_against_17 : decode cX1_against 17 = .ok (.aload_n 1, 1) := by decide +kernel
theorem dX1_against_18 : decode cX1_against 18 = .ok (.getfield 15, 3) := by decide +kernel
theorem dX1_against_21 : decode cX1_against 21 = .ok (.lstore 8, 2) := by decide +kernel
theorem dX1_against_23 : decode cX1_against 23 = .ok (.iconst 1, 1) := by decide +kernel
theorem dX1_against_24 : decode cX1_against 24 = .ok (.istore 10, 2) := by decide +kernel
theorem dX1_against_26 : decode cX1_against 26 = .ok (.iconst 0, 1) := by decide +kernel
theorem dX1_against_27 : decode cX1_against 27 = .ok (.istore 11, 2) := by decide +kernel
theorem dX1_against_29 : decode cX1_against 29 = .ok (.iload 11, 2) := by decide +kernel
theorem dX1_against_31 : decode cX1_against 31 = .ok (.sipush 200, 3) := by decide +kernel
theorem dX1_against_34 : decode cX1_against 34 = .ok (.if_icmp .ge 106, 3) := by decide +kernel
theorem dX1_against_37 : decode cX1_against 37 = .ok (.lload 4, 2) := by decide +kernel
theorem dX1_against_39 : decode cX1_against 39 = .ok (.lconst 0, 1) := by decide +kernel
theorem dX1_against_40 : decode cX1_against 40 = .ok (.lcmp, 1) := by decide +kernel
theorem dX1_against_41 : decode cX1_against 41 = .ok (.ifCond .le 99, 3) := by decide +kernel
theorem dX1_against_44 : decode cX1_against 44 = .ok (.lload 8, 2) := by decide +kernel
theorem dX1_against_46 : decode cX1_against 46 = .ok (.lconst 0, 1) := by decide +kernel
theorem dX1_against_47 : decode cX1_against 47 = .ok (.lcmp, 1) := by decide +kernel
theorem dX1_against_48 : decode cX1_against 48 = .ok (.ifCond .le 92, 3) := by decide +kernel
theorem dX1_against_51 : decode cX1_against 51 = .ok (.lload_n 2, 1) := by decide +kernel
theorem dX1_against_52 : decode cX1_against 52 = .ok (.lload 4, 2) := by decide +kernel
theorem dX1_against_54 : decode cX1_against 54 = .ok (.ldiv, 1) := by decide +kernel
theorem dX1_against_55 : decode cX1_against 55 = .ok (.lload 6, 2) := by decide +kernel
theorem dX1_against_57 : decode cX1_against 57 = .ok (.lload 8, 2) := by decide +kernel
theorem dX1_against_59 : decode cX1_against 59 = .ok (.ldiv, 1) := by decide +kernel
theorem dX1_against_60 : decode cX1_against 60 = .ok (.invokestatic 28, 3) := by decide +kernel
theorem dX1_against_63 : decode cX1_against 63 = .ok (.istore 12, 2) := by decide +kernel
theorem dX1_against_65 : decode cX1_against 65 = .ok (.lload_n 2, 1) := by decide +kernel
theorem dX1_against_66 : decode cX1_against 66 = .ok (.lload 4, 2) := by decide +kernel
theorem dX1_against_68 : decode cX1_against 68 = .ok (.lrem, 1) := by decide +kernel
theorem dX1_against_69 : decode cX1_against 69 = .ok (.lstore 13, 2) := by decide +kernel
theorem dX1_against_71 : decode cX1_against 71 = .ok (.lload 6, 2) := by decide +kernel
theorem dX1_against_73 : decode cX1_against 73 = .ok (.lload 8, 2) := by decide +kernel
theorem dX1_against_75 : decode cX1_against 75 = .ok (.lrem, 1) := by decide +kernel
theorem dX1_against_76 : decode cX1_against 76 = .ok (.lstore 15, 2) := by decide +kernel
theorem dX1_against_78 : decode cX1_against 78 = .ok (.iload 12, 2) := by decide +kernel
theorem dX1_against_80 : decode cX1_against 80 = .ok (.ifCond .eq 9, 3) := by decide +kernel
theorem dX1_against_83 : decode cX1_against 83 = .ok (.iload 10, 2) := by decide +kernel
theorem dX1_against_85 : decode cX1_against 85 = .ok (.iload 12, 2) := by decide +kernel
theorem dX1_against_87 : decode cX1_against 87 = .ok (.imul, 1) := by decide +kernel
theorem dX1_against_88 : decode cX1_against 88 = .ok (.ireturn, 1) := by decide +kernel
theorem dX1_against_89 : decode cX1_against 89 = .ok (.lload 13, 2) := by decide +kernel
theorem dX1_against_91 : decode cX1_against 91 = .ok (.lconst 0, 1) := by decide +kernel
theorem dX1_against_92 : decode cX1_against 92 = .ok (.lcmp, 1) := by decide +kernel
theorem dX1_against_93 : decode cX1_against 93 = .ok (.ifCond .eq 10, 3) := by decide +kernel
theorem dX1_against_96 : decode cX1_against 96 = .ok (.lload 15, 2) := by decide +kernel
theorem dX1_against_98 : decode cX1_against 98 = .ok (.lconst 0, 1) := by decide +kernel
theorem dX1_against_99 : decode cX1_against 99 = .ok (.lcmp, 1) := by decide +kernel
theorem dX1_against_100 : decode cX1_against 100 = .ok (.ifCond .ne 14, 3) := by decide +kernel
theorem dX1_against_103 : decode cX1_against 103 = .ok (.iload 10, 2) := by decide +kernel
theorem dX1_against_105 : decode cX1_against 105 = .ok (.lload 13, 2) := by decide +kernel
theorem dX1_against_107 : decode cX1_against 107 = .ok (.lload 15, 2) := by decide +kernel
theorem dX1_against_109 : decode cX1_against 109 = .ok (.invokestatic 28, 3) := by decide +kernel
theorem dX1_against_112 : decode cX1_against 112 = .ok (.imul, 1) := by decide +kernel
theorem dX1_against_113 : decode cX1_against 113 = .ok (.ireturn, 1) := by decide +kernel
theorem dX1_against_114 : decode cX1_against 114 = .ok (.lload 4, 2) := by decide +kernel
theorem dX1_against_116 : decode cX1_against 116 = .ok (.lstore_n 2, 1) := by decide +kernel
theorem dX1_against_117 : decode cX1_against 117 = .ok (.lload 13, 2) := by decide +kernel
theorem dX1_against_119 : decode cX1_against 119 = .ok (.lstore 4, 2) := by decide +kernel
theorem dX1_against_121 : decode cX1_against 121 = .ok (.lload 8, 2) := by decide +kernel
theorem dX1_against_123 : decode cX1_against 123 = .ok (.lstore 6, 2) := by decide +kernel
theorem dX1_against_125 : decode cX1_against 125 = .ok (.lload 15, 2) := by decide +kernel
theorem dX1_against_127 : decode cX1_against 127 = .ok (.lstore 8, 2) := by decide +kernel
theorem dX1_against_129 : decode cX1_against 129 = .ok (.iload 10, 2) := by decide +kernel
theorem dX1_against_131 : decode cX1_against 131 = .ok (.ineg, 1) := by decide +kernel
theorem dX1_against_132 : decode cX1_against 132 = .ok (.istore 10, 2) := by decide +kernel
theorem dX1_against_134 : decode cX1_against 134 = .ok (.iinc 11 1, 3) := by decide +kernel
theorem dX1_against_137 : decode cX1_against 137 = .ok (.goto (-108), 3) := by decide +kernel
theorem dX1_against_140 : decode cX1_against 140 = .ok (.iconst 0, 1) := by decide +kernel
theorem dX1_against_141 : decode cX1_against 141 = .ok (.ireturn, 1) := by decide +kernel
theorem dX1_commonDivisor_0 : decode cX1_commonDivisor 0 = .ok (.lload_n 0, 1) := by decide +kernel
theorem dX1_commonDivisor_1 : decode cX1_commonDivisor 1 = .ok (.lstore 4, 2) := by decide +kernel
theorem dX1_commonDivisor_3 : decode cX1_commonDivisor 3 = .ok (.lload_n 2, 1) := by decide +kernel
theorem dX1_commonDivisor_4 : decode cX1_commonDivisor 4 = .ok (.lstore 6, 2) := by decide +kernel
theorem dX1_commonDivisor_6 : decode cX1_commonDivisor 6 = .ok (.iconst 0, 1) := by decide +kernel
theorem dX1_commonDivisor_7 : decode cX1_commonDivisor 7 = .ok (.istore 8, 2) := by decide +kernel
theorem dX1_commonDivisor_9 : decode cX1_commonDivisor 9 = .ok (.iload 8, 2) := by decide +kernel
theorem dX1_commonDivisor_11 : decode cX1_commonDivisor 11 = .ok (.sipush 200, 3) := by decide +kernel
theorem dX1_commonDivisor_14 : decode cX1_commonDivisor 14 = .ok (.if_icmp .ge 31, 3) := by decide +kernel
theorem dX1_commonDivisor_17 : decode cX1_commonDivisor 17 = .ok (.lload 6, 2) := by decide +kernel
theorem dX1_commonDivisor_19 : decode cX1_commonDivisor 19 = .ok (.lconst 0, 1) := by decide +kernel
theorem dX1_commonDivisor_20 : decode cX1_commonDivisor 20 = .ok (.lcmp, 1) := by decide +kernel
theorem dX1_commonDivisor_21 : decode cX1_commonDivisor 21 = .ok (.ifCond .le 24, 3) := by decide +kernel
theorem dX1_commonDivisor_24 : decode cX1_commonDivisor 24 = .ok (.lload 4, 2) := by decide +kernel
theorem dX1_commonDivisor_26 : decode cX1_commonDivisor 26 = .ok (.lload 6, 2) := by decide +kernel
theorem dX1_commonDivisor_28 : decode cX1_commonDivisor 28 = .ok (.lrem, 1) := by decide +kernel
theorem dX1_commonDivisor_29 : decode cX1_commonDivisor 29 = .ok (.lstore 9, 2) := by decide +kernel
theorem dX1_commonDivisor_31 : decode cX1_commonDivisor 31 = .ok (.lload 6, 2) := by decide +kernel
theorem dX1_commonDivisor_33 : decode cX1_commonDivisor 33 = .ok (.lstore 4, 2) := by decide +kernel
theorem dX1_commonDivisor_35 : decode cX1_commonDivisor 35 = .ok (.lload 9, 2) := by decide +kernel
theorem dX1_commonDivisor_37 : decode cX1_commonDivisor 37 = .ok (.lstore 6, 2) := by decide +kernel
theorem dX1_commonDivisor_39 : decode cX1_commonDivisor 39 = .ok (.iinc 8 1, 3) := by decide +kernel
theorem dX1_commonDivisor_42 : decode cX1_commonDivisor 42 = .ok (.goto (-33), 3) := by decide +kernel
theorem dX1_commonDivisor_45 : decode cX1_commonDivisor 45 = .ok (.lload 4, 2) := by decide +kernel
theorem dX1_commonDivisor_47 : decode cX1_commonDivisor 47 = .ok (.lreturn, 1) := by decide +kernel
theorem dX2_init_0 : decode cX2_init 0 = .ok (.aload_n 0, 1) := by decide +kernel
theorem dX2_init_1 : decode cX2_init 1 = .ok (.invokespecial 3, 3) := by decide +kernel
theorem dX2_init_4 : decode cX2_init 4 = .ok (.aload_n 0, 1) := by decide +kernel
theorem dX2_init_5 : decode cX2_init 5 = .ok (.bipush 20, 2) := by decide +kernel
theorem dX2_init_7 : decode cX2_init 7 = .ok (.newarray .int, 2) := by decide +kernel
theorem dX2_init_9 : decode cX2_init 9 = .ok (.putfield 9, 3) := by decide +kernel
theorem dX2_init_12 : decode cX2_init 12 = .ok (.aload_n 0, 1) := by decide +kernel
theorem dX2_init_13 : decode cX2_init 13 = .ok (.iconst 4, 1) := by decide +kernel
theorem dX2_init_14 : decode cX2_init 14 = .ok (.newarray .int, 2) := by decide +kernel
theorem dX2_init_16 : decode cX2_init 16 = .ok (.putfield 15, 3) := by decide +kernel
theorem dX2_init_19 : decode cX2_init 19 = .ok (.return_, 1) := by decide +kernel
theorem dX2_become_0 : decode cX2_become 0 = .ok (.aload_n 0, 1) := by decide +kernel
theorem dX2_become_1 : decode cX2_become 1 = .ok (.aload_n 1, 1) := by decide +kernel
theorem dX2_become_2 : decode cX2_become 2 = .ok (.invokevirtual 18, 3) := by decide +kernel
theorem dX2_become_5 : decode cX2_become 5 = .ok (.putfield 24, 3) := by decide +kernel
theorem dX2_become_8 : decode cX2_become 8 = .ok (.aload_n 0, 1) := by decide +kernel
theorem dX2_become_9 : decode cX2_become 9 = .ok (.aload_n 1, 1) := by decide +kernel
theorem dX2_become_10 : decode cX2_become 10 = .ok (.invokevirtual 28, 3) := by decide +kernel
theorem dX2_become_13 : decode cX2_become 13 = .ok (.putfield 31, 3) := by decide +kernel
theorem dX2_become_16 : decode cX2_become 16 = .ok (.iconst 0, 1) := by decide +kernel
theorem dX2_become_17 : decode cX2_become 17 = .ok (.istore_n 2, 1) := by decide +kernel
theorem dX2_become_18 : decode cX2_become 18 = .ok (.iload_n 2, 1) := by decide +kernel
theorem dX2_become_19 : decode cX2_become 19 = .ok (.iconst 4, 1) := by decide +kernel
theorem dX2_become_20 : decode cX2_become 20 = .ok (.if_icmp .ge 55, 3) := by decide +kernel
theorem dX2_become_23 : decode cX2_become 23 = .ok (.iconst 0, 1) := by decide +kernel
theorem dX2_become_24 : decode cX2_become 24 = .ok (.istore_n 3, 1) := by decide +kernel
theorem dX2_become_25 : decode cX2_become 25 = .ok (.iload_n 3, 1) := by decide +kernel
theorem dX2_become_26 : decode cX2_become 26 = .ok (.iconst 4, 1) := by decide +kernel
theorem dX2_become_27 : decode cX2_become 27 = .ok (.if_icmp .ge 25, 3) := by decide +kernel
theorem dX2_become_30 : decode cX2_become 30 = .ok (.aload_n 0, 1) := by decide +kernel
theorem dX2_become_31 : decode cX2_become 31 = .ok (.getfield 9, 3) := by decide +kernel
theorem dX2_become_34 : decode cX2_become 34 = .ok (.iload_n 3, 1) := by decide +kernel
theorem dX2_become_35 : decode cX2_become 35 = .ok (.iconst 4, 1) := by decide +kernel
theorem dX2_become_36 : decode cX2_become 36 = .ok (.imul, 1) := by decide +kernel
theorem dX2_become_37 : decode cX2_become 37 = .ok (.iload_n 2, 1) := by decide +kernel
theorem dX2_become_38 : decode cX2_become 38 = .ok (.iadd, 1) := by decide +kernel
theorem dX2_become_39 : decode cX2_become 39 = .ok (.aload_n 1, 1) := by decide +kernel
theorem dX2_become_40 : decode cX2_become 40 = .ok (.iload_n 3, 1) := by decide +kernel
theorem dX2_become_41 : decode cX2_become 41 = .ok (.iload_n 2, 1) := by decide +kernel
theorem dX2_become_42 : decode cX2_become 42 = .ok (.invokevirtual 34, 3) := by decide +kernel
theorem dX2_become_45 : decode cX2_become 45 = .ok (.iastore, 1) := by decide +kernel
theorem dX2_become_46 : decode cX2_become 46 = .ok (.iinc 3 1, 3) := by decide +kernel
theorem dX2_become_49 : decode cX2_become 49 = .ok (.goto (-24), 3) := by decide +kernel
theorem dX2_become_52 : decode cX2_become 52 = .ok (.aload_n 0, 1) := by decide +kernel
theorem dX2_become_53 : decode cX2_become 53 = .ok (.getfield 9, 3) := by decide +kernel
theorem dX2_become_56 : decode cX2_become 56 = .ok (.bipush 16, 2) := by decide +kernel
theorem dX2_become_58 : decode cX2_become 58 = .ok (.iload_n 2, 1) := by decide +kernel
theorem dX2_become_59 : decode cX2_become 59 = .ok (.iadd, 1) := by decide +kernel
theorem dX2_become_60 : decode cX2_become 60 = .ok (.iconst 0, 1) := by decide +kernel
theorem dX2_become_61 : decode cX2_become 61 = .ok (.iastore, 1) := by decide +kernel
theorem dX2_become_62 : decode cX2_become 62 = .ok (.aload_n 0, 1) := by decide +kernel
theorem dX2_become_63 : decode cX2_become 63 = .ok (.getfield 15, 3) := by decide +kernel
theorem dX2_become_66 : decode cX2_become 66 = .ok (.iload_n 2, 1) := by decide +kernel
theorem dX2_become_67 : decode cX2_become 67 = .ok (.iconst 1, 1) := by decide +kernel
theorem dX2_become_68 : decode cX2_become 68 = .ok (.iastore, 1) := by decide +kernel
theorem dX2_become_69 : decode cX2_become 69 = .ok (.iinc 2 1, 3) := by decide +kernel
theorem dX2_become_72 : decode cX2_become 72 = .ok (.goto (-54), 3) := by decide +kernel
theorem dX2_become_75 : decode cX2_become 75 = .ok (.return_, 1) := by decide +kernel
theorem dX2_isSource_0 : decode cX2_isSource 0 = .ok (.iload_n 1, 1) := by decide +kernel
theorem dX2_isSource_1 : decode cX2_isSource 1 = .ok (.ifCond .lt 15, 3) := by decide +kernel
theorem dX2_isSource_4 : decode cX2_isSource 4 = .ok (.iload_n 1, 1) := by decide +kernel
theorem dX2_isSource_5 : decode cX2_isSource 5 = .ok (.aload_n 0, 1) := by decide +kernel
theorem dX2_isSource_6 : decode cX2_isSource 6 = .ok (.getfield 24, 3) := by decide +kernel
theorem dX2_isSource_9 : decode cX2_isSource 9 = .ok (.if_icmp .ge 7, 3) := by decide +kernel
theorem dX2_isSource_12 : decode cX2_isSource 12 = .ok (.iconst 1, 1) := by decide +kernel
theorem dX2_isSource_13 : decode cX2_isSource 13 = .ok (.goto 4, 3) := by decide +kernel
theorem dX2_isSource_16 : decode cX2_isSource 16 = .ok (.iconst 0, 1) := by decide +kernel
theorem dX2_isSource_17 : decode cX2_isSource 17 = .ok (.ireturn, 1) := by decide +kernel
theorem dX2_isTracer_0 : decode cX2_isTracer 0 = .ok (.iload_n 1, 1) := by decide +kernel
theorem dX2_isTracer_1 : decode cX2_isTracer 1 = .ok (.ifCond .lt 15, 3) := by decide +kernel
theorem dX2_isTracer_4 : decode cX2_isTracer 4 = .ok (.iload_n 1, 1) := by decide +kernel
theorem dX2_isTracer_5 : decode cX2_isTracer 5 = .ok (.aload_n 0, 1) := by decide +kernel
theorem dX2_isTracer_6 : decode cX2_isTracer 6 = .ok (.getfield 31, 3) := by decide +kernel
theorem dX2_isTracer_9 : decode cX2_isTracer 9 = .ok (.if_icmp .ge 7, 3) := by decide +kernel
theorem dX2_isTracer_12 : decode cX2_isTracer 12 = .ok (.iconst 1, 1) := by decide +kernel
theorem dX2_isTracer_13 : decode cX2_isTracer 13 = .ok (.goto 4, 3) := by decide +kernel
theorem dX2_isTracer_16 : decode cX2_isTracer 16 = .ok (.iconst 0, 1) := by decide +kernel
theorem dX2_isTracer_17 : decode cX2_isTracer 17 = .ok (.ireturn, 1) := by decide +kernel
theorem dX2_isSet_0 : decode cX2_isSet 0 = .ok (.iload_n 1, 1) := by decide +kernel
theorem dX2_isSet_1 : decode cX2_isSet 1 = .ok (.iconst 1, 1) := by decide +kernel
theorem dX2_isSet_2 : decode cX2_isSet 2 = .ok (.if_icmp .lt 15, 3) := by decide +kernel
theorem dX2_isSet_5 : decode cX2_isSet 5 = .ok (.iload_n 1, 1) := by decide +kernel
theorem dX2_isSet_6 : decode cX2_isSet 6 = .ok (.aload_n 0, 1) := by decide +kernel
theorem dX2_isSet_7 : decode cX2_isSet 7 = .ok (.invokevirtual 38, 3) := by decide +kernel
theorem dX2_isSet_10 : decode cX2_isSet 10 = .ok (.if_icmp .gt 7, 3) := by decide +kernel
theorem dX2_isSet_13 : decode cX2_isSet 13 = .ok (.iconst 1, 1) := by decide +kernel
theorem dX2_isSet_14 : decode cX2_isSet 14 = .ok (.goto 4, 3) := by decide +kernel
theorem dX2_isSet_17 : decode cX2_isSet 17 = .ok (.iconst 0, 1) := by decide +kernel
theorem dX2_isSet_18 : decode cX2_isSet 18 = .ok (.ireturn, 1) := by decide +kernel
theorem dX2_isUsed_0 : decode cX2_isUsed 0 = .ok (.iload_n 1, 1) := by decide +kernel
theorem dX2_isUsed_1 : decode cX2_isUsed 1 = .ok (.iconst 1, 1) := by decide +kernel
theorem dX2_isUsed_2 : decode cX2_isUsed 2 = .ok (.if_icmp .lt 15, 3) := by decide +kernel
theorem dX2_isUsed_5 : decode cX2_isUsed 5 = .ok (.iload_n 1, 1) := by decide +kernel
theorem dX2_isUsed_6 : decode cX2_isUsed 6 = .ok (.aload_n 0, 1) := by decide +kernel
theorem dX2_isUsed_7 : decode cX2_isUsed 7 = .ok (.invokevirtual 41, 3) := by decide +kernel
theorem dX2_isUsed_10 : decode cX2_isUsed 10 = .ok (.if_icmp .gt 7, 3) := by decide +kernel
theorem dX2_isUsed_13 : decode cX2_isUsed 13 = .ok (.iconst 1, 1) := by decide +kernel
theorem dX2_isUsed_14 : decode cX2_isUsed 14 = .ok (.goto 4, 3) := by decide +kernel
theorem dX2_isUsed_17 : decode cX2_isUsed 17 = .ok (.iconst 0, 1) := by decide +kernel
theorem dX2_isUsed_18 : decode cX2_isUsed 18 = .ok (.ireturn, 1) := by decide +kernel
theorem dX2_allSources_0 : decode cX2_allSources 0 = .ok (.iconst 1, 1) := by decide +kernel
theorem dX2_allSources_1 : decode cX2_allSources 1 = .ok (.aload_n 0, 1) := by decide +kernel
theorem dX2_allSources_2 : decode cX2_allSources 2 = .ok (.getfield 24, 3) := by decide +kernel
theorem dX2_allSources_5 : decode cX2_allSources 5 = .ok (.ishl, 1) := by decide +kernel
theorem dX2_allSources_6 : decode cX2_allSources 6 = .ok (.iconst 1, 1) := by decide +kernel
theorem dX2_allSources_7 : decode cX2_allSources 7 = .ok (.isub, 1) := by decide +kernel
theorem dX2_allSources_8 : decode cX2_allSources 8 = .ok (.ireturn, 1) := by decide +kernel
theorem dX2_allTracers_0 : decode cX2_allTracers 0 = .ok (.iconst 1, 1) := by decide +kernel
theorem dX2_allTracers_1 : decode cX2_allTracers 1 = .ok (.aload_n 0, 1) := by decide +kernel
theorem dX2_allTracers_2 : decode cX2_allTracers 2 = .ok (.getfield 31, 3) := by decide +kernel
theorem dX2_allTracers_5 : decode cX2_allTracers 5 = .ok (.ishl, 1) := by decide +kernel
theorem dX2_allTracers_6 : decode cX2_allTracers 6 = .ok (.iconst 1, 1) := by decide +kernel
theorem dX2_allTracers_7 : decode cX2_allTracers 7 = .ok (.isub, 1) := by decide +kernel
theorem dX2_allTracers_8 : decode cX2_allTracers 8 = .ok (.ireturn, 1) := by decide +kernel
theorem dX2_heldOf_0 : decode cX2_heldOf 0 = .ok (.iload_n 1, 1) := by decide +kernel
theorem dX2_heldOf_1 : decode cX2_heldOf 1 = .ok (.iload_n 2, 1) := by decide +kernel
theorem dX2_heldOf_2 : decode cX2_heldOf 2 = .ok (.invokestatic 44, 3) := by decide +kernel
theorem dX2_heldOf_5 : decode cX2_heldOf 5 = .ok (.ifCond .eq 16, 3) := by decide +kernel
theorem dX2_heldOf_8 : decode cX2_heldOf 8 = .ok (.aload_n 0, 1) := by decide +kernel
theorem dX2_heldOf_9 : decode cX2_heldOf 9 = .ok (.getfield 9, 3) := by decide +kernel
theorem dX2_heldOf_12 : decode cX2_heldOf 12 = .ok (.iload_n 1, 1) := by decide +kernel
theorem dX2_heldOf_13 : decode cX2_heldOf 13 = .ok (.iconst 4, 1) := by decide +kernel
theorem dX2_heldOf_14 : decode cX2_heldOf 14 = .ok (.imul, 1) := by decide +kernel
theorem dX2_heldOf_15 : decode cX2_heldOf 15 = .ok (.iload_n 2, 1) := by decide +kernel
theorem dX2_heldOf_16 : decode cX2_heldOf 16 = .ok (.iadd, 1) := by decide +kernel
theorem dX2_heldOf_17 : decode cX2_heldOf 17 = .ok (.iaload, 1) := by decide +kernel
theorem dX2_heldOf_18 : decode cX2_heldOf 18 = .ok (.goto 4, 3) := by decide +kernel
theorem dX2_heldOf_21 : decode cX2_heldOf 21 = .ok (.iconst 0, 1) := by decide +kernel
theorem dX2_heldOf_22 : decode cX2_heldOf 22 = .ok (.ireturn, 1) := by decide +kernel
theorem dX2_putHeld_0 : decode cX2_putHeld 0 = .ok (.iload_n 1, 1) := by decide +kernel
theorem dX2_putHeld_1 : decode cX2_putHeld 1 = .ok (.iload_n 2, 1) := by decide +kernel
theorem dX2_putHeld_2 : decode cX2_putHeld 2 = .ok (.invokestatic 44, 3) := by decide +kernel
theorem dX2_putHeld_5 : decode cX2_putHeld 5 = .ok (.ifCond .eq 14, 3) := by decide +kernel
theorem dX2_putHeld_8 : decode cX2_putHeld 8 = .ok (.aload_n 0, 1) := by decide +kernel
theorem dX2_putHeld_9 : decode cX2_putHeld 9 = .ok (.getfield 9, 3) := by decide +kernel
theorem dX2_putHeld_12 : decode cX2_putHeld 12 = .ok (.iload_n 1, 1) := by decide +kernel
theorem dX2_putHeld_13 : decode cX2_putHeld 13 = .ok (.iconst 4, 1) := by decide +kernel
theorem dX2_putHeld_14 : decode cX2_putHeld 14 = .ok (.imul, 1) := by decide +kernel
theorem dX2_putHeld_15 : decode cX2_putHeld 15 = .ok (.iload_n 2, 1) := by decide +kernel
theorem dX2_putHeld_16 : decode cX2_putHeld 16 = .ok (.iadd, 1) := by decide +kernel
theorem dX2_putHeld_17 : decode cX2_putHeld 17 = .ok (.iload_n 3, 1) := by decide +kernel
theorem dX2_putHeld_18 : decode cX2_putHeld 18 = .ok (.iastore, 1) := by decide +kernel
theorem dX2_putHeld_19 : decode cX2_putHeld 19 = .ok (.return_, 1) := by decide +kernel
theorem dX2_weightOf_0 : decode cX2_weightOf 0 = .ok (.iload_n 1, 1) := by decide +kernel
theorem dX2_weightOf_1 : decode cX2_weightOf 1 = .ok (.ifCond .lt 17, 3) := by decide +kernel
theorem dX2_weightOf_4 : decode cX2_weightOf 4 = .ok (.iload_n 1, 1) := by decide +kernel
theorem dX2_weightOf_5 : decode cX2_weightOf 5 = .ok (.iconst 4, 1) := by decide +kernel
theorem dX2_weightOf_6 : decode cX2_weightOf 6 = .ok (.if_icmp .ge 12, 3) := by decide +kernel
theorem dX2_weightOf_9 : decode cX2_weightOf 9 = .ok (.aload_n 0, 1) := by decide +kernel
theorem dX2_weightOf_10 : decode cX2_weightOf 10 = .ok (.getfield 15, 3) := by decide +kernel
theorem dX2_weightOf_13 : decode cX2_weightOf 13 = .ok (.iload_n 1, 1) := by decide +kernel
theorem dX2_weightOf_14 : decode cX2_weightOf 14 = .ok (.iaload, 1) := by decide +kernel
theorem dX2_weightOf_15 : decode cX2_weightOf 15 = .ok (.goto 4, 3) := by decide +kernel
theorem dX2_weightOf_18 : decode cX2_weightOf 18 = .ok (.iconst 0, 1) := by decide +kernel
theorem dX2_weightOf_19 : decode cX2_weightOf 19 = .ok (.ireturn, 1) := by decide +kernel
theorem dX2_putWeight_0 : decode cX2_putWeight 0 = .ok (.iload_n 1, 1) := by decide +kernel
theorem dX2_putWeight_1 : decode cX2_putWeight 1 = .ok (.ifCond .lt 15, 3) := by decide +kernel
theorem dX2_putWeight_4 : decode cX2_putWeight 4 = .ok (.iload_n 1, 1) := by decide +kernel
theorem dX2_putWeight_5 : decode cX2_putWeight 5 = .ok (.iconst 4, 1) := by decide +kernel
theorem dX2_putWeight_6 : decode cX2_putWeight 6 = .ok (.if_icmp .ge 10, 3) := by decide +kernel
theorem dX2_putWeight_9 : decode cX2_putWeight 9 = .ok (.aload_n 0, 1) := by decide +kernel
theorem dX2_putWeight_10 : decode cX2_putWeight 10 = .ok (.getfield 15, 3) := by decide +kernel
theorem dX2_putWeight_13 : decode cX2_putWeight 13 = .ok (.iload_n 1, 1) := by decide +kernel
theorem dX2_putWeight_14 : decode cX2_putWeight 14 = .ok (.iload_n 2, 1) := by decide +kernel
theorem dX2_putWeight_15 : decode cX2_putWeight 15 = .ok (.iastore, 1) := by decide +kernel
theorem dX2_putWeight_16 : decode cX2_putWeight 16 = .ok (.return_, 1) := by decide +kernel
theorem dX2_heldByParts_0 : decode cX2_heldByParts 0 = .ok (.iconst 0, 1) := by decide +kernel
theorem dX2_heldByParts_1 : decode cX2_heldByParts 1 = .ok (.istore_n 3, 1) := by decide +kernel
theorem dX2_heldByParts_2 : decode cX2_heldByParts 2 = .ok (.iload_n 2, 1) := by decide +kernel
theorem dX2_heldByParts_3 : decode cX2_heldByParts 3 = .ok (.istore 4, 2) := by decide +kernel
theorem dX2_heldByParts_5 : decode cX2_heldByParts 5 = .ok (.iconst 0, 1) := by decide +kernel
theorem dX2_heldByParts_6 : decode cX2_heldByParts 6 = .ok (.istore 5, 2) := by decide +kernel
theorem dX2_heldByParts_8 : decode cX2_heldByParts 8 = .ok (.iload 5, 2) := by decide +kernel
theorem dX2_heldByParts_10 : decode cX2_heldByParts 10 = .ok (.iconst 4, 1) := by decide +kernel
theorem dX2_heldByParts_11 : decode cX2_heldByParts 11 = .ok (.if_icmp .ge 32, 3) := by decide +kernel
theorem dX2_heldByParts_14 : decode cX2_heldByParts 14 = .ok (.iload_n 3, 1) := by decide +kernel
theorem dX2_heldByParts_15 : decode cX2_heldByParts 15 = .ok (.iload 4, 2) := by decide +kernel
theorem dX2_heldByParts_17 : decode cX2_heldByParts 17 = .ok (.bipush 10, 2) := by decide +kernel
theorem dX2_heldByParts_19 : decode cX2_heldByParts 19 = .ok (.irem, 1) := by decide +kernel
theorem dX2_heldByParts_20 : decode cX2_heldByParts 20 = .ok (.aload_n 0, 1) := by decide +kernel
theorem dX2_heldByParts_21 : decode cX2_heldByParts 21 = .ok (.iload 5, 2) := by decide +kernel
theorem dX2_heldByParts_23 : decode cX2_heldByParts 23 = .ok (.iload_n 1, 1) := by decide +kernel
theorem dX2_heldByParts_24 : decode cX2_heldByParts 24 = .ok (.invokevirtual 48, 3) := by decide +kernel
theorem dX2_heldByParts_27 : decode cX2_heldByParts 27 = .ok (.imul, 1) := by decide +kernel
theorem dX2_heldByParts_28 : decode cX2_heldByParts 28 = .ok (.iadd, 1) := by decide +kernel
theorem dX2_heldByParts_29 : decode cX2_heldByParts 29 = .ok (.istore_n 3, 1) := by decide +kernel
theorem dX2_heldByParts_30 : decode cX2_heldByParts 30 = .ok (.iload 4, 2) := by decide +kernel
theorem dX2_heldByParts_32 : decode cX2_heldByParts 32 = .ok (.bipush 10, 2) := by decide +kernel
theorem dX2_heldByParts_34 : decode cX2_heldByParts 34 = .ok (.idiv, 1) := by decide +kernel
theorem dX2_heldByParts_35 : decode cX2_heldByParts 35 = .ok (.istore 4, 2) := by decide +kernel
theorem dX2_heldByParts_37 : decode cX2_heldByParts 37 = .ok (.iinc 5 1, 3) := by decide +kernel
theorem dX2_heldByParts_40 : decode cX2_heldByParts 40 = .ok (.goto (-32), 3) := by decide +kernel
theorem dX2_heldByParts_43 : decode cX2_heldByParts 43 = .ok (.iload_n 3, 1) := by decide +kernel
theorem dX2_heldByParts_44 : decode cX2_heldByParts 44 = .ok (.ireturn, 1) := by decide +kernel
theorem dX2_firstAlike_0 : decode cX2_firstAlike 0 = .ok (.iconst 0, 1) := by decide +kernel
theorem dX2_firstAlike_1 : decode cX2_firstAlike 1 = .ok (.istore_n 3, 1) := by decide +kernel
theorem dX2_firstAlike_2 : decode cX2_firstAlike 2 = .ok (.iload_n 3, 1) := by decide +kernel
theorem dX2_firstAlike_3 : decode cX2_firstAlike 3 = .ok (.iload_n 1, 1) := by decide +kernel
theorem dX2_firstAlike_4 : decode cX2_firstAlike 4 = .ok (.if_icmp .ge 21, 3) := by decide +kernel
theorem dX2_firstAlike_7 : decode cX2_firstAlike 7 = .ok (.aload_n 0, 1) := by decide +kernel
theorem dX2_firstAlike_8 : decode cX2_firstAlike 8 = .ok (.iload_n 3, 1) := by decide +kernel
theorem dX2_firstAlike_9 : decode cX2_firstAlike 9 = .ok (.iload_n 1, 1) := by decide +kernel
theorem dX2_firstAlike_10 : decode cX2_firstAlike 10 = .ok (.iload_n 2, 1) := by decide +kernel
theorem dX2_firstAlike_11 : decode cX2_firstAlike 11 = .ok (.invokevirtual 51, 3) := by decide +kernel
theorem dX2_firstAlike_14 : decode cX2_firstAlike 14 = .ok (.ifCond .eq 5, 3) := by decide +kernel
theorem dX2_firstAlike_17 : decode cX2_firstAlike 17 = .ok (.iload_n 3, 1) := by decide +kernel
theorem dX2_firstAlike_18 : decode cX2_firstAlike 18 = .ok (.ireturn, 1) := by decide +kernel
theorem dX2_firstAlike_19 : decode cX2_firstAlike 19 = .ok (.iinc 3 1, 3) := by decide +kernel
theorem dX2_firstAlike_22 : decode cX2_firstAlike 22 = .ok (.goto (-20), 3) := by decide +kernel
theorem dX2_firstAlike_25 : decode cX2_firstAlike 25 = .ok (.iload_n 1, 1) := by decide +kernel
theorem dX2_firstAlike_26 : decode cX2_firstAlike 26 = .ok (.ireturn, 1) := by decide +kernel
theorem dX2_product_0 : decode cX2_product 0 = .ok (.lconst 0, 1) := by decide +kernel
theorem dX2_product_1 : decode cX2_product 1 = .ok (.lstore 4, 2) := by decide +kernel
theorem dX2_product_3 : decode cX2_product 3 = .ok (.iconst 0, 1) := by decide +kernel
theorem dX2_product_4 : decode cX2_product 4 = .ok (.istore 6, 2) := by decide +kernel
theorem dX2_product_6 : decode cX2_product 6 = .ok (.iload 6, 2) := by decide +kernel
theorem dX2_product_8 : decode cX2_product 8 = .ok (.iconst 4, 1) := by decide +kernel
theorem dX2_product_9 : decode cX2_product 9 = .ok (.if_icmp .ge 48, 3) := by decide +kernel
theorem dX2_product_12 : decode cX2_product 12 = .ok (.iload_n 3, 1) := by decide +kernel
theorem dX2_product_13 : decode cX2_product 13 = .ok (.iload 6, 2) := by decide +kernel
theorem dX2_product_15 : decode cX2_product 15 = .ok (.invokestatic 55, 3) := by decide +kernel
theorem dX2_product_18 : decode cX2_product 18 = .ok (.ifCond .eq 33, 3) := by decide +kernel
theorem dX2_product_21 : decode cX2_product 21 = .ok (.lload 4, 2) := by decide +kernel
theorem dX2_product_23 : decode cX2_product 23 = .ok (.aload_n 0, 1) := by decide +kernel
theorem dX2_product_24 : decode cX2_product 24 = .ok (.iload 6, 2) := by decide +kernel
theorem dX2_product_26 : decode cX2_product 26 = .ok (.invokevirtual 58, 3) := by decide +kernel
theorem dX2_product_29 : decode cX2_product 29 = .ok (.i2l, 1) := by decide +kernel
theorem dX2_product_30 : decode cX2_product 30 = .ok (.aload_n 0, 1) := by decide +kernel
theorem dX2_product_31 : decode cX2_product 31 = .ok (.iload_n 1, 1) := by decide +kernel
theorem dX2_product_32 : decode cX2_product 32 = .ok (.iload 6, 2) := by decide +kernel
theorem dX2_product_34 : decode cX2_product 34 = .ok (.invokevirtual 48, 3) := by decide +kernel
theorem dX2_product_37 : decode cX2_product 37 = .ok (.i2l, 1) := by decide +kernel
theorem dX2_product_38 : decode cX2_product 38 = .ok (.lmul, 1) := by decide +kernel
theorem dX2_product_39 : decode cX2_product 39 = .ok (.aload_n 0, 1) := by decide +kernel
theorem dX2_product_40 : decode cX2_product 40 = .ok (.iload_n 2, 1) := by decide +kernel
theorem dX2_product_41 : decode cX2_product 41 = .ok (.iload 6, 2) := by decide +kernel
theorem dX2_product_43 : decode cX2_product 43 = .ok (.invokevirtual 48, 3) := by decide +kernel
theorem dX2_product_46 : decode cX2_product 46 = .ok (.i2l, 1) := by decide +kernel
theorem dX2_product_47 : decode cX2_product 47 = .ok (.lmul, 1) := by decide +kernel
theorem dX2_product_48 : decode cX2_product 48 = .ok (.ladd, 1) := by decide +kernel
theorem dX2_product_49 : decode cX2_product 49 = .ok (.lstore 4, 2) := by decide +kernel
theorem dX2_product_51 : decode cX2_product 51 = .ok (.iinc 6 1, 3) := by decide +kernel
theorem dX2_product_54 : decode cX2_product 54 = .ok (.goto (-48), 3) := by decide +kernel
theorem dX2_product_57 : decode cX2_product 57 = .ok (.lload 4, 2) := by decide +kernel
theorem dX2_product_59 : decode cX2_product 59 = .ok (.lreturn, 1) := by decide +kernel
theorem dX2_areAlike_0 : decode cX2_areAlike 0 = .ok (.iconst 0, 1) := by decide +kernel
theorem dX2_areAlike_1 : decode cX2_areAlike 1 = .ok (.istore 4, 2) := by decide +kernel
theorem dX2_areAlike_3 : decode cX2_areAlike 3 = .ok (.iload 4, 2) := by decide +kernel
theorem dX2_areAlike_5 : decode cX2_areAlike 5 = .ok (.iconst 4, 1) := by decide +kernel
theorem dX2_areAlike_6 : decode cX2_areAlike 6 = .ok (.if_icmp .ge 37, 3) := by decide +kernel
theorem dX2_areAlike_9 : decode cX2_areAlike 9 = .ok (.iload_n 3, 1) := by decide +kernel
theorem dX2_areAlike_10 : decode cX2_areAlike 10 = .ok (.iload 4, 2) := by decide +kernel
theorem dX2_areAlike_12 : decode cX2_areAlike 12 = .ok (.invokestatic 55, 3) := by decide +kernel
theorem dX2_areAlike_15 : decode cX2_areAlike 15 = .ok (.ifCond .eq 22, 3) := by decide +kernel
theorem dX2_areAlike_18 : decode cX2_areAlike 18 = .ok (.aload_n 0, 1) := by decide +kernel
theorem dX2_areAlike_19 : decode cX2_areAlike 19 = .ok (.iload_n 1, 1) := by decide +kernel
theorem dX2_areAlike_20 : decode cX2_areAlike 20 = .ok (.iload 4, 2) := by decide +kernel
theorem dX2_areAlike_22 : decode cX2_areAlike 22 = .ok (.invokevirtual 48, 3) := by decide +kernel
theorem dX2_areAlike_25 : decode cX2_areAlike 25 = .ok (.aload_n 0, 1) := by decide +kernel
theorem dX2_areAlike_26 : decode cX2_areAlike 26 = .ok (.iload_n 2, 1) := by decide +kernel
theorem dX2_areAlike_27 : decode cX2_areAlike 27 = .ok (.iload 4, 2) := by decide +kernel
theorem dX2_areAlike_29 : decode cX2_areAlike 29 = .ok (.invokevirtual 48, 3) := by decide +kernel
theorem dX2_areAlike_32 : decode cX2_areAlike 32 = .ok (.if_icmp .eq 5, 3) := by decide +kernel
theorem dX2_areAlike_35 : decode cX2_areAlike 35 = .ok (.iconst 0, 1) := by decide +kernel
theorem dX2_areAlike_36 : decode cX2_areAlike 36 = .ok (.ireturn, 1) := by decide +kernel
theorem dX2_areAlike_37 : decode cX2_areAlike 37 = .ok (.iinc 4 1, 3) := by decide +kernel
theorem dX2_areAlike_40 : decode cX2_areAlike 40 = .ok (.goto (-37), 3) := by decide +kernel
theorem dX2_areAlike_43 : decode cX2_areAlike 43 = .ok (.iconst 1, 1) := by decide +kernel
theorem dX2_areAlike_44 : decode cX2_areAlike 44 = .ok (.ireturn, 1) := by decide +kernel
theorem dX2_isPlace_0 : decode cX2_isPlace 0 = .ok (.iload_n 0, 1) := by decide +kernel
theorem dX2_isPlace_1 : decode cX2_isPlace 1 = .ok (.ifCond .lt 21, 3) := by decide +kernel
theorem dX2_isPlace_4 : decode cX2_isPlace 4 = .ok (.iload_n 0, 1) := by decide +kernel
theorem dX2_isPlace_5 : decode cX2_isPlace 5 = .ok (.iconst 5, 1) := by decide +kernel
theorem dX2_isPlace_6 : decode cX2_isPlace 6 = .ok (.if_icmp .ge 16, 3) := by decide +kernel
theorem dX2_isPlace_9 : decode cX2_isPlace 9 = .ok (.iload_n 1, 1) := by decide +kernel
theorem dX2_isPlace_10 : decode cX2_isPlace 10 = .ok (.ifCond .lt 12, 3) := by decide +kernel
theorem dX2_isPlace_13 : decode cX2_isPlace 13 = .ok (.iload_n 1, 1) := by decide +kernel
theorem dX2_isPlace_14 : decode cX2_isPlace 14 = .ok (.iconst 4, 1) := by decide +kernel
theorem dX2_isPlace_15 : decode cX2_isPlace 15 = .ok (.if_icmp .ge 7, 3) := by decide +kernel
theorem dX2_isPlace_18 : decode cX2_isPlace 18 = .ok (.iconst 1, 1) := by decide +kernel
theorem dX2_isPlace_19 : decode cX2_isPlace 19 = .ok (.goto 4, 3) := by decide +kernel
theorem dX2_isPlace_22 : decode cX2_isPlace 22 = .ok (.iconst 0, 1) := by decide +kernel
theorem dX2_isPlace_23 : decode cX2_isPlace 23 = .ok (.ireturn, 1) := by decide +kernel
theorem dX3_init_0 : decode cX3_init 0 = .ok (.aload_n 0, 1) := by decide +kernel
theorem dX3_init_1 : decode cX3_init 1 = .ok (.invokespecial 1, 3) := by decide +kernel
theorem dX3_init_4 : decode cX3_init 4 = .ok (.aload_n 0, 1) := by decide +kernel
theorem dX3_init_5 : decode cX3_init 5 = .ok (.new 7, 3) := by decide +kernel
theorem dX3_init_8 : decode cX3_init 8 = .ok (.dup, 1) := by decide +kernel
theorem dX3_init_9 : decode cX3_init 9 = .ok (.invokespecial 9, 3) := by decide +kernel
theorem dX3_init_12 : decode cX3_init 12 = .ok (.putfield 10, 3) := by decide +kernel
theorem dX3_init_15 : decode cX3_init 15 = .ok (.aload_n 0, 1) := by decide +kernel
theorem dX3_init_16 : decode cX3_init 16 = .ok (.new 16, 3) := by decide +kernel
theorem dX3_init_19 : decode cX3_init 19 = .ok (.dup, 1) := by decide +kernel
theorem dX3_init_20 : decode cX3_init 20 = .ok (.invokespecial 18, 3) := by decide +kernel
theorem dX3_init_23 : decode cX3_init 23 = .ok (.putfield 19, 3) := by decide +kernel
theorem dX3_init_26 : decode cX3_init 26 = .ok (.return_, 1) := by decide +kernel
theorem dX3_find_0 : decode cX3_find 0 = .ok (.aload_n 0, 1) := by decide +kernel
theorem dX3_find_1 : decode cX3_find 1 = .ok (.iconst 0, 1) := by decide +kernel
theorem dX3_find_2 : decode cX3_find 2 = .ok (.putfield 23, 3) := by decide +kernel
theorem dX3_find_5 : decode cX3_find 5 = .ok (.aload_n 0, 1) := by decide +kernel
theorem dX3_find_6 : decode cX3_find 6 = .ok (.iconst 0, 1) := by decide +kernel
theorem dX3_find_7 : decode cX3_find 7 = .ok (.putfield 27, 3) := by decide +kernel
theorem dX3_find_10 : decode cX3_find 10 = .ok (.aload_n 0, 1) := by decide +kernel
theorem dX3_find_11 : decode cX3_find 11 = .ok (.getfield 10, 3) := by decide +kernel
theorem dX3_find_14 : decode cX3_find 14 = .ok (.aload_n 1, 1) := by decide +kernel
theorem dX3_find_15 : decode cX3_find 15 = .ok (.iload_n 2, 1) := by decide +kernel
theorem dX3_find_16 : decode cX3_find 16 = .ok (.invokevirtual 30, 3) := by decide +kernel
theorem dX3_find_19 : decode cX3_find 19 = .ok (.aload_n 1, 1) := by decide +kernel
theorem dX3_find_20 : decode cX3_find 20 = .ok (.invokevirtual 34, 3) := by decide +kernel
theorem dX3_find_23 : decode cX3_find 23 = .ok (.istore_n 3, 1) := by decide +kernel
theorem dX3_find_24 : decode cX3_find 24 = .ok (.iconst 1, 1) := by decide +kernel
theorem dX3_find_25 : decode cX3_find 25 = .ok (.istore 4, 2) := by decide +kernel
theorem dX3_find_27 : decode cX3_find 27 = .ok (.iload 4, 2) := by decide +kernel
theorem dX3_find_29 : decode cX3_find 29 = .ok (.iload_n 3, 1) := by decide +kernel
theorem dX3_find_30 : decode cX3_find 30 = .ok (.if_icmp .gt 44, 3) := by decide +kernel
theorem dX3_find_33 : decode cX3_find 33 = .ok (.aload_n 0, 1) := by decide +kernel
theorem dX3_find_34 : decode cX3_find 34 = .ok (.getfield 10, 3) := by decide +kernel
theorem dX3_find_37 : decode cX3_find 37 = .ok (.iload 4, 2) := by decide +kernel
theorem dX3_find_39 : decode cX3_find 39 = .ok (.invokevirtual 40, 3) := by decide +kernel
theorem dX3_find_42 : decode cX3_find 42 = .ok (.aload_n 0, 1) := by decide +kernel
theorem dX3_find_43 : decode cX3_find 43 = .ok (.getfield 10, 3) := by decide +kernel
theorem dX3_find_46 : decode cX3_find 46 = .ok (.invokevirtual 44, 3) := by decide +kernel
theorem dX3_find_49 : decode cX3_find 49 = .ok (.ifCond .eq 19, 3) := by decide +kernel
theorem dX3_find_52 : decode cX3_find 52 = .ok (.aload_n 0, 1) := by decide +kernel
theorem dX3_find_53 : decode cX3_find 53 = .ok (.dup, 1) := by decide +kernel
theorem dX3_find_54 : decode cX3_find 54 = .ok (.getfield 27, 3) := by decide +kernel
theorem dX3_find_57 : decode cX3_find 57 = .ok (.iconst 1, 1) := by decide +kernel
theorem dX3_find_58 : decode cX3_find 58 = .ok (.iadd, 1) := by decide +kernel
theorem dX3_find_59 : decode cX3_find 59 = .ok (.putfield 27, 3) := by decide +kernel
theorem dX3_find_62 : decode cX3_find 62 = .ok (.aload_n 0, 1) := by decide +kernel
theorem dX3_find_63 : decode cX3_find 63 = .ok (.iload 4, 2) := by decide +kernel
theorem dX3_find_65 : decode cX3_find 65 = .ok (.invokevirtual 48, 3) := by decide +kernel
theorem dX3_find_68 : decode cX3_find 68 = .ok (.iinc 4 1, 3) := by decide +kernel
theorem dX3_find_71 : decode cX3_find 71 = .ok (.goto (-44), 3) := by decide +kernel
theorem dX3_find_74 : decode cX3_find 74 = .ok (.aload_n 0, 1) := by decide +kernel
theorem dX3_find_75 : decode cX3_find 75 = .ok (.getfield 10, 3) := by decide +kernel
theorem dX3_find_78 : decode cX3_find 78 = .ok (.aload_n 0, 1) := by decide +kernel
theorem dX3_find_79 : decode cX3_find 79 = .ok (.getfield 23, 3) := by decide +kernel
theorem dX3_find_82 : decode cX3_find 82 = .ok (.invokevirtual 40, 3) := by decide +kernel
theorem dX3_find_85 : decode cX3_find 85 = .ok (.return_, 1) := by decide +kernel
theorem dX3_weighUp_0 : decode cX3_weighUp 0 = .ok (.aload_n 0, 1) := by decide +kernel
theorem dX3_weighUp_1 : decode cX3_weighUp 1 = .ok (.getfield 23, 3) := by decide +kernel
theorem dX3_weighUp_4 : decode cX3_weighUp 4 = .ok (.ifCond .ne 7, 3) := by decide +kernel
theorem dX3_weighUp_7 : decode cX3_weighUp 7 = .ok (.iconst (-1), 1) := by decide +kernel
theorem dX3_weighUp_8 : decode cX3_weighUp 8 = .ok (.goto 17, 3) := by decide +kernel
theorem dX3_weighUp_11 : decode cX3_weighUp 11 = .ok (.aload_n 0, 1) := by decide +kernel
theorem dX3_weighUp_12 : decode cX3_weighUp 12 = .ok (.getfield 10, 3) := by decide +kernel
theorem dX3_weighUp_15 : decode cX3_weighUp 15 = .ok (.getfield 51, 3) := by decide +kernel
theorem dX3_weighUp_18 : decode cX3_weighUp 18 = .ok (.aload_n 0, 1) := by decide +kernel
theorem dX3_weighUp_19 : decode cX3_weighUp 19 = .ok (.getfield 19, 3) := by decide +kernel
theorem dX3_weighUp_22 : decode cX3_weighUp 22 = .ok (.invokevirtual 52, 3) := by decide +kernel
theorem dX3_weighUp_25 : decode cX3_weighUp 25 = .ok (.istore_n 2, 1) := by decide +kernel
theorem dX3_weighUp_26 : decode cX3_weighUp 26 = .ok (.iload_n 1, 1) := by decide +kernel
theorem dX3_weighUp_27 : decode cX3_weighUp 27 = .ok (.invokestatic 56, 3) := by decide +kernel
theorem dX3_weighUp_30 : decode cX3_weighUp 30 = .ok (.aload_n 0, 1) := by decide +kernel
theorem dX3_weighUp_31 : decode cX3_weighUp 31 = .ok (.getfield 23, 3) := by decide +kernel
theorem dX3_weighUp_34 : decode cX3_weighUp 34 = .ok (.invokestatic 56, 3) := by decide +kernel
theorem dX3_weighUp_37 : decode cX3_weighUp 37 = .ok (.if_icmp .ge 7, 3) := by decide +kernel
theorem dX3_weighUp_40 : decode cX3_weighUp 40 = .ok (.iconst 1, 1) := by decide +kernel
theorem dX3_weighUp_41 : decode cX3_weighUp 41 = .ok (.goto 4, 3) := by decide +kernel
theorem dX3_weighUp_44 : decode cX3_weighUp 44 = .ok (.iconst 0, 1) := by decide +kernel
theorem dX3_weighUp_45 : decode cX3_weighUp 45 = .ok (.istore_n 3, 1) := by decide +kernel
theorem dX3_weighUp_46 : decode cX3_weighUp 46 = .ok (.iload_n 2, 1) := by decide +kernel
theorem dX3_weighUp_47 : decode cX3_weighUp 47 = .ok (.ifCond .lt 11, 3) := by decide +kernel
theorem dX3_weighUp_50 : decode cX3_weighUp 50 = .ok (.iload_n 2, 1) := by decide +kernel
theorem dX3_weighUp_51 : decode cX3_weighUp 51 = .ok (.ifCond .ne 26, 3) := by decide +kernel
theorem dX3_weighUp_54 : decode cX3_weighUp 54 = .ok (.iload_n 3, 1) := by decide +kernel
theorem dX3_weighUp_55 : decode cX3_weighUp 55 = .ok (.ifCond .eq 22, 3) := by decide +kernel
theorem dX3_weighUp_58 : decode cX3_weighUp 58 = .ok (.aload_n 0, 1) := by decide +kernel
theorem dX3_weighUp_59 : decode cX3_weighUp 59 = .ok (.iload_n 1, 1) := by decide +kernel
theorem dX3_weighUp_60 : decode cX3_weighUp 60 = .ok (.putfield 23, 3) := by decide +kernel
theorem dX3_weighUp_63 : decode cX3_weighUp 63 = .ok (.aload_n 0, 1) := by decide +kernel
theorem dX3_weighUp_64 : decode cX3_weighUp 64 = .ok (.getfield 19, 3) := by decide +kernel
theorem dX3_weighUp_67 : decode cX3_weighUp 67 = .ok (.aload_n 0, 1) := by decide +kernel
theorem dX3_weighUp_68 : decode cX3_weighUp 68 = .ok (.getfield 10, 3) := by decide +kernel
theorem dX3_weighUp_71 : decode cX3_weighUp 71 = .ok (.getfield 51, 3) := by decide +kernel
theorem dX3_weighUp_74 : decode cX3_weighUp 74 = .ok (.invokevirtual 62, 3) := by decide +kernel
theorem dX3_weighUp_77 : decode cX3_weighUp 77 = .ok (.return_, 1) := by decide +kernel
theorem dX4_init_0 : decode cX4_init 0 = .ok (.aload_n 0, 1) := by decide +kernel
theorem dX4_init_1 : decode cX4_init 1 = .ok (.invokespecial 3, 3) := by decide +kernel
theorem dX4_init_4 : decode cX4_init 4 = .ok (.aload_n 0, 1) := by decide +kernel
theorem dX4_init_5 : decode cX4_init 5 = .ok (.bipush 47, 2) := by decide +kernel
theorem dX4_init_7 : decode cX4_init 7 = .ok (.newarray .int, 2) := by decide +kernel
theorem dX4_init_9 : decode cX4_init 9 = .ok (.putfield 9, 3) := by decide +kernel
theorem dX4_init_12 : decode cX4_init 12 = .ok (.return_, 1) := by decide +kernel
theorem dX4_isFull_0 : decode cX4_isFull 0 = .ok (.aload_n 0, 1) := by decide +kernel
theorem dX4_isFull_1 : decode cX4_isFull 1 = .ok (.getfield 15, 3) := by decide +kernel
theorem dX4_isFull_4 : decode cX4_isFull 4 = .ok (.bipush 47, 2) := by decide +kernel
theorem dX4_isFull_6 : decode cX4_isFull 6 = .ok (.if_icmp .lt 7, 3) := by decide +kernel
theorem dX4_isFull_9 : decode cX4_isFull 9 = .ok (.iconst 1, 1) := by decide +kernel
theorem dX4_isFull_10 : decode cX4_isFull 10 = .ok (.goto 4, 3) := by decide +kernel
theorem dX4_isFull_13 : decode cX4_isFull 13 = .ok (.iconst 0, 1) := by decide +kernel
theorem dX4_isFull_14 : decode cX4_isFull 14 = .ok (.ireturn, 1) := by decide +kernel
theorem dX4_append_0 : decode cX4_append 0 = .ok (.aload_n 0, 1) := by decide +kernel
theorem dX4_append_1 : decode cX4_append 1 = .ok (.getfield 15, 3) := by decide +kernel
theorem dX4_append_4 : decode cX4_append 4 = .ok (.ifCond .lt 32, 3) := by decide +kernel
theorem dX4_append_7 : decode cX4_append 7 = .ok (.aload_n 0, 1) := by decide +kernel
theorem dX4_append_8 : decode cX4_append 8 = .ok (.getfield 15, 3) := by decide +kernel
theorem dX4_append_11 : decode cX4_append 11 = .ok (.bipush 47, 2) := by decide +kernel
theorem dX4_append_13 : decode cX4_append 13 = .ok (.if_icmp .ge 23, 3) := by decide +kernel
theorem dX4_append_16 : decode cX4_append 16 = .ok (.aload_n 0, 1) := by decide +kernel
theorem dX4_append_17 : decode cX4_append 17 = .ok (.getfield 9, 3) := by decide +kernel
theorem dX4_append_20 : decode cX4_append 20 = .ok (.aload_n 0, 1) := by decide +kernel
theorem dX4_append_21 : decode cX4_append 21 = .ok (.getfield 15, 3) := by decide +kernel
theorem dX4_append_24 : decode cX4_append 24 = .ok (.iload_n 1, 1) := by decide +kernel
theorem dX4_append_25 : decode cX4_append 25 = .ok (.iastore, 1) := by decide +kernel
theorem dX4_append_26 : decode cX4_append 26 = .ok (.aload_n 0, 1) := by decide +kernel
theorem dX4_append_27 : decode cX4_append 27 = .ok (.dup, 1) := by decide +kernel
theorem dX4_append_28 : decode cX4_append 28 = .ok (.getfield 15, 3) := by decide +kernel
theorem dX4_append_31 : decode cX4_append 31 = .ok (.iconst 1, 1) := by decide +kernel
theorem dX4_append_32 : decode cX4_append 32 = .ok (.iadd, 1) := by decide +kernel
theorem dX4_append_33 : decode cX4_append 33 = .ok (.putfield 15, 3) := by decide +kernel
theorem dX4_append_36 : decode cX4_append 36 = .ok (.return_, 1) := by decide +kernel
theorem dX4_empty_0 : decode cX4_empty 0 = .ok (.aload_n 0, 1) := by decide +kernel
theorem dX4_empty_1 : decode cX4_empty 1 = .ok (.iconst 0, 1) := by decide +kernel
theorem dX4_empty_2 : decode cX4_empty 2 = .ok (.putfield 15, 3) := by decide +kernel
theorem dX4_empty_5 : decode cX4_empty 5 = .ok (.return_, 1) := by decide +kernel
theorem dX4_codeAt_0 : decode cX4_codeAt 0 = .ok (.iload_n 1, 1) := by decide +kernel
theorem dX4_codeAt_1 : decode cX4_codeAt 1 = .ok (.ifCond .lt 26, 3) := by decide +kernel
theorem dX4_codeAt_4 : decode cX4_codeAt 4 = .ok (.iload_n 1, 1) := by decide +kernel
theorem dX4_codeAt_5 : decode cX4_codeAt 5 = .ok (.aload_n 0, 1) := by decide +kernel
theorem dX4_codeAt_6 : decode cX4_codeAt 6 = .ok (.getfield 15, 3) := by decide +kernel
theorem dX4_codeAt_9 : decode cX4_codeAt 9 = .ok (.if_icmp .ge 18, 3) := by decide +kernel
theorem dX4_codeAt_12 : decode cX4_codeAt 12 = .ok (.iload_n 1, 1) := by decide +kernel
theorem dX4_codeAt_13 : decode cX4_codeAt 13 = .ok (.bipush 47, 2) := by decide +kernel
theorem dX4_codeAt_15 : decode cX4_codeAt 15 = .ok (.if_icmp .ge 12, 3) := by decide +kernel
theorem dX4_codeAt_18 : decode cX4_codeAt 18 = .ok (.aload_n 0, 1) := by decide +kernel
theorem dX4_codeAt_19 : decode cX4_codeAt 19 = .ok (.getfield 9, 3) := by decide +kernel
theorem dX4_codeAt_22 : decode cX4_codeAt 22 = .ok (.iload_n 1, 1) := by decide +kernel
theorem dX4_codeAt_23 : decode cX4_codeAt 23 = .ok (.iaload, 1) := by decide +kernel
theorem dX4_codeAt_24 : decode cX4_codeAt 24 = .ok (.goto 4, 3) := by decide +kernel
theorem dX4_codeAt_27 : decode cX4_codeAt 27 = .ok (.iconst 0, 1) := by decide +kernel
theorem dX4_codeAt_28 : decode cX4_codeAt 28 = .ok (.ireturn, 1) := by decide +kernel
theorem dX5_init_0 : decode cX5_init 0 = .ok (.aload_n 0, 1) := by decide +kernel
theorem dX5_init_1 : decode cX5_init 1 = .ok (.invokespecial 3, 3) := by decide +kernel
theorem dX5_init_4 : decode cX5_init 4 = .ok (.aload_n 0, 1) := by decide +kernel
theorem dX5_init_5 : decode cX5_init 5 = .ok (.bipush 16, 2) := by decide +kernel
theorem dX5_init_7 : decode cX5_init 7 = .ok (.newarray .int, 2) := by decide +kernel
theorem dX5_init_9 : decode cX5_init 9 = .ok (.putfield 9, 3) := by decide +kernel
theorem dX5_init_12 : decode cX5_init 12 = .ok (.return_, 1) := by decide +kernel
theorem dX5_read_0 : decode cX5_read 0 = .ok (.aload_n 0, 1) := by decide +kernel
theorem dX5_read_1 : decode cX5_read 1 = .ok (.invokevirtual 15, 3) := by decide +kernel
theorem dX5_read_4 : decode cX5_read 4 = .ok (.iconst 0, 1) := by decide +kernel
theorem dX5_read_5 : decode cX5_read 5 = .ok (.istore_n 2, 1) := by decide +kernel
theorem dX5_read_6 : decode cX5_read 6 = .ok (.iload_n 2, 1) := by decide +kernel
theorem dX5_read_7 : decode cX5_read 7 = .ok (.aload_n 1, 1) := by decide +kernel
theorem dX5_read_8 : decode cX5_read 8 = .ok (.getfield 18, 3) := by decide +kernel
theorem dX5_read_11 : decode cX5_read 11 = .ok (.if_icmp .ge 23, 3) := by decide +kernel
theorem dX5_read_14 : decode cX5_read 14 = .ok (.aload_n 0, 1) := by decide +kernel
theorem dX5_read_15 : decode cX5_read 15 = .ok (.aload_n 1, 1) := by decide +kernel
theorem dX5_read_16 : decode cX5_read 16 = .ok (.iload_n 2, 1) := by decide +kernel
theorem dX5_read_17 : decode cX5_read 17 = .ok (.invokevirtual 24, 3) := by decide +kernel
theorem dX5_read_20 : decode cX5_read 20 = .ok (.invokevirtual 28, 3) := by decide +kernel
theorem dX5_read_23 : decode cX5_read 23 = .ok (.ifCond .ne 5, 3) := by decide +kernel
theorem dX5_read_26 : decode cX5_read 26 = .ok (.iload_n 2, 1) := by decide +kernel
theorem dX5_read_27 : decode cX5_read 27 = .ok (.ireturn, 1) := by decide +kernel
theorem dX5_read_28 : decode cX5_read 28 = .ok (.iinc 2 1, 3) := by decide +kernel
theorem dX5_read_31 : decode cX5_read 31 = .ok (.goto (-25), 3) := by decide +kernel
theorem dX5_read_34 : decode cX5_read 34 = .ok (.aload_n 1, 1) := by decide +kernel
theorem dX5_read_35 : decode cX5_read 35 = .ok (.getfield 18, 3) := by decide +kernel
theorem dX5_read_38 : decode cX5_read 38 = .ok (.ireturn, 1) := by decide +kernel
theorem dX5_finish_0 : decode cX5_finish 0 = .ok (.aload_n 0, 1) := by decide +kernel
theorem dX5_finish_1 : decode cX5_finish 1 = .ok (.getfield 32, 3) := by decide +kernel
theorem dX5_finish_4 : decode cX5_finish 4 = .ok (.iconst (-1), 1) := by decide +kernel
theorem dX5_finish_5 : decode cX5_finish 5 = .ok (.if_icmp .eq 10, 3) := by decide +kernel
theorem dX5_finish_8 : decode cX5_finish 8 = .ok (.aload_n 0, 1) := by decide +kernel
theorem dX5_finish_9 : decode cX5_finish 9 = .ok (.invokevirtual 35, 3) := by decide +kernel
theorem dX5_finish_12 : decode cX5_finish 12 = .ok (.ifCond .ne 5, 3) := by decide +kernel
theorem dX5_finish_15 : decode cX5_finish 15 = .ok (.iconst 0, 1) := by decide +kernel
theorem dX5_finish_16 : decode cX5_finish 16 = .ok (.ireturn, 1) := by decide +kernel
theorem dX5_finish_17 : decode cX5_finish 17 = .ok (.aload_n 0, 1) := by decide +kernel
theorem dX5_finish_18 : decode cX5_finish 18 = .ok (.invokevirtual 39, 3) := by decide +kernel
theorem dX5_finish_21 : decode cX5_finish 21 = .ok (.iconst 1, 1) := by decide +kernel
theorem dX5_finish_22 : decode cX5_finish 22 = .ok (.ireturn, 1) := by decide +kernel
theorem dX5_sourcesRead_0 : decode cX5_sourcesRead 0 = .ok (.aload_n 0, 1) := by decide +kernel
theorem dX5_sourcesRead_1 : decode cX5_sourcesRead 1 = .ok (.getfield 42, 3) := by decide +kernel
theorem dX5_sourcesRead_4 : decode cX5_sourcesRead 4 = .ok (.iconst 1, 1) := by decide +kernel
theorem dX5_sourcesRead_5 : decode cX5_sourcesRead 5 = .ok (.iadd, 1) := by decide +kernel
theorem dX5_sourcesRead_6 : decode cX5_sourcesRead 6 = .ok (.ireturn, 1) := by decide +kernel
theorem dX5_tracersRead_0 : decode cX5_tracersRead 0 = .ok (.aload_n 0, 1) := by decide +kernel
theorem dX5_tracersRead_1 : decode cX5_tracersRead 1 = .ok (.getfield 45, 3) := by decide +kernel
theorem dX5_tracersRead_4 : decode cX5_tracersRead 4 = .ok (.iconst 1, 1) := by decide +kernel
theorem dX5_tracersRead_5 : decode cX5_tracersRead 5 = .ok (.iadd, 1) := by decide +kernel
theorem dX5_tracersRead_6 : decode cX5_tracersRead 6 = .ok (.ireturn, 1) := by decide +kernel
theorem dX5_draftOf_0 : decode cX5_draftOf 0 = .ok (.iload_n 1, 1) := by decide +kernel
theorem dX5_draftOf_1 : decode cX5_draftOf 1 = .ok (.iconst 4, 1) := by decide +kernel
theorem dX5_draftOf_2 : decode cX5_draftOf 2 = .ok (.imul, 1) := by decide +kernel
theorem dX5_draftOf_3 : decode cX5_draftOf 3 = .ok (.iload_n 2, 1) := by decide +kernel
theorem dX5_draftOf_4 : decode cX5_draftOf 4 = .ok (.iadd, 1) := by decide +kernel
theorem dX5_draftOf_5 : decode cX5_draftOf 5 = .ok (.istore_n 3, 1) := by decide +kernel
theorem dX5_draftOf_6 : decode cX5_draftOf 6 = .ok (.iload_n 3, 1) := by decide +kernel
theorem dX5_draftOf_7 : decode cX5_draftOf 7 = .ok (.ifCond .lt 18, 3) := by decide +kernel
theorem dX5_draftOf_10 : decode cX5_draftOf 10 = .ok (.iload_n 3, 1) := by decide +kernel
theorem dX5_draftOf_11 : decode cX5_draftOf 11 = .ok (.bipush 16, 2) := by decide +kernel
theorem dX5_draftOf_13 : decode cX5_draftOf 13 = .ok (.if_icmp .ge 12, 3) := by decide +kernel
theorem dX5_draftOf_16 : decode cX5_draftOf 16 = .ok (.aload_n 0, 1) := by decide +kernel
theorem dX5_draftOf_17 : decode cX5_draftOf 17 = .ok (.getfield 9, 3) := by decide +kernel
theorem dX5_draftOf_20 : decode cX5_draftOf 20 = .ok (.iload_n 3, 1) := by decide +kernel
theorem dX5_draftOf_21 : decode cX5_draftOf 21 = .ok (.iaload, 1) := by decide +kernel
theorem dX5_draftOf_22 : decode cX5_draftOf 22 = .ok (.goto 4, 3) := by decide +kernel
theorem dX5_draftOf_25 : decode cX5_draftOf 25 = .ok (.iconst 0, 1) := by decide +kernel
theorem dX5_draftOf_26 : decode cX5_draftOf 26 = .ok (.ireturn, 1) := by decide +kernel
theorem dX5_start_0 : decode cX5_start 0 = .ok (.iconst 0, 1) := by decide +kernel
theorem dX5_start_1 : decode cX5_start 1 = .ok (.istore_n 1, 1) := by decide +kernel
theorem dX5_start_2 : decode cX5_start 2 = .ok (.iload_n 1, 1) := by decide +kernel
theorem dX5_start_3 : decode cX5_start 3 = .ok (.bipush 16, 2) := by decide +kernel
theorem dX5_start_5 : decode cX5_start 5 = .ok (.if_icmp .ge 16, 3) := by decide +kernel
theorem dX5_start_8 : decode cX5_start 8 = .ok (.aload_n 0, 1) := by decide +kernel
theorem dX5_start_9 : decode cX5_start 9 = .ok (.getfield 9, 3) := by decide +kernel
theorem dX5_start_12 : decode cX5_start 12 = .ok (.iload_n 1, 1) := by decide +kernel
theorem dX5_start_13 : decode cX5_start 13 = .ok (.iconst 0, 1) := by decide +kernel
theorem dX5_start_14 : decode cX5_start 14 = .ok (.iastore, 1) := by decide +kernel
theorem dX5_start_15 : decode cX5_start 15 = .ok (.iinc 1 1, 3) := by decide +kernel
theorem dX5_start_18 : decode cX5_start 18 = .ok (.goto (-16), 3) := by decide +kernel
theorem dX5_start_21 : decode cX5_start 21 = .ok (.aload_n 0, 1) := by decide +kernel
theorem dX5_start_22 : decode cX5_start 22 = .ok (.iconst 0, 1) := by decide +kernel
theorem dX5_start_23 : decode cX5_start 23 = .ok (.putfield 42, 3) := by decide +kernel
theorem dX5_start_26 : decode cX5_start 26 = .ok (.aload_n 0, 1) := by decide +kernel
theorem dX5_start_27 : decode cX5_start 27 = .ok (.iconst 0, 1) := by decide +kernel
theorem dX5_start_28 : decode cX5_start 28 = .ok (.putfield 45, 3) := by decide +kernel
theorem dX5_start_31 : decode cX5_start 31 = .ok (.aload_n 0, 1) := by decide +kernel
theorem dX5_start_32 : decode cX5_start 32 = .ok (.iconst 0, 1) := by decide +kernel
theorem dX5_start_33 : decode cX5_start 33 = .ok (.putfield 48, 3) := by decide +kernel
theorem dX5_start_36 : decode cX5_start 36 = .ok (.aload_n 0, 1) := by decide +kernel
theorem dX5_start_37 : decode cX5_start 37 = .ok (.iconst (-1), 1) := by decide +kernel
theorem dX5_start_38 : decode cX5_start 38 = .ok (.putfield 32, 3) := by decide +kernel
theorem dX5_start_41 : decode cX5_start 41 = .ok (.return_, 1) := by decide +kernel
theorem dX5_takes_0 : decode cX5_takes 0 = .ok (.iload_n 1, 1) := by decide +kernel
theorem dX5_takes_1 : decode cX5_takes 1 = .ok (.lookupswitch 37 #[(44, 27), (59, 32)], 27) := by decide +kernel
theorem dX5_takes_28 : decode cX5_takes 28 = .ok (.aload_n 0, 1) := by decide +kernel
theorem dX5_takes_29 : decode cX5_takes 29 = .ok (.invokevirtual 51, 3) := by decide +kernel
theorem dX5_takes_32 : decode cX5_takes 32 = .ok (.ireturn, 1) := by decide +kernel
theorem dX5_takes_33 : decode cX5_takes 33 = .ok (.aload_n 0, 1) := by decide +kernel
theorem dX5_takes_34 : decode cX5_takes 34 = .ok (.invokevirtual 54, 3) := by decide +kernel
theorem dX5_takes_37 : decode cX5_takes 37 = .ok (.ireturn, 1) := by decide +kernel
theorem dX5_takes_38 : decode cX5_takes 38 = .ok (.iload_n 1, 1) := by decide +kernel
theorem dX5_takes_39 : decode cX5_takes 39 = .ok (.bipush 48, 2) := by decide +kernel
theorem dX5_takes_41 : decode cX5_takes 41 = .ok (.if_icmp .lt 24, 3) := by decide +kernel
theorem dX5_takes_44 : decode cX5_takes 44 = .ok (.iload_n 1, 1) := by decide +kernel
theorem dX5_takes_45 : decode cX5_takes 45 = .ok (.bipush 57, 2) := by decide +kernel
theorem dX5_takes_47 : decode cX5_takes 47 = .ok (.if_icmp .gt 18, 3) := by decide +kernel
theorem dX5_takes_50 : decode cX5_takes 50 = .ok (.aload_n 0, 1) := by decide +kernel
theorem dX5_takes_51 : decode cX5_takes 51 = .ok (.iload_n 1, 1) := by decide +kernel
theorem dX5_takes_52 : decode cX5_takes 52 = .ok (.bipush 48, 2) := by decide +kernel
theorem dX5_takes_54 : decode cX5_takes 54 = .ok (.isub, 1) := by decide +kernel
theorem dX5_takes_55 : decode cX5_takes 55 = .ok (.invokevirtual 57, 3) := by decide +kernel
theorem dX5_takes_58 : decode cX5_takes 58 = .ok (.ifCond .eq 7, 3) := by decide +kernel
theorem dX5_takes_61 : decode cX5_takes 61 = .ok (.iconst 1, 1) := by decide +kernel
theorem dX5_takes_62 : decode cX5_takes 62 = .ok (.goto 4, 3) := by decide +kernel
theorem dX5_takes_65 : decode cX5_takes 65 = .ok (.iconst 0, 1) := by decide +kernel
theorem dX5_takes_66 : decode cX5_takes 66 = .ok (.ireturn, 1) := by decide +kernel
theorem dX5_takesFigure_0 : decode cX5_takesFigure 0 = .ok (.aload_n 0, 1) := by decide +kernel
theorem dX5_takesFigure_1 : decode cX5_takesFigure 1 = .ok (.getfield 32, 3) := by decide +kernel
theorem dX5_takesFigure_4 : decode cX5_takesFigure 4 = .ok (.iconst (-1), 1) := by decide +kernel
theorem dX5_takesFigure_5 : decode cX5_takesFigure 5 = .ok (.if_icmp .ne 10, 3) := by decide +kernel
theorem dX5_takesFigure_8 : decode cX5_takesFigure 8 = .ok (.aload_n 0, 1) := by decide +kernel
theorem dX5_takesFigure_9 : decode cX5_takesFigure 9 = .ok (.iload_n 1, 1) := by decide +kernel
theorem dX5_takesFigure_10 : decode cX5_takesFigure 10 = .ok (.putfield 32, 3) := by decide +kernel
theorem dX5_takesFigure_13 : decode cX5_takesFigure 13 = .ok (.iconst 1, 1) := by decide +kernel
theorem dX5_takesFigure_14 : decode cX5_takesFigure 14 = .ok (.ireturn, 1) := by decide +kernel
theorem dX5_takesFigure_15 : decode cX5_takesFigure 15 = .ok (.aload_n 0, 1) := by decide +kernel
theorem dX5_takesFigure_16 : decode cX5_takesFigure 16 = .ok (.getfield 32, 3) := by decide +kernel
theorem dX5_takesFigure_19 : decode cX5_takesFigure 19 = .ok (.bipush 10, 2) := by decide +kernel
theorem dX5_takesFigure_21 : decode cX5_takesFigure 21 = .ok (.imul, 1) := by decide +kernel
theorem dX5_takesFigure_22 : decode cX5_takesFigure 22 = .ok (.iload_n 1, 1) := by decide +kernel
theorem dX5_takesFigure_23 : decode cX5_takesFigure 23 = .ok (.iadd, 1) := by decide +kernel
theorem dX5_takesFigure_24 : decode cX5_takesFigure 24 = .ok (.istore_n 2, 1) := by decide +kernel
theorem dX5_takesFigure_25 : decode cX5_takesFigure 25 = .ok (.aload_n 0, 1) := by decide +kernel
theorem dX5_takesFigure_26 : decode cX5_takesFigure 26 = .ok (.getfield 32, 3) := by decide +kernel
theorem dX5_takesFigure_29 : decode cX5_takesFigure 29 = .ok (.ifCond .eq 9, 3) := by decide +kernel
theorem dX5_takesFigure_32 : decode cX5_takesFigure 32 = .ok (.iload_n 2, 1) := by decide +kernel
theorem dX5_takesFigure_33 : decode cX5_takesFigure 33 = .ok (.bipush 20, 2) := by decide +kernel
theorem dX5_takesFigure_35 : decode cX5_takesFigure 35 = .ok (.if_icmp .le 5, 3) := by decide +kernel
theorem dX5_takesFigure_38 : decode cX5_takesFigure 38 = .ok (.iconst 0, 1) := by decide +kernel
theorem dX5_takesFigure_39 : decode cX5_takesFigure 39 = .ok (.ireturn, 1) := by decide +kernel
theorem dX5_takesFigure_40 : decode cX5_takesFigure 40 = .ok (.aload_n 0, 1) := by decide +kernel
theorem dX5_takesFigure_41 : decode cX5_takesFigure 41 = .ok (.iload_n 2, 1) := by decide +kernel
theorem dX5_takesFigure_42 : decode cX5_takesFigure 42 = .ok (.putfield 32, 3) := by decide +kernel
theorem dX5_takesFigure_45 : decode cX5_takesFigure 45 = .ok (.iconst 1, 1) := by decide +kernel
theorem dX5_takesFigure_46 : decode cX5_takesFigure 46 = .ok (.ireturn, 1) := by decide +kernel
theorem dX5_takesComma_0 : decode cX5_takesComma 0 = .ok (.aload_n 0, 1) := by decide +kernel
theorem dX5_takesComma_1 : decode cX5_takesComma 1 = .ok (.getfield 42, 3) := by decide +kernel
theorem dX5_takesComma_4 : decode cX5_takesComma 4 = .ok (.ifCond .ne 7, 3) := by decide +kernel
theorem dX5_takesComma_7 : decode cX5_takesComma 7 = .ok (.iconst 4, 1) := by decide +kernel
theorem dX5_takesComma_8 : decode cX5_takesComma 8 = .ok (.goto 7, 3) := by decide +kernel
theorem dX5_takesComma_11 : decode cX5_takesComma 11 = .ok (.aload_n 0, 1) := by decide +kernel
theorem dX5_takesComma_12 : decode cX5_takesComma 12 = .ok (.getfield 48, 3) := by decide +kernel
theorem dX5_takesComma_15 : decode cX5_takesComma 15 = .ok (.istore_n 1, 1) := by decide +kernel
theorem dX5_takesComma_16 : decode cX5_takesComma 16 = .ok (.aload_n 0, 1) := by decide +kernel
theorem dX5_takesComma_17 : decode cX5_takesComma 17 = .ok (.getfield 32, 3) := by decide +kernel
theorem dX5_takesComma_20 : decode cX5_takesComma 20 = .ok (.iconst (-1), 1) := by decide +kernel
theorem dX5_takesComma_21 : decode cX5_takesComma 21 = .ok (.if_icmp .eq 13, 3) := by decide +kernel
theorem dX5_takesComma_24 : decode cX5_takesComma 24 = .ok (.aload_n 0, 1) := by decide +kernel
theorem dX5_takesComma_25 : decode cX5_takesComma 25 = .ok (.getfield 45, 3) := by decide +kernel
theorem dX5_takesComma_28 : decode cX5_takesComma 28 = .ok (.iconst 1, 1) := by decide +kernel
theorem dX5_takesComma_29 : decode cX5_takesComma 29 = .ok (.iadd, 1) := by decide +kernel
theorem dX5_takesComma_30 : decode cX5_takesComma 30 = .ok (.iload_n 1, 1) := by decide +kernel
theorem dX5_takesComma_31 : decode cX5_takesComma 31 = .ok (.if_icmp .lt 5, 3) := by decide +kernel
theorem dX5_takesComma_34 : decode cX5_takesComma 34 = .ok (.iconst 0, 1) := by decide +kernel
theorem dX5_takesComma_35 : decode cX5_takesComma 35 = .ok (.ireturn, 1) := by decide +kernel
theorem dX5_takesComma_36 : decode cX5_takesComma 36 = .ok (.aload_n 0, 1) := by decide +kernel
theorem dX5_takesComma_37 : decode cX5_takesComma 37 = .ok (.invokevirtual 39, 3) := by decide +kernel
theorem dX5_takesComma_40 : decode cX5_takesComma 40 = .ok (.aload_n 0, 1) := by decide +kernel
theorem dX5_takesComma_41 : decode cX5_takesComma 41 = .ok (.dup, 1) := by decide +kernel
theorem dX5_takesComma_42 : decode cX5_takesComma 42 = .ok (.getfield 45, 3) := by decide +kernel
theorem dX5_takesComma_45 : decode cX5_takesComma 45 = .ok (.iconst 1, 1) := by decide +kernel
theorem dX5_takesComma_46 : decode cX5_takesComma 46 = .ok (.iadd, 1) := by decide +kernel
theorem dX5_takesComma_47 : decode cX5_takesComma 47 = .ok (.putfield 45, 3) := by decide +kernel
theorem dX5_takesComma_50 : decode cX5_takesComma 50 = .ok (.iconst 1, 1) := by decide +kernel
theorem dX5_takesComma_51 : decode cX5_takesComma 51 = .ok (.ireturn, 1) := by decide +kernel
theorem dX5_takesSemicolon_0 : decode cX5_takesSemicolon 0 = .ok (.aload_n 0, 1) := by decide +kernel
theorem dX5_takesSemicolon_1 : decode cX5_takesSemicolon 1 = .ok (.getfield 32, 3) := by decide +kernel
theorem dX5_takesSemicolon_4 : decode cX5_takesSemicolon 4 = .ok (.iconst (-1), 1) := by decide +kernel
theorem dX5_takesSemicolon_5 : decode cX5_takesSemicolon 5 = .ok (.if_icmp .eq 20, 3) := by decide +kernel
theorem dX5_takesSemicolon_8 : decode cX5_takesSemicolon 8 = .ok (.aload_n 0, 1) := by decide +kernel
theorem dX5_takesSemicolon_9 : decode cX5_takesSemicolon 9 = .ok (.invokevirtual 35, 3) := by decide +kernel
theorem dX5_takesSemicolon_12 : decode cX5_takesSemicolon 12 = .ok (.ifCond .eq 13, 3) := by decide +kernel
theorem dX5_takesSemicolon_15 : decode cX5_takesSemicolon 15 = .ok (.aload_n 0, 1) := by decide +kernel
theorem dX5_takesSemicolon_16 : decode cX5_takesSemicolon 16 = .ok (.getfield 42, 3) := by decide +kernel
theorem dX5_takesSemicolon_19 : decode cX5_takesSemicolon 19 = .ok (.iconst 1, 1) := by decide +kernel
theorem dX5_takesSemicolon_20 : decode cX5_takesSemicolon 20 = .ok (.iadd, 1) := by decide +kernel
theorem dX5_takesSemicolon_21 : decode cX5_takesSemicolon 21 = .ok (.iconst 4, 1) := by decide +kernel
theorem dX5_takesSemicolon_22 : decode cX5_takesSemicolon 22 = .ok (.if_icmp .lt 5, 3) := by decide +kernel
theorem dX5_takesSemicolon_25 : decode cX5_takesSemicolon 25 = .ok (.iconst 0, 1) := by decide +kernel
theorem dX5_takesSemicolon_26 : decode cX5_takesSemicolon 26 = .ok (.ireturn, 1) := by decide +kernel
theorem dX5_takesSemicolon_27 : decode cX5_takesSemicolon 27 = .ok (.aload_n 0, 1) := by decide +kernel
theorem dX5_takesSemicolon_28 : decode cX5_takesSemicolon 28 = .ok (.invokevirtual 39, 3) := by decide +kernel
theorem dX5_takesSemicolon_31 : decode cX5_takesSemicolon 31 = .ok (.aload_n 0, 1) := by decide +kernel
theorem dX5_takesSemicolon_32 : decode cX5_takesSemicolon 32 = .ok (.aload_n 0, 1) := by decide +kernel
theorem dX5_takesSemicolon_33 : decode cX5_takesSemicolon 33 = .ok (.getfield 45, 3) := by decide +kernel
theorem dX5_takesSemicolon_36 : decode cX5_takesSemicolon 36 = .ok (.iconst 1, 1) := by decide +kernel
theorem dX5_takesSemicolon_37 : decode cX5_takesSemicolon 37 = .ok (.iadd, 1) := by decide +kernel
theorem dX5_takesSemicolon_38 : decode cX5_takesSemicolon 38 = .ok (.putfield 48, 3) := by decide +kernel
theorem dX5_takesSemicolon_41 : decode cX5_takesSemicolon 41 = .ok (.aload_n 0, 1) := by decide +kernel
theorem dX5_takesSemicolon_42 : decode cX5_takesSemicolon 42 = .ok (.dup, 1) := by decide +kernel
theorem dX5_takesSemicolon_43 : decode cX5_takesSemicolon 43 = .ok (.getfield 42, 3) := by decide +kernel
theorem dX5_takesSemicolon_46 : decode cX5_takesSemicolon 46 = .ok (.iconst 1, 1) := by decide +kernel
theorem dX5_takesSemicolon_47 : decode cX5_takesSemicolon 47 = .ok (.iadd, 1) := by decide +kernel
theorem dX5_takesSemicolon_48 : decode cX5_takesSemicolon 48 = .ok (.putfield 42, 3) := by decide +kernel
theorem dX5_takesSemicolon_51 : decode cX5_takesSemicolon 51 = .ok (.aload_n 0, 1) := by decide +kernel
theorem dX5_takesSemicolon_52 : decode cX5_takesSemicolon 52 = .ok (.iconst 0, 1) := by decide +kernel
theorem dX5_takesSemicolon_53 : decode cX5_takesSemicolon 53 = .ok (.putfield 45, 3) := by decide +kernel
theorem dX5_takesSemicolon_56 : decode cX5_takesSemicolon 56 = .ok (.iconst 1, 1) := by decide +kernel
theorem dX5_takesSemicolon_57 : decode cX5_takesSemicolon 57 = .ok (.ireturn, 1) := by decide +kernel
theorem dX5_isLastTracer_0 : decode cX5_isLastTracer 0 = .ok (.aload_n 0, 1) := by decide +kernel
theorem dX5_isLastTracer_1 : decode cX5_isLastTracer 1 = .ok (.getfield 42, 3) := by decide +kernel
theorem dX5_isLastTracer_4 : decode cX5_isLastTracer 4 = .ok (.ifCond .eq 16, 3) := by decide +kernel
theorem dX5_isLastTracer_7 : decode cX5_isLastTracer 7 = .ok (.aload_n 0, 1) := by decide +kernel
theorem dX5_isLastTracer_8 : decode cX5_isLastTracer 8 = .ok (.getfield 45, 3) := by decide +kernel
theorem dX5_isLastTracer_11 : decode cX5_isLastTracer 11 = .ok (.iconst 1, 1) := by decide +kernel
theorem dX5_isLastTracer_12 : decode cX5_isLastTracer 12 = .ok (.iadd, 1) := by decide +kernel
theorem dX5_isLastTracer_13 : decode cX5_isLastTracer 13 = .ok (.aload_n 0, 1) := by decide +kernel
theorem dX5_isLastTracer_14 : decode cX5_isLastTracer 14 = .ok (.getfield 48, 3) := by decide +kernel
theorem dX5_isLastTracer_17 : decode cX5_isLastTracer 17 = .ok (.if_icmp .ne 7, 3) := by decide +kernel
theorem dX5_isLastTracer_20 : decode cX5_isLastTracer 20 = .ok (.iconst 1, 1) := by decide +kernel
theorem dX5_isLastTracer_21 : decode cX5_isLastTracer 21 = .ok (.goto 4, 3) := by decide +kernel
theorem dX5_isLastTracer_24 : decode cX5_isLastTracer 24 = .ok (.iconst 0, 1) := by decide +kernel
theorem dX5_isLastTracer_25 : decode cX5_isLastTracer 25 = .ok (.ireturn, 1) := by decide +kernel
theorem dX5_keepNumber_0 : decode cX5_keepNumber 0 = .ok (.aload_n 0, 1) := by decide +kernel
theorem dX5_keepNumber_1 : decode cX5_keepNumber 1 = .ok (.getfield 42, 3) := by decide +kernel
theorem dX5_keepNumber_4 : decode cX5_keepNumber 4 = .ok (.iconst 4, 1) := by decide +kernel
theorem dX5_keepNumber_5 : decode cX5_keepNumber 5 = .ok (.imul, 1) := by decide +kernel
theorem dX5_keepNumber_6 : decode cX5_keepNumber 6 = .ok (.aload_n 0, 1) := by decide +kernel
theorem dX5_keepNumber_7 : decode cX5_keepNumber 7 = .ok (.getfield 45, 3) := by decide +kernel
theorem dX5_keepNumber_10 : decode cX5_keepNumber 10 = .ok (.iadd, 1) := by decide +kernel
theorem dX5_keepNumber_11 : decode cX5_keepNumber 11 = .ok (.istore_n 1, 1) := by decide +kernel
theorem dX5_keepNumber_12 : decode cX5_keepNumber 12 = .ok (.iload_n 1, 1) := by decide +kernel
theorem dX5_keepNumber_13 : decode cX5_keepNumber 13 = .ok (.ifCond .lt 19, 3) := by decide +kernel
theorem dX5_keepNumber_16 : decode cX5_keepNumber 16 = .ok (.iload_n 1, 1) := by decide +kernel
theorem dX5_keepNumber_17 : decode cX5_keepNumber 17 = .ok (.bipush 16, 2) := by decide +kernel
theorem dX5_keepNumber_19 : decode cX5_keepNumber 19 = .ok (.if_icmp .ge 13, 3) := by decide +kernel
theorem dX5_keepNumber_22 : decode cX5_keepNumber 22 = .ok (.aload_n 0, 1) := by decide +kernel
theorem dX5_keepNumber_23 : decode cX5_keepNumber 23 = .ok (.getfield 9, 3) := by decide +kernel
theorem dX5_keepNumber_26 : decode cX5_keepNumber 26 = .ok (.iload_n 1, 1) := by decide +kernel
theorem dX5_keepNumber_27 : decode cX5_keepNumber 27 = .ok (.aload_n 0, 1) := by decide +kernel
theorem dX5_keepNumber_28 : decode cX5_keepNumber 28 = .ok (.getfield 32, 3) := by decide +kernel
theorem dX5_keepNumber_31 : decode cX5_keepNumber 31 = .ok (.iastore, 1) := by decide +kernel
theorem dX5_keepNumber_32 : decode cX5_keepNumber 32 = .ok (.aload_n 0, 1) := by decide +kernel
theorem dX5_keepNumber_33 : decode cX5_keepNumber 33 = .ok (.iconst (-1), 1) := by decide +kernel
theorem dX5_keepNumber_34 : decode cX5_keepNumber 34 = .ok (.putfield 32, 3) := by decide +kernel
theorem dX5_keepNumber_37 : decode cX5_keepNumber 37 = .ok (.return_, 1) := by decide +kernel
theorem dJ6_bitCount_0f7a4_0 : decode cJ6_bitCount_0f7a4 0 = .ok (.iload_n 0, 1) := by decide +kernel
theorem dJ6_bitCount_0f7a4_1 : decode cJ6_bitCount_0f7a4 1 = .ok (.iload_n 0, 1) := by decide +kernel
theorem dJ6_bitCount_0f7a4_2 : decode cJ6_bitCount_0f7a4 2 = .ok (.iconst 1, 1) := by decide +kernel
theorem dJ6_bitCount_0f7a4_3 : decode cJ6_bitCount_0f7a4 3 = .ok (.iushr, 1) := by decide +kernel
theorem dJ6_bitCount_0f7a4_4 : decode cJ6_bitCount_0f7a4 4 = .ok (.ldc_w 265, 3) := by decide +kernel
theorem dJ6_bitCount_0f7a4_7 : decode cJ6_bitCount_0f7a4 7 = .ok (.iand, 1) := by decide +kernel
theorem dJ6_bitCount_0f7a4_8 : decode cJ6_bitCount_0f7a4 8 = .ok (.isub, 1) := by decide +kernel
theorem dJ6_bitCount_0f7a4_9 : decode cJ6_bitCount_0f7a4 9 = .ok (.istore_n 0, 1) := by decide +kernel
theorem dJ6_bitCount_0f7a4_10 : decode cJ6_bitCount_0f7a4 10 = .ok (.iload_n 0, 1) := by decide +kernel
theorem dJ6_bitCount_0f7a4_11 : decode cJ6_bitCount_0f7a4 11 = .ok (.ldc_w 266, 3) := by decide +kernel
theorem dJ6_bitCount_0f7a4_14 : decode cJ6_bitCount_0f7a4 14 = .ok (.iand, 1) := by decide +kernel
theorem dJ6_bitCount_0f7a4_15 : decode cJ6_bitCount_0f7a4 15 = .ok (.iload_n 0, 1) := by decide +kernel
theorem dJ6_bitCount_0f7a4_16 : decode cJ6_bitCount_0f7a4 16 = .ok (.iconst 2, 1) := by decide +kernel
theorem dJ6_bitCount_0f7a4_17 : decode cJ6_bitCount_0f7a4 17 = .ok (.iushr, 1) := by decide +kernel
theorem dJ6_bitCount_0f7a4_18 : decode cJ6_bitCount_0f7a4 18 = .ok (.ldc_w 266, 3) := by decide +kernel
theorem dJ6_bitCount_0f7a4_21 : decode cJ6_bitCount_0f7a4 21 = .ok (.iand, 1) := by decide +kernel
theorem dJ6_bitCount_0f7a4_22 : decode cJ6_bitCount_0f7a4 22 = .ok (.iadd, 1) := by decide +kernel
theorem dJ6_bitCount_0f7a4_23 : decode cJ6_bitCount_0f7a4 23 = .ok (.istore_n 0, 1) := by decide +kernel
theorem dJ6_bitCount_0f7a4_24 : decode cJ6_bitCount_0f7a4 24 = .ok (.iload_n 0, 1) := by decide +kernel
theorem dJ6_bitCount_0f7a4_25 : decode cJ6_bitCount_0f7a4 25 = .ok (.iload_n 0, 1) := by decide +kernel
theorem dJ6_bitCount_0f7a4_26 : decode cJ6_bitCount_0f7a4 26 = .ok (.iconst 4, 1) := by decide +kernel
theorem dJ6_bitCount_0f7a4_27 : decode cJ6_bitCount_0f7a4 27 = .ok (.iushr, 1) := by decide +kernel
theorem dJ6_bitCount_0f7a4_28 : decode cJ6_bitCount_0f7a4 28 = .ok (.iadd, 1) := by decide +kernel
theorem dJ6_bitCount_0f7a4_29 : decode cJ6_bitCount_0f7a4 29 = .ok (.ldc_w 267, 3) := by decide +kernel
theorem dJ6_bitCount_0f7a4_32 : decode cJ6_bitCount_0f7a4 32 = .ok (.iand, 1) := by decide +kernel
theorem dJ6_bitCount_0f7a4_33 : decode cJ6_bitCount_0f7a4 33 = .ok (.istore_n 0, 1) := by decide +kernel
theorem dJ6_bitCount_0f7a4_34 : decode cJ6_bitCount_0f7a4 34 = .ok (.iload_n 0, 1) := by decide +kernel
theorem dJ6_bitCount_0f7a4_35 : decode cJ6_bitCount_0f7a4 35 = .ok (.iload_n 0, 1) := by decide +kernel
theorem dJ6_bitCount_0f7a4_36 : decode cJ6_bitCount_0f7a4 36 = .ok (.bipush 8, 2) := by decide +kernel
theorem dJ6_bitCount_0f7a4_38 : decode cJ6_bitCount_0f7a4 38 = .ok (.iushr, 1) := by decide +kernel
theorem dJ6_bitCount_0f7a4_39 : decode cJ6_bitCount_0f7a4 39 = .ok (.iadd, 1) := by decide +kernel
theorem dJ6_bitCount_0f7a4_40 : decode cJ6_bitCount_0f7a4 40 = .ok (.istore_n 0, 1) := by decide +kernel
theorem dJ6_bitCount_0f7a4_41 : decode cJ6_bitCount_0f7a4 41 = .ok (.iload_n 0, 1) := by decide +kernel
theorem dJ6_bitCount_0f7a4_42 : decode cJ6_bitCount_0f7a4 42 = .ok (.iload_n 0, 1) := by decide +kernel
theorem dJ6_bitCount_0f7a4_43 : decode cJ6_bitCount_0f7a4 43 = .ok (.bipush 16, 2) := by decide +kernel
theorem dJ6_bitCount_0f7a4_45 : decode cJ6_bitCount_0f7a4 45 = .ok (.iushr, 1) := by decide +kernel
theorem dJ6_bitCount_0f7a4_46 : decode cJ6_bitCount_0f7a4 46 = .ok (.iadd, 1) := by decide +kernel
theorem dJ6_bitCount_0f7a4_47 : decode cJ6_bitCount_0f7a4 47 = .ok (.istore_n 0, 1) := by decide +kernel
theorem dJ6_bitCount_0f7a4_48 : decode cJ6_bitCount_0f7a4 48 = .ok (.iload_n 0, 1) := by decide +kernel
theorem dJ6_bitCount_0f7a4_49 : decode cJ6_bitCount_0f7a4 49 = .ok (.bipush 63, 2) := by decide +kernel
theorem dJ6_bitCount_0f7a4_51 : decode cJ6_bitCount_0f7a4 51 = .ok (.iand, 1) := by decide +kernel
theorem dJ6_bitCount_0f7a4_52 : decode cJ6_bitCount_0f7a4 52 = .ok (.ireturn, 1) := by decide +kernel
theorem dJ13_compare_74951_0 : decode cJ13_compare_74951 0 = .ok (.lload_n 0, 1) := by decide +kernel
theorem dJ13_compare_74951_1 : decode cJ13_compare_74951 1 = .ok (.lload_n 2, 1) := by decide +kernel
theorem dJ13_compare_74951_2 : decode cJ13_compare_74951 2 = .ok (.lcmp, 1) := by decide +kernel
theorem dJ13_compare_74951_3 : decode cJ13_compare_74951 3 = .ok (.ifCond .ge 7, 3) := by decide +kernel
theorem dJ13_compare_74951_6 : decode cJ13_compare_74951 6 = .ok (.iconst (-1), 1) := by decide +kernel
theorem dJ13_compare_74951_7 : decode cJ13_compare_74951 7 = .ok (.goto 14, 3) := by decide +kernel
theorem dJ13_compare_74951_10 : decode cJ13_compare_74951 10 = .ok (.lload_n 0, 1) := by decide +kernel
theorem dJ13_compare_74951_11 : decode cJ13_compare_74951 11 = .ok (.lload_n 2, 1) := by decide +kernel
theorem dJ13_compare_74951_12 : decode cJ13_compare_74951 12 = .ok (.lcmp, 1) := by decide +kernel
theorem dJ13_compare_74951_13 : decode cJ13_compare_74951 13 = .ok (.ifCond .ne 7, 3) := by decide +kernel
theorem dJ13_compare_74951_16 : decode cJ13_compare_74951 16 = .ok (.iconst 0, 1) := by decide +kernel
theorem dJ13_compare_74951_17 : decode cJ13_compare_74951 17 = .ok (.goto 4, 3) := by decide +kernel
theorem dJ13_compare_74951_20 : decode cJ13_compare_74951 20 = .ok (.iconst 1, 1) := by decide +kernel
theorem dJ13_compare_74951_21 : decode cJ13_compare_74951 21 = .ok (.ireturn, 1) := by decide +kernel
theorem dJ9_abs_067f4_0 : decode cJ9_abs_067f4 0 = .ok (.lload_n 0, 1) := by decide +kernel
theorem dJ9_abs_067f4_1 : decode cJ9_abs_067f4 1 = .ok (.lconst 0, 1) := by decide +kernel
theorem dJ9_abs_067f4_2 : decode cJ9_abs_067f4 2 = .ok (.lcmp, 1) := by decide +kernel
theorem dJ9_abs_067f4_3 : decode cJ9_abs_067f4 3 = .ok (.ifCond .ge 8, 3) := by decide +kernel
theorem dJ9_abs_067f4_6 : decode cJ9_abs_067f4 6 = .ok (.lload_n 0, 1) := by decide +kernel
theorem dJ9_abs_067f4_7 : decode cJ9_abs_067f4 7 = .ok (.lneg, 1) := by decide +kernel
theorem dJ9_abs_067f4_8 : decode cJ9_abs_067f4 8 = .ok (.goto 4, 3) := by decide +kernel
theorem dJ9_abs_067f4_11 : decode cJ9_abs_067f4 11 = .ok (.lload_n 0, 1) := by decide +kernel
theorem dJ9_abs_067f4_12 : decode cJ9_abs_067f4 12 = .ok (.lreturn, 1) := by decide +kernel
