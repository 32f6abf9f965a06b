theorem dX0_init_0 : decode cX0_init 0 = .ok (.aload_n 0, 1) := by decide +kernel
theorem dX0_init_1 : decode cX0_init 1 = .ok (.invokespecial 3, 3) := by decide +kernel
theorem dX0_init_4 : decode cX0_init 4 = .ok (.aload_n 0, 1) := by decide +kernel
theorem dX0_init_5 : decode cX0_init 5 = .ok (.bipush 20, 2) := by decide +kernel
theorem dX0_init_7 : decode cX0_init 7 = .ok (.newarray .int, 2) := by decide +kernel
theorem dX0_init_9 : decode cX0_init 9 = .ok (.putfield 9, 3) := by decide +kernel
theorem dX0_init_12 : decode cX0_init 12 = .ok (.aload_n 0, 1) := by decide +kernel
theorem dX0_init_13 : decode cX0_init 13 = .ok (.bipush 96, 2) := by decide +kernel
theorem dX0_init_15 : decode cX0_init 15 = .ok (.newarray .int, 2) := by decide +kernel
theorem dX0_init_17 : decode cX0_init 17 = .ok (.putfield 15, 3) := by decide +kernel
theorem dX0_init_20 : decode cX0_init 20 = .ok (.aload_n 0, 1) := by decide +kernel
theorem dX0_init_21 : decode cX0_init 21 = .ok (.iconst 4, 1) := by decide +kernel
theorem dX0_init_22 : decode cX0_init 22 = .ok (.newarray .int, 2) := by decide +kernel
theorem dX0_init_24 : decode cX0_init 24 = .ok (.putfield 18, 3) := by decide +kernel
theorem dX0_init_27 : decode cX0_init 27 = .ok (.aload_n 0, 1) := by decide +kernel
theorem dX0_init_28 : decode cX0_init 28 = .ok (.bipush 6, 2) := by decide +kernel
theorem dX0_init_30 : decode cX0_init 30 = .ok (.newarray .int, 2) := by decide +kernel
theorem dX0_init_32 : decode cX0_init 32 = .ok (.putfield 21, 3) := by decide +kernel
theorem dX0_init_35 : decode cX0_init 35 = .ok (.aload_n 0, 1) := by decide +kernel
theorem dX0_init_36 : decode cX0_init 36 = .ok (.iconst 3, 1) := by decide +kernel
theorem dX0_init_37 : decode cX0_init 37 = .ok (.newarray .int, 2) := by decide +kernel
theorem dX0_init_39 : decode cX0_init 39 = .ok (.putfield 24, 3) := by decide +kernel
theorem dX0_init_42 : decode cX0_init 42 = .ok (.aload_n 0, 1) := by decide +kernel
theorem dX0_init_43 : decode cX0_init 43 = .ok (.iconst 3, 1) := by decide +kernel
theorem dX0_init_44 : decode cX0_init 44 = .ok (.newarray .boolean, 2) := by decide +kernel
theorem dX0_init_46 : decode cX0_init 46 = .ok (.putfield 27, 3) := by decide +kernel
theorem dX0_init_49 : decode cX0_init 49 = .ok (.return_, 1) := by decide +kernel
theorem dX0_copyFrom_0 : decode cX0_copyFrom 0 = .ok (.aload_n 0, 1) := by decide +kernel
theorem dX0_copyFrom_1 : decode cX0_copyFrom 1 = .ok (.aload_n 1, 1) := by decide +kernel
theorem dX0_copyFrom_2 : decode cX0_copyFrom 2 = .ok (.invokevirtual 31, 3) := by decide +kernel
theorem dX0_copyFrom_5 : decode cX0_copyFrom 5 = .ok (.aload_n 1, 1) := by decide +kernel
theorem dX0_copyFrom_6 : decode cX0_copyFrom 6 = .ok (.getfield 15, 3) := by decide +kernel
theorem dX0_copyFrom_9 : decode cX0_copyFrom 9 = .ok (.iconst 0, 1) := by decide +kernel
theorem dX0_copyFrom_10 : decode cX0_copyFrom 10 = .ok (.aload_n 0, 1) := by decide +kernel
theorem dX0_copyFrom_11 : decode cX0_copyFrom 11 = .ok (.getfield 15, 3) := by decide +kernel
theorem dX0_copyFrom_14 : decode cX0_copyFrom 14 = .ok (.iconst 0, 1) := by decide +kernel
theorem dX0_copyFrom_15 : decode cX0_copyFrom 15 = .ok (.aload_n 0, 1) := by decide +kernel
theorem dX0_copyFrom_16 : decode cX0_copyFrom 16 = .ok (.getfield 15, 3) := by decide +kernel
theorem dX0_copyFrom_19 : decode cX0_copyFrom 19 = .ok (.arraylength, 1) := by decide +kernel
theorem dX0_copyFrom_20 : decode cX0_copyFrom 20 = .ok (.invokestatic 35, 3) := by decide +kernel
theorem dX0_copyFrom_23 : decode cX0_copyFrom 23 = .ok (.aload_n 1, 1) := by decide +kernel
theorem dX0_copyFrom_24 : decode cX0_copyFrom 24 = .ok (.getfield 18, 3) := by decide +kernel
theorem dX0_copyFrom_27 : decode cX0_copyFrom 27 = .ok (.iconst 0, 1) := by decide +kernel
theorem dX0_copyFrom_28 : decode cX0_copyFrom 28 = .ok (.aload_n 0, 1) := by decide +kernel
theorem dX0_copyFrom_29 : decode cX0_copyFrom 29 = .ok (.getfield 18, 3) := by decide +kernel
theorem dX0_copyFrom_32 : decode cX0_copyFrom 32 = .ok (.iconst 0, 1) := by decide +kernel
theorem dX0_copyFrom_33 : decode cX0_copyFrom 33 = .ok (.iconst 4, 1) := by decide +kernel
theorem dX0_copyFrom_34 : decode cX0_copyFrom 34 = .ok (.invokestatic 35, 3) := by decide +kernel
theorem dX0_copyFrom_37 : decode cX0_copyFrom 37 = .ok (.aload_n 0, 1) := by decide +kernel
theorem dX0_copyFrom_38 : decode cX0_copyFrom 38 = .ok (.aload_n 1, 1) := by decide +kernel
theorem dX0_copyFrom_39 : decode cX0_copyFrom 39 = .ok (.getfield 41, 3) := by decide +kernel
theorem dX0_copyFrom_42 : decode cX0_copyFrom 42 = .ok (.putfield 41, 3) := by decide +kernel
theorem dX0_copyFrom_45 : decode cX0_copyFrom 45 = .ok (.iconst 0, 1) := by decide +kernel
theorem dX0_copyFrom_46 : decode cX0_copyFrom 46 = .ok (.istore_n 2, 1) := by decide +kernel
theorem dX0_copyFrom_47 : decode cX0_copyFrom 47 = .ok (.iload_n 2, 1) := by decide +kernel
theorem dX0_copyFrom_48 : decode cX0_copyFrom 48 = .ok (.iconst 3, 1) := by decide +kernel
theorem dX0_copyFrom_49 : decode cX0_copyFrom 49 = .ok (.if_icmp .ge 16, 3) := by decide +kernel
theorem dX0_copyFrom_52 : decode cX0_copyFrom 52 = .ok (.aload_n 0, 1) := by decide +kernel
theorem dX0_copyFrom_53 : decode cX0_copyFrom 53 = .ok (.iload_n 2, 1) := by decide +kernel
theorem dX0_copyFrom_54 : decode cX0_copyFrom 54 = .ok (.aload_n 1, 1) := by decide +kernel
theorem dX0_copyFrom_55 : decode cX0_copyFrom 55 = .ok (.iload_n 2, 1) := by decide +kernel
theorem dX0_copyFrom_56 : decode cX0_copyFrom 56 = .ok (.invokevirtual 45, 3) := by decide +kernel
theorem dX0_copyFrom_59 : decode cX0_copyFrom 59 = .ok (.iinc 2 1, 3) := by decide +kernel
theorem dX0_copyFrom_62 : decode cX0_copyFrom 62 = .ok (.goto (-15), 3) := by decide +kernel
theorem dX0_copyFrom_65 : decode cX0_copyFrom 65 = .ok (.return_, 1) := by decide +kernel
theorem dX0_copyHead_0 : decode cX0_copyHead 0 = .ok (.aload_n 0, 1) := by decide +kernel
theorem dX0_copyHead_1 : decode cX0_copyHead 1 = .ok (.aload_n 1, 1) := by decide +kernel
theorem dX0_copyHead_2 : decode cX0_copyHead 2 = .ok (.getfield 49, 3) := by decide +kernel
theorem dX0_copyHead_5 : decode cX0_copyHead 5 = .ok (.putfield 49, 3) := by decide +kernel
theorem dX0_copyHead_8 : decode cX0_copyHead 8 = .ok (.aload_n 0, 1) := by decide +kernel
theorem dX0_copyHead_9 : decode cX0_copyHead 9 = .ok (.aload_n 1, 1) := by decide +kernel
theorem dX0_copyHead_10 : decode cX0_copyHead 10 = .ok (.getfield 52, 3) := by decide +kernel
theorem dX0_copyHead_13 : decode cX0_copyHead 13 = .ok (.putfield 52, 3) := by decide +kernel
theorem dX0_copyHead_16 : decode cX0_copyHead 16 = .ok (.aload_n 0, 1) := by decide +kernel
theorem dX0_copyHead_17 : decode cX0_copyHead 17 = .ok (.aload_n 1, 1) := by decide +kernel
theorem dX0_copyHead_18 : decode cX0_copyHead 18 = .ok (.getfield 55, 3) := by decide +kernel
theorem dX0_copyHead_21 : decode cX0_copyHead 21 = .ok (.putfield 55, 3) := by decide +kernel
theorem dX0_copyHead_24 : decode cX0_copyHead 24 = .ok (.aload_n 0, 1) := by decide +kernel
theorem dX0_copyHead_25 : decode cX0_copyHead 25 = .ok (.aload_n 1, 1) := by decide +kernel
theorem dX0_copyHead_26 : decode cX0_copyHead 26 = .ok (.getfield 58, 3) := by decide +kernel
theorem dX0_copyHead_29 : decode cX0_copyHead 29 = .ok (.putfield 58, 3) := by decide +kernel
theorem dX0_copyHead_32 : decode cX0_copyHead 32 = .ok (.aload_n 0, 1) := by decide +kernel
theorem dX0_copyHead_33 : decode cX0_copyHead 33 = .ok (.aload_n 1, 1) := by decide +kernel
theorem dX0_copyHead_34 : decode cX0_copyHead 34 = .ok (.getfield 62, 3) := by decide +kernel
theorem dX0_copyHead_37 : decode cX0_copyHead 37 = .ok (.putfield 62, 3) := by decide +kernel
theorem dX0_copyHead_40 : decode cX0_copyHead 40 = .ok (.aload_n 1, 1) := by decide +kernel
theorem dX0_copyHead_41 : decode cX0_copyHead 41 = .ok (.getfield 9, 3) := by decide +kernel
theorem dX0_copyHead_44 : decode cX0_copyHead 44 = .ok (.iconst 0, 1) := by decide +kernel
theorem dX0_copyHead_45 : decode cX0_copyHead 45 = .ok (.aload_n 0, 1) := by decide +kernel
theorem dX0_copyHead_46 : decode cX0_copyHead 46 = .ok (.getfield 9, 3) := by decide +kernel
theorem dX0_copyHead_49 : decode cX0_copyHead 49 = .ok (.iconst 0, 1) := by decide +kernel
theorem dX0_copyHead_50 : decode cX0_copyHead 50 = .ok (.bipush 20, 2) := by decide +kernel
theorem dX0_copyHead_52 : decode cX0_copyHead 52 = .ok (.invokestatic 35, 3) := by decide +kernel
theorem dX0_copyHead_55 : decode cX0_copyHead 55 = .ok (.return_, 1) := by decide +kernel
theorem dX0_copyCalls_0 : decode cX0_copyCalls 0 = .ok (.iconst 0, 1) := by decide +kernel
theorem dX0_copyCalls_1 : decode cX0_copyCalls 1 = .ok (.istore 4, 2) := by decide +kernel
theorem dX0_copyCalls_3 : decode cX0_copyCalls 3 = .ok (.iload 4, 2) := by decide +kernel
theorem dX0_copyCalls_5 : decode cX0_copyCalls 5 = .ok (.iconst 2, 1) := by decide +kernel
theorem dX0_copyCalls_6 : decode cX0_copyCalls 6 = .ok (.if_icmp .ge 31, 3) := by decide +kernel
theorem dX0_copyCalls_9 : decode cX0_copyCalls 9 = .ok (.aload_n 0, 1) := by decide +kernel
theorem dX0_copyCalls_10 : decode cX0_copyCalls 10 = .ok (.getfield 21, 3) := by decide +kernel
theorem dX0_copyCalls_13 : decode cX0_copyCalls 13 = .ok (.iload_n 1, 1) := by decide +kernel
theorem dX0_copyCalls_14 : decode cX0_copyCalls 14 = .ok (.iconst 2, 1) := by decide +kernel
theorem dX0_copyCalls_15 : decode cX0_copyCalls 15 = .ok (.imul, 1) := by decide +kernel
theorem dX0_copyCalls_16 : decode cX0_copyCalls 16 = .ok (.iload 4, 2) := by decide +kernel
theorem dX0_copyCalls_18 : decode cX0_copyCalls 18 = .ok (.iadd, 1) := by decide +kernel
theorem dX0_copyCalls_19 : decode cX0_copyCalls 19 = .ok (.aload_n 2, 1) := by decide +kernel
theorem dX0_copyCalls_20 : decode cX0_copyCalls 20 = .ok (.getfield 21, 3) := by decide +kernel
theorem dX0_copyCalls_23 : decode cX0_copyCalls 23 = .ok (.iload_n 3, 1) := by decide +kernel
theorem dX0_copyCalls_24 : decode cX0_copyCalls 24 = .ok (.iconst 2, 1) := by decide +kernel
theorem dX0_copyCalls_25 : decode cX0_copyCalls 25 = .ok (.imul, 1) := by decide +kernel
theorem dX0_copyCalls_26 : decode cX0_copyCalls 26 = .ok (.iload 4, 2) := by decide +kernel
theorem dX0_copyCalls_28 : decode cX0_copyCalls 28 = .ok (.iadd, 1) := by decide +kernel
theorem dX0_copyCalls_29 : decode cX0_copyCalls 29 = .ok (.iaload, 1) := by decide +kernel
theorem dX0_copyCalls_30 : decode cX0_copyCalls 30 = .ok (.iastore, 1) := by decide +kernel
theorem dX0_copyCalls_31 : decode cX0_copyCalls 31 = .ok (.iinc 4 1, 3) := by decide +kernel
theorem dX0_copyCalls_34 : decode cX0_copyCalls 34 = .ok (.goto (-31), 3) := by decide +kernel
theorem dX0_copyCalls_37 : decode cX0_copyCalls 37 = .ok (.aload_n 0, 1) := by decide +kernel
theorem dX0_copyCalls_38 : decode cX0_copyCalls 38 = .ok (.getfield 24, 3) := by decide +kernel
theorem dX0_copyCalls_41 : decode cX0_copyCalls 41 = .ok (.iload_n 1, 1) := by decide +kernel
theorem dX0_copyCalls_42 : decode cX0_copyCalls 42 = .ok (.aload_n 2, 1) := by decide +kernel
theorem dX0_copyCalls_43 : decode cX0_copyCalls 43 = .ok (.getfield 24, 3) := by decide +kernel
theorem dX0_copyCalls_46 : decode cX0_copyCalls 46 = .ok (.iload_n 3, 1) := by decide +kernel
theorem dX0_copyCalls_47 : decode cX0_copyCalls 47 = .ok (.iaload, 1) := by decide +kernel
theorem dX0_copyCalls_48 : decode cX0_copyCalls 48 = .ok (.iastore, 1) := by decide +kernel
theorem dX0_copyCalls_49 : decode cX0_copyCalls 49 = .ok (.aload_n 0, 1) := by decide +kernel
theorem dX0_copyCalls_50 : decode cX0_copyCalls 50 = .ok (.getfield 27, 3) := by decide +kernel
theorem dX0_copyCalls_53 : decode cX0_copyCalls 53 = .ok (.iload_n 1, 1) := by decide +kernel
theorem dX0_copyCalls_54 : decode cX0_copyCalls 54 = .ok (.aload_n 2, 1) := by decide +kernel
theorem dX0_copyCalls_55 : decode cX0_copyCalls 55 = .ok (.getfield 27, 3) := by decide +kernel
theorem dX0_copyCalls_58 : decode cX0_copyCalls 58 = .ok (.iload_n 3, 1) := by decide +kernel
theorem dX0_copyCalls_59 : decode cX0_copyCalls 59 = .ok (.baload, 1) := by decide +kernel
theorem dX0_copyCalls_60 : decode cX0_copyCalls 60 = .ok (.bastore, 1) := by decide +kernel
theorem dX0_copyCalls_61 : decode cX0_copyCalls 61 = .ok (.return_, 1) := by decide +kernel
theorem dX0_setNoCall_0 : decode cX0_setNoCall 0 = .ok (.aload_n 0, 1) := by decide +kernel
theorem dX0_setNoCall_1 : decode cX0_setNoCall 1 = .ok (.iload_n 1, 1) := by decide +kernel
theorem dX0_setNoCall_2 : decode cX0_setNoCall 2 = .ok (.iconst 0, 1) := by decide +kernel
theorem dX0_setNoCall_3 : decode cX0_setNoCall 3 = .ok (.iconst (-1), 1) := by decide +kernel
theorem dX0_setNoCall_4 : decode cX0_setNoCall 4 = .ok (.invokevirtual 65, 3) := by decide +kernel
theorem dX0_setNoCall_7 : decode cX0_setNoCall 7 = .ok (.aload_n 0, 1) := by decide +kernel
theorem dX0_setNoCall_8 : decode cX0_setNoCall 8 = .ok (.getfield 24, 3) := by decide +kernel
theorem dX0_setNoCall_11 : decode cX0_setNoCall 11 = .ok (.iload_n 1, 1) := by decide +kernel
theorem dX0_setNoCall_12 : decode cX0_setNoCall 12 = .ok (.iconst 1, 1) := by decide +kernel
theorem dX0_setNoCall_13 : decode cX0_setNoCall 13 = .ok (.iastore, 1) := by decide +kernel
theorem dX0_setNoCall_14 : decode cX0_setNoCall 14 = .ok (.aload_n 0, 1) := by decide +kernel
theorem dX0_setNoCall_15 : decode cX0_setNoCall 15 = .ok (.getfield 27, 3) := by decide +kernel
theorem dX0_setNoCall_18 : decode cX0_setNoCall 18 = .ok (.iload_n 1, 1) := by decide +kernel
theorem dX0_setNoCall_19 : decode cX0_setNoCall 19 = .ok (.iconst 0, 1) := by decide +kernel
theorem dX0_setNoCall_20 : decode cX0_setNoCall 20 = .ok (.bastore, 1) := by decide +kernel
theorem dX0_setNoCall_21 : decode cX0_setNoCall 21 = .ok (.return_, 1) := by decide +kernel
theorem dX0_setCall_0 : decode cX0_setCall 0 = .ok (.aload_n 0, 1) := by decide +kernel
theorem dX0_setCall_1 : decode cX0_setCall 1 = .ok (.getfield 21, 3) := by decide +kernel
theorem dX0_setCall_4 : decode cX0_setCall 4 = .ok (.iload_n 1, 1) := by decide +kernel
theorem dX0_setCall_5 : decode cX0_setCall 5 = .ok (.iconst 2, 1) := by decide +kernel
theorem dX0_setCall_6 : decode cX0_setCall 6 = .ok (.imul, 1) := by decide +kernel
theorem dX0_setCall_7 : decode cX0_setCall 7 = .ok (.iload_n 2, 1) := by decide +kernel
theorem dX0_setCall_8 : decode cX0_setCall 8 = .ok (.iadd, 1) := by decide +kernel
theorem dX0_setCall_9 : decode cX0_setCall 9 = .ok (.iload_n 3, 1) := by decide +kernel
theorem dX0_setCall_10 : decode cX0_setCall 10 = .ok (.iastore, 1) := by decide +kernel
theorem dX0_setCall_11 : decode cX0_setCall 11 = .ok (.return_, 1) := by decide +kernel
theorem dX0_callAt_0 : decode cX0_callAt 0 = .ok (.iload_n 2, 1) := by decide +kernel
theorem dX0_callAt_1 : decode cX0_callAt 1 = .ok (.aload_n 0, 1) := by decide +kernel
theorem dX0_callAt_2 : decode cX0_callAt 2 = .ok (.getfield 24, 3) := by decide +kernel
theorem dX0_callAt_5 : decode cX0_callAt 5 = .ok (.iload_n 1, 1) := by decide +kernel
theorem dX0_callAt_6 : decode cX0_callAt 6 = .ok (.iaload, 1) := by decide +kernel
theorem dX0_callAt_7 : decode cX0_callAt 7 = .ok (.if_icmp .ge 16, 3) := by decide +kernel
theorem dX0_callAt_10 : decode cX0_callAt 10 = .ok (.aload_n 0, 1) := by decide +kernel
theorem dX0_callAt_11 : decode cX0_callAt 11 = .ok (.getfield 21, 3) := by decide +kernel
theorem dX0_callAt_14 : decode cX0_callAt 14 = .ok (.iload_n 1, 1) := by decide +kernel
theorem dX0_callAt_15 : decode cX0_callAt 15 = .ok (.iconst 2, 1) := by decide +kernel
theorem dX0_callAt_16 : decode cX0_callAt 16 = .ok (.imul, 1) := by decide +kernel
theorem dX0_callAt_17 : decode cX0_callAt 17 = .ok (.iload_n 2, 1) := by decide +kernel
theorem dX0_callAt_18 : decode cX0_callAt 18 = .ok (.iadd, 1) := by decide +kernel
theorem dX0_callAt_19 : decode cX0_callAt 19 = .ok (.iaload, 1) := by decide +kernel
theorem dX0_callAt_20 : decode cX0_callAt 20 = .ok (.goto 4, 3) := by decide +kernel
theorem dX0_callAt_23 : decode cX0_callAt 23 = .ok (.iconst (-1), 1) := by decide +kernel
theorem dX0_callAt_24 : decode cX0_callAt 24 = .ok (.ireturn, 1) := by decide +kernel
theorem dX0_letterAt_0 : decode cX0_letterAt 0 = .ok (.iload_n 2, 1) := by decide +kernel
theorem dX0_letterAt_1 : decode cX0_letterAt 1 = .ok (.ifCond .lt 27, 3) := by decide +kernel
theorem dX0_letterAt_4 : decode cX0_letterAt 4 = .ok (.iload_n 2, 1) := by decide +kernel
theorem dX0_letterAt_5 : decode cX0_letterAt 5 = .ok (.aload_n 0, 1) := by decide +kernel
theorem dX0_letterAt_6 : decode cX0_letterAt 6 = .ok (.getfield 18, 3) := by decide +kernel
theorem dX0_letterAt_9 : decode cX0_letterAt 9 = .ok (.iload_n 1, 1) := by decide +kernel
theorem dX0_letterAt_10 : decode cX0_letterAt 10 = .ok (.iaload, 1) := by decide +kernel
theorem dX0_letterAt_11 : decode cX0_letterAt 11 = .ok (.if_icmp .ge 17, 3) := by decide +kernel
theorem dX0_letterAt_14 : decode cX0_letterAt 14 = .ok (.aload_n 0, 1) := by decide +kernel
theorem dX0_letterAt_15 : decode cX0_letterAt 15 = .ok (.getfield 15, 3) := by decide +kernel
theorem dX0_letterAt_18 : decode cX0_letterAt 18 = .ok (.iload_n 1, 1) := by decide +kernel
theorem dX0_letterAt_19 : decode cX0_letterAt 19 = .ok (.bipush 24, 2) := by decide +kernel
theorem dX0_letterAt_21 : decode cX0_letterAt 21 = .ok (.imul, 1) := by decide +kernel
theorem dX0_letterAt_22 : decode cX0_letterAt 22 = .ok (.iload_n 2, 1) := by decide +kernel
theorem dX0_letterAt_23 : decode cX0_letterAt 23 = .ok (.iadd, 1) := by decide +kernel
theorem dX0_letterAt_24 : decode cX0_letterAt 24 = .ok (.iaload, 1) := by decide +kernel
theorem dX0_letterAt_25 : decode cX0_letterAt 25 = .ok (.goto 4, 3) := by decide +kernel
theorem dX0_letterAt_28 : decode cX0_letterAt 28 = .ok (.iconst (-1), 1) := by decide +kernel
theorem dX0_letterAt_29 : decode cX0_letterAt 29 = .ok (.ireturn, 1) := by decide +kernel
theorem dX0_addLetter_0 : decode cX0_addLetter 0 = .ok (.aload_n 0, 1) := by decide +kernel
theorem dX0_addLetter_1 : decode cX0_addLetter 1 = .ok (.getfield 18, 3) := by decide +kernel
theorem dX0_addLetter_4 : decode cX0_addLetter 4 = .ok (.iload_n 1, 1) := by decide +kernel
theorem dX0_addLetter_5 : decode cX0_addLetter 5 = .ok (.iaload, 1) := by decide +kernel
theorem dX0_addLetter_6 : decode cX0_addLetter 6 = .ok (.bipush 24, 2) := by decide +kernel
theorem dX0_addLetter_8 : decode cX0_addLetter 8 = .ok (.if_icmp .ge 30, 3) := by decide +kernel
theorem dX0_addLetter_11 : decode cX0_addLetter 11 = .ok (.aload_n 0, 1) := by decide +kernel
theorem dX0_addLetter_12 : decode cX0_addLetter 12 = .ok (.getfield 15, 3) := by decide +kernel
theorem dX0_addLetter_15 : decode cX0_addLetter 15 = .ok (.iload_n 1, 1) := by decide +kernel
theorem dX0_addLetter_16 : decode cX0_addLetter 16 = .ok (.bipush 24, 2) := by decide +kernel
theorem dX0_addLetter_18 : decode cX0_addLetter 18 = .ok (.imul, 1) := by decide +kernel
theorem dX0_addLetter_19 : decode cX0_addLetter 19 = .ok (.aload_n 0, 1) := by decide +kernel
theorem dX0_addLetter_20 : decode cX0_addLetter 20 = .ok (.getfield 18, 3) := by decide +kernel
theorem dX0_addLetter_23 : decode cX0_addLetter 23 = .ok (.iload_n 1, 1) := by decide +kernel
theorem dX0_addLetter_24 : decode cX0_addLetter 24 = .ok (.iaload, 1) := by decide +kernel
theorem dX0_addLetter_25 : decode cX0_addLetter 25 = .ok (.iadd, 1) := by decide +kernel
theorem dX0_addLetter_26 : decode cX0_addLetter 26 = .ok (.iload_n 2, 1) := by decide +kernel
theorem dX0_addLetter_27 : decode cX0_addLetter 27 = .ok (.iastore, 1) := by decide +kernel
theorem dX0_addLetter_28 : decode cX0_addLetter 28 = .ok (.aload_n 0, 1) := by decide +kernel
theorem dX0_addLetter_29 : decode cX0_addLetter 29 = .ok (.getfield 18, 3) := by decide +kernel
theorem dX0_addLetter_32 : decode cX0_addLetter 32 = .ok (.iload_n 1, 1) := by decide +kernel
theorem dX0_addLetter_33 : decode cX0_addLetter 33 = .ok (.dup2, 1) := by decide +kernel
theorem dX0_addLetter_34 : decode cX0_addLetter 34 = .ok (.iaload, 1) := by decide +kernel
theorem dX0_addLetter_35 : decode cX0_addLetter 35 = .ok (.iconst 1, 1) := by decide +kernel
theorem dX0_addLetter_36 : decode cX0_addLetter 36 = .ok (.iadd, 1) := by decide +kernel
theorem dX0_addLetter_37 : decode cX0_addLetter 37 = .ok (.iastore, 1) := by decide +kernel
theorem dX0_addLetter_38 : decode cX0_addLetter 38 = .ok (.return_, 1) := by decide +kernel
theorem dX0_addIdOctet_0 : decode cX0_addIdOctet 0 = .ok (.aload_n 0, 1) := by decide +kernel
theorem dX0_addIdOctet_1 : decode cX0_addIdOctet 1 = .ok (.getfield 62, 3) := by decide +kernel
theorem dX0_addIdOctet_4 : decode cX0_addIdOctet 4 = .ok (.bipush 20, 2) := by decide +kernel
theorem dX0_addIdOctet_6 : decode cX0_addIdOctet 6 = .ok (.if_icmp .ge 23, 3) := by decide +kernel
theorem dX0_addIdOctet_9 : decode cX0_addIdOctet 9 = .ok (.aload_n 0, 1) := by decide +kernel
theorem dX0_addIdOctet_10 : decode cX0_addIdOctet 10 = .ok (.getfield 9, 3) := by decide +kernel
theorem dX0_addIdOctet_13 : decode cX0_addIdOctet 13 = .ok (.aload_n 0, 1) := by decide +kernel
theorem dX0_addIdOctet_14 : decode cX0_addIdOctet 14 = .ok (.getfield 62, 3) := by decide +kernel
theorem dX0_addIdOctet_17 : decode cX0_addIdOctet 17 = .ok (.iload_n 1, 1) := by decide +kernel
theorem dX0_addIdOctet_18 : decode cX0_addIdOctet 18 = .ok (.iastore, 1) := by decide +kernel
theorem dX0_addIdOctet_19 : decode cX0_addIdOctet 19 = .ok (.aload_n 0, 1) := by decide +kernel
theorem dX0_addIdOctet_20 : decode cX0_addIdOctet 20 = .ok (.dup, 1) := by decide +kernel
theorem dX0_addIdOctet_21 : decode cX0_addIdOctet 21 = .ok (.getfield 62, 3) := by decide +kernel
theorem dX0_addIdOctet_24 : decode cX0_addIdOctet 24 = .ok (.iconst 1, 1) := by decide +kernel
theorem dX0_addIdOctet_25 : decode cX0_addIdOctet 25 = .ok (.iadd, 1) := by decide +kernel
theorem dX0_addIdOctet_26 : decode cX0_addIdOctet 26 = .ok (.putfield 62, 3) := by decide +kernel
theorem dX0_addIdOctet_29 : decode cX0_addIdOctet 29 = .ok (.return_, 1) := by decide +kernel
theorem dX0_copyRow_0 : decode cX0_copyRow 0 = .ok (.iload_n 3, 1) := by decide +kernel
theorem dX0_copyRow_1 : decode cX0_copyRow 1 = .ok (.bipush 24, 2) := by decide +kernel
theorem dX0_copyRow_3 : decode cX0_copyRow 3 = .ok (.imul, 1) := by decide +kernel
theorem dX0_copyRow_4 : decode cX0_copyRow 4 = .ok (.istore 4, 2) := by decide +kernel
theorem dX0_copyRow_6 : decode cX0_copyRow 6 = .ok (.aload_n 2, 1) := by decide +kernel
theorem dX0_copyRow_7 : decode cX0_copyRow 7 = .ok (.getfield 15, 3) := by decide +kernel
theorem dX0_copyRow_10 : decode cX0_copyRow 10 = .ok (.iload 4, 2) := by decide +kernel
theorem dX0_copyRow_12 : decode cX0_copyRow 12 = .ok (.aload_n 0, 1) := by decide +kernel
theorem dX0_copyRow_13 : decode cX0_copyRow 13 = .ok (.getfield 15, 3) := by decide +kernel
theorem dX0_copyRow_16 : decode cX0_copyRow 16 = .ok (.iload_n 1, 1) := by decide +kernel
theorem dX0_copyRow_17 : decode cX0_copyRow 17 = .ok (.bipush 24, 2) := by decide +kernel
theorem dX0_copyRow_19 : decode cX0_copyRow 19 = .ok (.imul, 1) := by decide +kernel
theorem dX0_copyRow_20 : decode cX0_copyRow 20 = .ok (.bipush 24, 2) := by decide +kernel
theorem dX0_copyRow_22 : decode cX0_copyRow 22 = .ok (.invokestatic 35, 3) := by decide +kernel
theorem dX0_copyRow_25 : decode cX0_copyRow 25 = .ok (.aload_n 0, 1) := by decide +kernel
theorem dX0_copyRow_26 : decode cX0_copyRow 26 = .ok (.getfield 18, 3) := by decide +kernel
theorem dX0_copyRow_29 : decode cX0_copyRow 29 = .ok (.iload_n 1, 1) := by decide +kernel
theorem dX0_copyRow_30 : decode cX0_copyRow 30 = .ok (.aload_n 2, 1) := by decide +kernel
theorem dX0_copyRow_31 : decode cX0_copyRow 31 = .ok (.getfield 18, 3) := by decide +kernel
theorem dX0_copyRow_34 : decode cX0_copyRow 34 = .ok (.iload_n 3, 1) := by decide +kernel
theorem dX0_copyRow_35 : decode cX0_copyRow 35 = .ok (.iaload, 1) := by decide +kernel
theorem dX0_copyRow_36 : decode cX0_copyRow 36 = .ok (.iastore, 1) := by decide +kernel
theorem dX0_copyRow_37 : decode cX0_copyRow 37 = .ok (.return_, 1) := by decide +kernel
theorem dX0_rowIs_0 : decode cX0_rowIs 0 = .ok (.aload_n 0, 1) := by decide +kernel
theorem dX0_rowIs_1 : decode cX0_rowIs 1 = .ok (.getfield 18, 3) := by decide +kernel
theorem dX0_rowIs_4 : decode cX0_rowIs 4 = .ok (.iload_n 1, 1) := by decide +kernel
theorem dX0_rowIs_5 : decode cX0_rowIs 5 = .ok (.iaload, 1) := by decide +kernel
theorem dX0_rowIs_6 : decode cX0_rowIs 6 = .ok (.aload_n 2, 1) := by decide +kernel
theorem dX0_rowIs_7 : decode cX0_rowIs 7 = .ok (.getfield 18, 3) := by decide +kernel
theorem dX0_rowIs_10 : decode cX0_rowIs 10 = .ok (.iload_n 3, 1) := by decide +kernel
theorem dX0_rowIs_11 : decode cX0_rowIs 11 = .ok (.iaload, 1) := by decide +kernel
theorem dX0_rowIs_12 : decode cX0_rowIs 12 = .ok (.if_icmp .eq 5, 3) := by decide +kernel
theorem dX0_rowIs_15 : decode cX0_rowIs 15 = .ok (.iconst 0, 1) := by decide +kernel
theorem dX0_rowIs_16 : decode cX0_rowIs 16 = .ok (.ireturn, 1) := by decide +kernel
theorem dX0_rowIs_17 : decode cX0_rowIs 17 = .ok (.iconst 0, 1) := by decide +kernel
theorem dX0_rowIs_18 : decode cX0_rowIs 18 = .ok (.istore 4, 2) := by decide +kernel
theorem dX0_rowIs_20 : decode cX0_rowIs 20 = .ok (.iload 4, 2) := by decide +kernel
theorem dX0_rowIs_22 : decode cX0_rowIs 22 = .ok (.aload_n 0, 1) := by decide +kernel
theorem dX0_rowIs_23 : decode cX0_rowIs 23 = .ok (.getfield 18, 3) := by decide +kernel
theorem dX0_rowIs_26 : decode cX0_rowIs 26 = .ok (.iload_n 1, 1) := by decide +kernel
theorem dX0_rowIs_27 : decode cX0_rowIs 27 = .ok (.iaload, 1) := by decide +kernel
theorem dX0_rowIs_28 : decode cX0_rowIs 28 = .ok (.if_icmp .ge 28, 3) := by decide +kernel
theorem dX0_rowIs_31 : decode cX0_rowIs 31 = .ok (.aload_n 0, 1) := by decide +kernel
theorem dX0_rowIs_32 : decode cX0_rowIs 32 = .ok (.iload_n 1, 1) := by decide +kernel
theorem dX0_rowIs_33 : decode cX0_rowIs 33 = .ok (.iload 4, 2) := by decide +kernel
theorem dX0_rowIs_35 : decode cX0_rowIs 35 = .ok (.invokevirtual 69, 3) := by decide +kernel
theorem dX0_rowIs_38 : decode cX0_rowIs 38 = .ok (.aload_n 2, 1) := by decide +kernel
theorem dX0_rowIs_39 : decode cX0_rowIs 39 = .ok (.iload_n 3, 1) := by decide +kernel
theorem dX0_rowIs_40 : decode cX0_rowIs 40 = .ok (.iload 4, 2) := by decide +kernel
theorem dX0_rowIs_42 : decode cX0_rowIs 42 = .ok (.invokevirtual 69, 3) := by decide +kernel
theorem dX0_rowIs_45 : decode cX0_rowIs 45 = .ok (.if_icmp .eq 5, 3) := by decide +kernel
theorem dX0_rowIs_48 : decode cX0_rowIs 48 = .ok (.iconst 0, 1) := by decide +kernel
theorem dX0_rowIs_49 : decode cX0_rowIs 49 = .ok (.ireturn, 1) := by decide +kernel
theorem dX0_rowIs_50 : decode cX0_rowIs 50 = .ok (.iinc 4 1, 3) := by decide +kernel
theorem dX0_rowIs_53 : decode cX0_rowIs 53 = .ok (.goto (-33), 3) := by decide +kernel
theorem dX0_rowIs_56 : decode cX0_rowIs 56 = .ok (.iconst 1, 1) := by decide +kernel
theorem dX0_rowIs_57 : decode cX0_rowIs 57 = .ok (.ireturn, 1) := by decide +kernel
theorem dX0_hasAlts_0 : decode cX0_hasAlts 0 = .ok (.aload_n 0, 1) := by decide +kernel
theorem dX0_hasAlts_1 : decode cX0_hasAlts 1 = .ok (.getfield 41, 3) := by decide +kernel
theorem dX0_hasAlts_4 : decode cX0_hasAlts 4 = .ok (.iconst 1, 1) := by decide +kernel
theorem dX0_hasAlts_5 : decode cX0_hasAlts 5 = .ok (.if_icmp .le 7, 3) := by decide +kernel
theorem dX0_hasAlts_8 : decode cX0_hasAlts 8 = .ok (.iconst 1, 1) := by decide +kernel
theorem dX0_hasAlts_9 : decode cX0_hasAlts 9 = .ok (.goto 4, 3) := by decide +kernel
theorem dX0_hasAlts_12 : decode cX0_hasAlts 12 = .ok (.iconst 0, 1) := by decide +kernel
theorem dX0_hasAlts_13 : decode cX0_hasAlts 13 = .ok (.ireturn, 1) := by decide +kernel
theorem dX0_standsBehind_0 : decode cX0_standsBehind 0 = .ok (.aload_n 0, 1) := by decide +kernel
theorem dX0_standsBehind_1 : decode cX0_standsBehind 1 = .ok (.getfield 49, 3) := by decide +kernel
theorem dX0_standsBehind_4 : decode cX0_standsBehind 4 = .ok (.aload_n 1, 1) := by decide +kernel
theorem dX0_standsBehind_5 : decode cX0_standsBehind 5 = .ok (.getfield 49, 3) := by decide +kernel
theorem dX0_standsBehind_8 : decode cX0_standsBehind 8 = .ok (.if_icmp .gt 25, 3) := by decide +kernel
theorem dX0_standsBehind_11 : decode cX0_standsBehind 11 = .ok (.aload_n 0, 1) := by decide +kernel
theorem dX0_standsBehind_12 : decode cX0_standsBehind 12 = .ok (.getfield 49, 3) := by decide +kernel
theorem dX0_standsBehind_15 : decode cX0_standsBehind 15 = .ok (.aload_n 1, 1) := by decide +kernel
theorem dX0_standsBehind_16 : decode cX0_standsBehind 16 = .ok (.getfield 49, 3) := by decide +kernel
theorem dX0_standsBehind_19 : decode cX0_standsBehind 19 = .ok (.if_icmp .ne 18, 3) := by decide +kernel
theorem dX0_standsBehind_22 : decode cX0_standsBehind 22 = .ok (.aload_n 0, 1) := by decide +kernel
theorem dX0_standsBehind_23 : decode cX0_standsBehind 23 = .ok (.getfield 52, 3) := by decide +kernel
theorem dX0_standsBehind_26 : decode cX0_standsBehind 26 = .ok (.aload_n 1, 1) := by decide +kernel
theorem dX0_standsBehind_27 : decode cX0_standsBehind 27 = .ok (.getfield 52, 3) := by decide +kernel
theorem dX0_standsBehind_30 : decode cX0_standsBehind 30 = .ok (.if_icmp .le 7, 3) := by decide +kernel
theorem dX0_standsBehind_33 : decode cX0_standsBehind 33 = .ok (.iconst 1, 1) := by decide +kernel
theorem dX0_standsBehind_34 : decode cX0_standsBehind 34 = .ok (.goto 4, 3) := by decide +kernel
theorem dX0_standsBehind_37 : decode cX0_standsBehind 37 = .ok (.iconst 0, 1) := by decide +kernel
theorem dX0_standsBehind_38 : decode cX0_standsBehind 38 = .ok (.ireturn, 1) := by decide +kernel
theorem dX0_standsWith_0 : decode cX0_standsWith 0 = .ok (.aload_n 0, 1) := by decide +kernel
theorem dX0_standsWith_1 : decode cX0_standsWith 1 = .ok (.getfield 49, 3) := by decide +kernel
theorem dX0_standsWith_4 : decode cX0_standsWith 4 = .ok (.aload_n 1, 1) := by decide +kernel
theorem dX0_standsWith_5 : decode cX0_standsWith 5 = .ok (.getfield 49, 3) := by decide +kernel
theorem dX0_standsWith_8 : decode cX0_standsWith 8 = .ok (.if_icmp .ne 18, 3) := by decide +kernel
theorem dX0_standsWith_11 : decode cX0_standsWith 11 = .ok (.aload_n 0, 1) := by decide +kernel
theorem dX0_standsWith_12 : decode cX0_standsWith 12 = .ok (.getfield 52, 3) := by decide +kernel
theorem dX0_standsWith_15 : decode cX0_standsWith 15 = .ok (.aload_n 1, 1) := by decide +kernel
theorem dX0_standsWith_16 : decode cX0_standsWith 16 = .ok (.getfield 52, 3) := by decide +kernel
theorem dX0_standsWith_19 : decode cX0_standsWith 19 = .ok (.if_icmp .ne 7, 3) := by decide +kernel
theorem dX0_standsWith_22 : decode cX0_standsWith 22 = .ok (.iconst 1, 1) := by decide +kernel
theorem dX0_standsWith_23 : decode cX0_standsWith 23 = .ok (.goto 4, 3) := by decide +kernel
theorem dX0_standsWith_26 : decode cX0_standsWith 26 = .ok (.iconst 0, 1) := by decide +kernel
theorem dX0_standsWith_27 : decode cX0_standsWith 27 = .ok (.ireturn, 1) := by decide +kernel
theorem dX0_hasAllRowsOf_0 : decode cX0_hasAllRowsOf 0 = .ok (.aload_n 0, 1) := by decide +kernel
theorem dX0_hasAllRowsOf_1 : decode cX0_hasAllRowsOf 1 = .ok (.getfield 41, 3) := by decide +kernel
theorem dX0_hasAllRowsOf_4 : decode cX0_hasAllRowsOf 4 = .ok (.aload_n 1, 1) := by decide +kernel
theorem dX0_hasAllRowsOf_5 : decode cX0_hasAllRowsOf 5 = .ok (.getfield 41, 3) := by decide +kernel
theorem dX0_hasAllRowsOf_8 : decode cX0_hasAllRowsOf 8 = .ok (.if_icmp .eq 5, 3) := by decide +kernel
theorem dX0_hasAllRowsOf_11 : decode cX0_hasAllRowsOf 11 = .ok (.iconst 0, 1) := by decide +kernel
theorem dX0_hasAllRowsOf_12 : decode cX0_hasAllRowsOf 12 = .ok (.ireturn, 1) := by decide +kernel
theorem dX0_hasAllRowsOf_13 : decode cX0_hasAllRowsOf 13 = .ok (.iconst 0, 1) := by decide +kernel
theorem dX0_hasAllRowsOf_14 : decode cX0_hasAllRowsOf 14 = .ok (.istore_n 2, 1) := by decide +kernel
theorem dX0_hasAllRowsOf_15 : decode cX0_hasAllRowsOf 15 = .ok (.iload_n 2, 1) := by decide +kernel
theorem dX0_hasAllRowsOf_16 : decode cX0_hasAllRowsOf 16 = .ok (.aload_n 0, 1) := by decide +kernel
theorem dX0_hasAllRowsOf_17 : decode cX0_hasAllRowsOf 17 = .ok (.getfield 41, 3) := by decide +kernel
theorem dX0_hasAllRowsOf_20 : decode cX0_hasAllRowsOf 20 = .ok (.if_icmp .ge 21, 3) := by decide +kernel
theorem dX0_hasAllRowsOf_23 : decode cX0_hasAllRowsOf 23 = .ok (.aload_n 0, 1) := by decide +kernel
theorem dX0_hasAllRowsOf_24 : decode cX0_hasAllRowsOf 24 = .ok (.iload_n 2, 1) := by decide +kernel
theorem dX0_hasAllRowsOf_25 : decode cX0_hasAllRowsOf 25 = .ok (.aload_n 1, 1) := by decide +kernel
theorem dX0_hasAllRowsOf_26 : decode cX0_hasAllRowsOf 26 = .ok (.iload_n 2, 1) := by decide +kernel
theorem dX0_hasAllRowsOf_27 : decode cX0_hasAllRowsOf 27 = .ok (.invokevirtual 73, 3) := by decide +kernel
theorem dX0_hasAllRowsOf_30 : decode cX0_hasAllRowsOf 30 = .ok (.ifCond .ne 5, 3) := by decide +kernel
theorem dX0_hasAllRowsOf_33 : decode cX0_hasAllRowsOf 33 = .ok (.iconst 0, 1) := by decide +kernel
theorem dX0_hasAllRowsOf_34 : decode cX0_hasAllRowsOf 34 = .ok (.ireturn, 1) := by decide +kernel
theorem dX0_hasAllRowsOf_35 : decode cX0_hasAllRowsOf 35 = .ok (.iinc 2 1, 3) := by decide +kernel
theorem dX0_hasAllRowsOf_38 : decode cX0_hasAllRowsOf 38 = .ok (.goto (-23), 3) := by decide +kernel
theorem dX0_hasAllRowsOf_41 : decode cX0_hasAllRowsOf 41 = .ok (.iconst 1, 1) := by decide +kernel
theorem dX0_hasAllRowsOf_42 : decode cX0_hasAllRowsOf 42 = .ok (.ireturn, 1) := by decide +kernel
theorem dX0_makeNormal_0 : decode cX0_makeNormal 0 = .ok (.aload_n 0, 1) := by decide +kernel
theorem dX0_makeNormal_1 : decode cX0_makeNormal 1 = .ok (.invokevirtual 77, 3) := by decide +kernel
theorem dX0_makeNormal_4 : decode cX0_makeNormal 4 = .ok (.ifCond .ne 5, 3) := by decide +kernel
theorem dX0_makeNormal_7 : decode cX0_makeNormal 7 = .ok (.iconst 0, 1) := by decide +kernel
theorem dX0_makeNormal_8 : decode cX0_makeNormal 8 = .ok (.ireturn, 1) := by decide +kernel
theorem dX0_makeNormal_9 : decode cX0_makeNormal 9 = .ok (.aload_n 0, 1) := by decide +kernel
theorem dX0_makeNormal_10 : decode cX0_makeNormal 10 = .ok (.aload_n 1, 1) := by decide +kernel
theorem dX0_makeNormal_11 : decode cX0_makeNormal 11 = .ok (.invokevirtual 81, 3) := by decide +kernel
theorem dX0_makeNormal_14 : decode cX0_makeNormal 14 = .ok (.istore_n 2, 1) := by decide +kernel
theorem dX0_makeNormal_15 : decode cX0_makeNormal 15 = .ok (.aload_n 0, 1) := by decide +kernel
theorem dX0_makeNormal_16 : decode cX0_makeNormal 16 = .ok (.invokevirtual 85, 3) := by decide +kernel
theorem dX0_makeNormal_19 : decode cX0_makeNormal 19 = .ok (.iconst 1, 1) := by decide +kernel
theorem dX0_makeNormal_20 : decode cX0_makeNormal 20 = .ok (.if_icmp .ne 11, 3) := by decide +kernel
theorem dX0_makeNormal_23 : decode cX0_makeNormal 23 = .ok (.aload_n 0, 1) := by decide +kernel
theorem dX0_makeNormal_24 : decode cX0_makeNormal 24 = .ok (.aload_n 1, 1) := by decide +kernel
theorem dX0_makeNormal_25 : decode cX0_makeNormal 25 = .ok (.invokevirtual 89, 3) := by decide +kernel
theorem dX0_makeNormal_28 : decode cX0_makeNormal 28 = .ok (.goto 4, 3) := by decide +kernel
theorem dX0_makeNormal_31 : decode cX0_makeNormal 31 = .ok (.iconst 0, 1) := by decide +kernel
theorem dX0_makeNormal_32 : decode cX0_makeNormal 32 = .ok (.istore_n 3, 1) := by decide +kernel
theorem dX0_makeNormal_33 : decode cX0_makeNormal 33 = .ok (.aload_n 0, 1) := by decide +kernel
theorem dX0_makeNormal_34 : decode cX0_makeNormal 34 = .ok (.iload_n 3, 1) := by decide +kernel
theorem dX0_makeNormal_35 : decode cX0_makeNormal 35 = .ok (.aload_n 1, 1) := by decide +kernel
theorem dX0_makeNormal_36 : decode cX0_makeNormal 36 = .ok (.invokevirtual 92, 3) := by decide +kernel
theorem dX0_makeNormal_39 : decode cX0_makeNormal 39 = .ok (.aload_n 0, 1) := by decide +kernel
theorem dX0_makeNormal_40 : decode cX0_makeNormal 40 = .ok (.invokevirtual 96, 3) := by decide +kernel
theorem dX0_makeNormal_43 : decode cX0_makeNormal 43 = .ok (.istore 4, 2) := by decide +kernel
theorem dX0_makeNormal_45 : decode cX0_makeNormal 45 = .ok (.iload_n 2, 1) := by decide +kernel
theorem dX0_makeNormal_46 : decode cX0_makeNormal 46 = .ok (.iload_n 3, 1) := by decide +kernel
theorem dX0_makeNormal_47 : decode cX0_makeNormal 47 = .ok (.iadd, 1) := by decide +kernel
theorem dX0_makeNormal_48 : decode cX0_makeNormal 48 = .ok (.iload 4, 2) := by decide +kernel
theorem dX0_makeNormal_50 : decode cX0_makeNormal 50 = .ok (.iadd, 1) := by decide +kernel
theorem dX0_makeNormal_51 : decode cX0_makeNormal 51 = .ok (.ifCond .le 7, 3) := by decide +kernel
theorem dX0_makeNormal_54 : decode cX0_makeNormal 54 = .ok (.iconst 1, 1) := by decide +kernel
theorem dX0_makeNormal_55 : decode cX0_makeNormal 55 = .ok (.goto 4, 3) := by decide +kernel
theorem dX0_makeNormal_58 : decode cX0_makeNormal 58 = .ok (.iconst 0, 1) := by decide +kernel
theorem dX0_makeNormal_59 : decode cX0_makeNormal 59 = .ok (.ireturn, 1) := by decide +kernel
theorem dX0_shortestRow_0 : decode cX0_shortestRow 0 = .ok (.bipush 24, 2) := by decide +kernel
theorem dX0_shortestRow_2 : decode cX0_shortestRow 2 = .ok (.istore_n 1, 1) := by decide +kernel
theorem dX0_shortestRow_3 : decode cX0_shortestRow 3 = .ok (.iconst 0, 1) := by decide +kernel
theorem dX0_shortestRow_4 : decode cX0_shortestRow 4 = .ok (.istore_n 2, 1) := by decide +kernel
theorem dX0_shortestRow_5 : decode cX0_shortestRow 5 = .ok (.iload_n 2, 1) := by decide +kernel
theorem dX0_shortestRow_6 : decode cX0_shortestRow 6 = .ok (.aload_n 0, 1) := by decide +kernel
theorem dX0_shortestRow_7 : decode cX0_shortestRow 7 = .ok (.getfield 41, 3) := by decide +kernel
theorem dX0_shortestRow_10 : decode cX0_shortestRow 10 = .ok (.if_icmp .ge 20, 3) := by decide +kernel
theorem dX0_shortestRow_13 : decode cX0_shortestRow 13 = .ok (.iload_n 1, 1) := by decide +kernel
theorem dX0_shortestRow_14 : decode cX0_shortestRow 14 = .ok (.aload_n 0, 1) := by decide +kernel
theorem dX0_shortestRow_15 : decode cX0_shortestRow 15 = .ok (.getfield 18, 3) := by decide +kernel
theorem dX0_shortestRow_18 : decode cX0_shortestRow 18 = .ok (.iload_n 2, 1) := by decide +kernel
theorem dX0_shortestRow_19 : decode cX0_shortestRow 19 = .ok (.iaload, 1) := by decide +kernel
theorem dX0_shortestRow_20 : decode cX0_shortestRow 20 = .ok (.invokestatic 99, 3) := by decide +kernel
theorem dX0_shortestRow_23 : decode cX0_shortestRow 23 = .ok (.istore_n 1, 1) := by decide +kernel
theorem dX0_shortestRow_24 : decode cX0_shortestRow 24 = .ok (.iinc 2 1, 3) := by decide +kernel
theorem dX0_shortestRow_27 : decode cX0_shortestRow 27 = .ok (.goto (-22), 3) := by decide +kernel
theorem dX0_shortestRow_30 : decode cX0_shortestRow 30 = .ok (.iload_n 1, 1) := by decide +kernel
theorem dX0_shortestRow_31 : decode cX0_shortestRow 31 = .ok (.ireturn, 1) := by decide +kernel
theorem dX0_cutEnds_0 : decode cX0_cutEnds 0 = .ok (.aload_n 0, 1) := by decide +kernel
theorem dX0_cutEnds_1 : decode cX0_cutEnds 1 = .ok (.invokevirtual 85, 3) := by decide +kernel
theorem dX0_cutEnds_4 : decode cX0_cutEnds 4 = .ok (.iconst 1, 1) := by decide +kernel
theorem dX0_cutEnds_5 : decode cX0_cutEnds 5 = .ok (.isub, 1) := by decide +kernel
theorem dX0_cutEnds_6 : decode cX0_cutEnds 6 = .ok (.istore_n 2, 1) := by decide +kernel
theorem dX0_cutEnds_7 : decode cX0_cutEnds 7 = .ok (.iconst 0, 1) := by decide +kernel
theorem dX0_cutEnds_8 : decode cX0_cutEnds 8 = .ok (.istore_n 3, 1) := by decide +kernel
theorem dX0_cutEnds_9 : decode cX0_cutEnds 9 = .ok (.iload_n 3, 1) := by decide +kernel
theorem dX0_cutEnds_10 : decode cX0_cutEnds 10 = .ok (.iload_n 2, 1) := by decide +kernel
theorem dX0_cutEnds_11 : decode cX0_cutEnds 11 = .ok (.if_icmp .ge 47, 3) := by decide +kernel
theorem dX0_cutEnds_14 : decode cX0_cutEnds 14 = .ok (.aload_n 0, 1) := by decide +kernel
theorem dX0_cutEnds_15 : decode cX0_cutEnds 15 = .ok (.iconst 0, 1) := by decide +kernel
theorem dX0_cutEnds_16 : decode cX0_cutEnds 16 = .ok (.aload_n 1, 1) := by decide +kernel
theorem dX0_cutEnds_17 : decode cX0_cutEnds 17 = .ok (.invokevirtual 104, 3) := by decide +kernel
theorem dX0_cutEnds_20 : decode cX0_cutEnds 20 = .ok (.ifCond .eq 38, 3) := by decide +kernel
theorem dX0_cutEnds_23 : decode cX0_cutEnds 23 = .ok (.iconst 0, 1) := by decide +kernel
theorem dX0_cutEnds_24 : decode cX0_cutEnds 24 = .ok (.istore 4, 2) := by decide +kernel
theorem dX0_cutEnds_26 : decode cX0_cutEnds 26 = .ok (.iload 4, 2) := by decide +kernel
theorem dX0_cutEnds_28 : decode cX0_cutEnds 28 = .ok (.aload_n 0, 1) := by decide +kernel
theorem dX0_cutEnds_29 : decode cX0_cutEnds 29 = .ok (.getfield 41, 3) := by decide +kernel
theorem dX0_cutEnds_32 : decode cX0_cutEnds 32 = .ok (.if_icmp .ge 20, 3) := by decide +kernel
theorem dX0_cutEnds_35 : decode cX0_cutEnds 35 = .ok (.aload_n 0, 1) := by decide +kernel
theorem dX0_cutEnds_36 : decode cX0_cutEnds 36 = .ok (.getfield 18, 3) := by decide +kernel
theorem dX0_cutEnds_39 : decode cX0_cutEnds 39 = .ok (.iload 4, 2) := by decide +kernel
theorem dX0_cutEnds_41 : decode cX0_cutEnds 41 = .ok (.dup2, 1) := by decide +kernel
theorem dX0_cutEnds_42 : decode cX0_cutEnds 42 = .ok (.iaload, 1) := by decide +kernel
theorem dX0_cutEnds_43 : decode cX0_cutEnds 43 = .ok (.iconst 1, 1) := by decide +kernel
theorem dX0_cutEnds_44 : decode cX0_cutEnds 44 = .ok (.isub, 1) := by decide +kernel
theorem dX0_cutEnds_45 : decode cX0_cutEnds 45 = .ok (.iastore, 1) := by decide +kernel
theorem dX0_cutEnds_46 : decode cX0_cutEnds 46 = .ok (.iinc 4 1, 3) := by decide +kernel
theorem dX0_cutEnds_49 : decode cX0_cutEnds 49 = .ok (.goto (-23), 3) := by decide +kernel
theorem dX0_cutEnds_52 : decode cX0_cutEnds 52 = .ok (.iinc 3 1, 3) := by decide +kernel
theorem dX0_cutEnds_55 : decode cX0_cutEnds 55 = .ok (.goto (-46), 3) := by decide +kernel
theorem dX0_cutEnds_58 : decode cX0_cutEnds 58 = .ok (.iload_n 3, 1) := by decide +kernel
theorem dX0_cutEnds_59 : decode cX0_cutEnds 59 = .ok (.ireturn, 1) := by decide +kernel
theorem dX0_stepsToLeft_0 : decode cX0_stepsToLeft 0 = .ok (.iconst 0, 1) := by decide +kernel
theorem dX0_stepsToLeft_1 : decode cX0_stepsToLeft 1 = .ok (.istore_n 2, 1) := by decide +kernel
theorem dX0_stepsToLeft_2 : decode cX0_stepsToLeft 2 = .ok (.iload_n 2, 1) := by decide +kernel
theorem dX0_stepsToLeft_3 : decode cX0_stepsToLeft 3 = .ok (.aload_n 0, 1) := by decide +kernel
theorem dX0_stepsToLeft_4 : decode cX0_stepsToLeft 4 = .ok (.getfield 52, 3) := by decide +kernel
theorem dX0_stepsToLeft_7 : decode cX0_stepsToLeft 7 = .ok (.iconst 1, 1) := by decide +kernel
theorem dX0_stepsToLeft_8 : decode cX0_stepsToLeft 8 = .ok (.isub, 1) := by decide +kernel
theorem dX0_stepsToLeft_9 : decode cX0_stepsToLeft 9 = .ok (.if_icmp .ge 18, 3) := by decide +kernel
theorem dX0_stepsToLeft_12 : decode cX0_stepsToLeft 12 = .ok (.aload_n 0, 1) := by decide +kernel
theorem dX0_stepsToLeft_13 : decode cX0_stepsToLeft 13 = .ok (.iload_n 2, 1) := by decide +kernel
theorem dX0_stepsToLeft_14 : decode cX0_stepsToLeft 14 = .ok (.aload_n 1, 1) := by decide +kernel
theorem dX0_stepsToLeft_15 : decode cX0_stepsToLeft 15 = .ok (.invokevirtual 104, 3) := by decide +kernel
theorem dX0_stepsToLeft_18 : decode cX0_stepsToLeft 18 = .ok (.ifCond .eq 9, 3) := by decide +kernel
theorem dX0_stepsToLeft_21 : decode cX0_stepsToLeft 21 = .ok (.iinc 2 1, 3) := by decide +kernel
theorem dX0_stepsToLeft_24 : decode cX0_stepsToLeft 24 = .ok (.goto (-22), 3) := by decide +kernel
theorem dX0_stepsToLeft_27 : decode cX0_stepsToLeft 27 = .ok (.iload_n 2, 1) := by decide +kernel
theorem dX0_stepsToLeft_28 : decode cX0_stepsToLeft 28 = .ok (.ireturn, 1) := by decide +kernel
theorem dX0_endAlikeAfter_0 : decode cX0_endAlikeAfter 0 = .ok (.aload_n 0, 1) := by decide +kernel
theorem dX0_endAlikeAfter_1 : decode cX0_endAlikeAfter 1 = .ok (.iconst 0, 1) := by decide +kernel
theorem dX0_endAlikeAfter_2 : decode cX0_endAlikeAfter 2 = .ok (.aload_n 0, 1) := by decide +kernel
theorem dX0_endAlikeAfter_3 : decode cX0_endAlikeAfter 3 = .ok (.getfield 18, 3) := by decide +kernel
theorem dX0_endAlikeAfter_6 : decode cX0_endAlikeAfter 6 = .ok (.iconst 0, 1) := by decide +kernel
theorem dX0_endAlikeAfter_7 : decode cX0_endAlikeAfter 7 = .ok (.iaload, 1) := by decide +kernel
theorem dX0_endAlikeAfter_8 : decode cX0_endAlikeAfter 8 = .ok (.iconst 1, 1) := by decide +kernel
theorem dX0_endAlikeAfter_9 : decode cX0_endAlikeAfter 9 = .ok (.isub, 1) := by decide +kernel
theorem dX0_endAlikeAfter_10 : decode cX0_endAlikeAfter 10 = .ok (.iload_n 1, 1) := by decide +kernel
theorem dX0_endAlikeAfter_11 : decode cX0_endAlikeAfter 11 = .ok (.aload_n 2, 1) := by decide +kernel
theorem dX0_endAlikeAfter_12 : decode cX0_endAlikeAfter 12 = .ok (.invokevirtual 108, 3) := by decide +kernel
theorem dX0_endAlikeAfter_15 : decode cX0_endAlikeAfter 15 = .ok (.istore_n 3, 1) := by decide +kernel
theorem dX0_endAlikeAfter_16 : decode cX0_endAlikeAfter 16 = .ok (.iconst 1, 1) := by decide +kernel
theorem dX0_endAlikeAfter_17 : decode cX0_endAlikeAfter 17 = .ok (.istore 4, 2) := by decide +kernel
theorem dX0_endAlikeAfter_19 : decode cX0_endAlikeAfter 19 = .ok (.iload 4, 2) := by decide +kernel
theorem dX0_endAlikeAfter_21 : decode cX0_endAlikeAfter 21 = .ok (.aload_n 0, 1) := by decide +kernel
theorem dX0_endAlikeAfter_22 : decode cX0_endAlikeAfter 22 = .ok (.getfield 41, 3) := by decide +kernel
theorem dX0_endAlikeAfter_25 : decode cX0_endAlikeAfter 25 = .ok (.if_icmp .ge 32, 3) := by decide +kernel
theorem dX0_endAlikeAfter_28 : decode cX0_endAlikeAfter 28 = .ok (.aload_n 0, 1) := by decide +kernel
theorem dX0_endAlikeAfter_29 : decode cX0_endAlikeAfter 29 = .ok (.iload 4, 2) := by decide +kernel
theorem dX0_endAlikeAfter_31 : decode cX0_endAlikeAfter 31 = .ok (.aload_n 0, 1) := by decide +kernel
theorem dX0_endAlikeAfter_32 : decode cX0_endAlikeAfter 32 = .ok (.getfield 18, 3) := by decide +kernel
theorem dX0_endAlikeAfter_35 : decode cX0_endAlikeAfter 35 = .ok (.iload 4, 2) := by decide +kernel
theorem dX0_endAlikeAfter_37 : decode cX0_endAlikeAfter 37 = .ok (.iaload, 1) := by decide +kernel
theorem dX0_endAlikeAfter_38 : decode cX0_endAlikeAfter 38 = .ok (.iconst 1, 1) := by decide +kernel
theorem dX0_endAlikeAfter_39 : decode cX0_endAlikeAfter 39 = .ok (.isub, 1) := by decide +kernel
theorem dX0_endAlikeAfter_40 : decode cX0_endAlikeAfter 40 = .ok (.iload_n 1, 1) := by decide +kernel
theorem dX0_endAlikeAfter_41 : decode cX0_endAlikeAfter 41 = .ok (.aload_n 2, 1) := by decide +kernel
theorem dX0_endAlikeAfter_42 : decode cX0_endAlikeAfter 42 = .ok (.invokevirtual 108, 3) := by decide +kernel
theorem dX0_endAlikeAfter_45 : decode cX0_endAlikeAfter 45 = .ok (.iload_n 3, 1) := by decide +kernel
theorem dX0_endAlikeAfter_46 : decode cX0_endAlikeAfter 46 = .ok (.if_icmp .eq 5, 3) := by decide +kernel
theorem dX0_endAlikeAfter_49 : decode cX0_endAlikeAfter 49 = .ok (.iconst 0, 1) := by decide +kernel
theorem dX0_endAlikeAfter_50 : decode cX0_endAlikeAfter 50 = .ok (.ireturn, 1) := by decide +kernel
theorem dX0_endAlikeAfter_51 : decode cX0_endAlikeAfter 51 = .ok (.iinc 4 1, 3) := by decide +kernel
theorem dX0_endAlikeAfter_54 : decode cX0_endAlikeAfter 54 = .ok (.goto (-35), 3) := by decide +kernel
theorem dX0_endAlikeAfter_57 : decode cX0_endAlikeAfter 57 = .ok (.iconst 1, 1) := by decide +kernel
theorem dX0_endAlikeAfter_58 : decode cX0_endAlikeAfter 58 = .ok (.ireturn, 1) := by decide +kernel
theorem dX0_movedLetter_0 : decode cX0_movedLetter 0 = .ok (.iload_n 2, 1) := by decide +kernel
theorem dX0_movedLetter_1 : decode cX0_movedLetter 1 = .ok (.iload_n 3, 1) := by decide +kernel
theorem dX0_movedLetter_2 : decode cX0_movedLetter 2 = .ok (.if_icmp .ge 23, 3) := by decide +kernel
theorem dX0_movedLetter_5 : decode cX0_movedLetter 5 = .ok (.aload 4, 2) := by decide +kernel
theorem dX0_movedLetter_7 : decode cX0_movedLetter 7 = .ok (.aload_n 0, 1) := by decide +kernel
theorem dX0_movedLetter_8 : decode cX0_movedLetter 8 = .ok (.getfield 49, 3) := by decide +kernel
theorem dX0_movedLetter_11 : decode cX0_movedLetter 11 = .ok (.aload_n 0, 1) := by decide +kernel
theorem dX0_movedLetter_12 : decode cX0_movedLetter 12 = .ok (.getfield 52, 3) := by decide +kernel
theorem dX0_movedLetter_15 : decode cX0_movedLetter 15 = .ok (.iload_n 3, 1) := by decide +kernel
theorem dX0_movedLetter_16 : decode cX0_movedLetter 16 = .ok (.isub, 1) := by decide +kernel
theorem dX0_movedLetter_17 : decode cX0_movedLetter 17 = .ok (.iload_n 2, 1) := by decide +kernel
theorem dX0_movedLetter_18 : decode cX0_movedLetter 18 = .ok (.iadd, 1) := by decide +kernel
theorem dX0_movedLetter_19 : decode cX0_movedLetter 19 = .ok (.invokevirtual 112, 3) := by decide +kernel
theorem dX0_movedLetter_22 : decode cX0_movedLetter 22 = .ok (.goto 11, 3) := by decide +kernel
theorem dX0_movedLetter_25 : decode cX0_movedLetter 25 = .ok (.aload_n 0, 1) := by decide +kernel
theorem dX0_movedLetter_26 : decode cX0_movedLetter 26 = .ok (.iload_n 1, 1) := by decide +kernel
theorem dX0_movedLetter_27 : decode cX0_movedLetter 27 = .ok (.iload_n 2, 1) := by decide +kernel
theorem dX0_movedLetter_28 : decode cX0_movedLetter 28 = .ok (.iload_n 3, 1) := by decide +kernel
theorem dX0_movedLetter_29 : decode cX0_movedLetter 29 = .ok (.isub, 1) := by decide +kernel
theorem dX0_movedLetter_30 : decode cX0_movedLetter 30 = .ok (.invokevirtual 69, 3) := by decide +kernel
theorem dX0_movedLetter_33 : decode cX0_movedLetter 33 = .ok (.ireturn, 1) := by decide +kernel
theorem dX0_moveLeft_0 : decode cX0_moveLeft 0 = .ok (.iconst 0, 1) := by decide +kernel
theorem dX0_moveLeft_1 : decode cX0_moveLeft 1 = .ok (.istore_n 3, 1) := by decide +kernel
theorem dX0_moveLeft_2 : decode cX0_moveLeft 2 = .ok (.iload_n 3, 1) := by decide +kernel
theorem dX0_moveLeft_3 : decode cX0_moveLeft 3 = .ok (.aload_n 0, 1) := by decide +kernel
theorem dX0_moveLeft_4 : decode cX0_moveLeft 4 = .ok (.getfield 41, 3) := by decide +kernel
theorem dX0_moveLeft_7 : decode cX0_moveLeft 7 = .ok (.if_icmp .ge 51, 3) := by decide +kernel
theorem dX0_moveLeft_10 : decode cX0_moveLeft 10 = .ok (.aload_n 0, 1) := by decide +kernel
theorem dX0_moveLeft_11 : decode cX0_moveLeft 11 = .ok (.getfield 18, 3) := by decide +kernel
theorem dX0_moveLeft_14 : decode cX0_moveLeft 14 = .ok (.iload_n 3, 1) := by decide +kernel
theorem dX0_moveLeft_15 : decode cX0_moveLeft 15 = .ok (.iaload, 1) := by decide +kernel
theorem dX0_moveLeft_16 : decode cX0_moveLeft 16 = .ok (.iconst 1, 1) := by decide +kernel
theorem dX0_moveLeft_17 : decode cX0_moveLeft 17 = .ok (.isub, 1) := by decide +kernel
theorem dX0_moveLeft_18 : decode cX0_moveLeft 18 = .ok (.istore 4, 2) := by decide +kernel
theorem dX0_moveLeft_20 : decode cX0_moveLeft 20 = .ok (.iload 4, 2) := by decide +kernel
theorem dX0_moveLeft_22 : decode cX0_moveLeft 22 = .ok (.ifCond .lt 30, 3) := by decide +kernel
theorem dX0_moveLeft_25 : decode cX0_moveLeft 25 = .ok (.aload_n 0, 1) := by decide +kernel
theorem dX0_moveLeft_26 : decode cX0_moveLeft 26 = .ok (.getfield 15, 3) := by decide +kernel
theorem dX0_moveLeft_29 : decode cX0_moveLeft 29 = .ok (.iload_n 3, 1) := by decide +kernel
theorem dX0_moveLeft_30 : decode cX0_moveLeft 30 = .ok (.bipush 24, 2) := by decide +kernel
theorem dX0_moveLeft_32 : decode cX0_moveLeft 32 = .ok (.imul, 1) := by decide +kernel
theorem dX0_moveLeft_33 : decode cX0_moveLeft 33 = .ok (.iload 4, 2) := by decide +kernel
theorem dX0_moveLeft_35 : decode cX0_moveLeft 35 = .ok (.iadd, 1) := by decide +kernel
theorem dX0_moveLeft_36 : decode cX0_moveLeft 36 = .ok (.aload_n 0, 1) := by decide +kernel
theorem dX0_moveLeft_37 : decode cX0_moveLeft 37 = .ok (.iload_n 3, 1) := by decide +kernel
theorem dX0_moveLeft_38 : decode cX0_moveLeft 38 = .ok (.iload 4, 2) := by decide +kernel
theorem dX0_moveLeft_40 : decode cX0_moveLeft 40 = .ok (.iload_n 1, 1) := by decide +kernel
theorem dX0_moveLeft_41 : decode cX0_moveLeft 41 = .ok (.aload_n 2, 1) := by decide +kernel
theorem dX0_moveLeft_42 : decode cX0_moveLeft 42 = .ok (.invokevirtual 108, 3) := by decide +kernel
theorem dX0_moveLeft_45 : decode cX0_moveLeft 45 = .ok (.iastore, 1) := by decide +kernel
theorem dX0_moveLeft_46 : decode cX0_moveLeft 46 = .ok (.iinc 4 (-1), 3) := by decide +kernel
theorem dX0_moveLeft_49 : decode cX0_moveLeft 49 = .ok (.goto (-29), 3) := by decide +kernel
theorem dX0_moveLeft_52 : decode cX0_moveLeft 52 = .ok (.iinc 3 1, 3) := by decide +kernel
theorem dX0_moveLeft_55 : decode cX0_moveLeft 55 = .ok (.goto (-53), 3) := by decide +kernel
theorem dX0_moveLeft_58 : decode cX0_moveLeft 58 = .ok (.aload_n 0, 1) := by decide +kernel
theorem dX0_moveLeft_59 : decode cX0_moveLeft 59 = .ok (.dup, 1) := by decide +kernel
theorem dX0_moveLeft_60 : decode cX0_moveLeft 60 = .ok (.getfield 52, 3) := by decide +kernel
theorem dX0_moveLeft_63 : decode cX0_moveLeft 63 = .ok (.iload_n 1, 1) := by decide +kernel
theorem dX0_moveLeft_64 : decode cX0_moveLeft 64 = .ok (.isub, 1) := by decide +kernel
theorem dX0_moveLeft_65 : decode cX0_moveLeft 65 = .ok (.putfield 52, 3) := by decide +kernel
theorem dX0_moveLeft_68 : decode cX0_moveLeft 68 = .ok (.return_, 1) := by decide +kernel
theorem dX0_cutBeginnings_0 : decode cX0_cutBeginnings 0 = .ok (.aload_n 0, 1) := by decide +kernel
theorem dX0_cutBeginnings_1 : decode cX0_cutBeginnings 1 = .ok (.invokevirtual 85, 3) := by decide +kernel
theorem dX0_cutBeginnings_4 : decode cX0_cutBeginnings 4 = .ok (.iconst 1, 1) := by decide +kernel
theorem dX0_cutBeginnings_5 : decode cX0_cutBeginnings 5 = .ok (.isub, 1) := by decide +kernel
theorem dX0_cutBeginnings_6 : decode cX0_cutBeginnings 6 = .ok (.istore_n 1, 1) := by decide +kernel
theorem dX0_cutBeginnings_7 : decode cX0_cutBeginnings 7 = .ok (.iconst 0, 1) := by decide +kernel
theorem dX0_cutBeginnings_8 : decode cX0_cutBeginnings 8 = .ok (.istore_n 2, 1) := by decide +kernel
theorem dX0_cutBeginnings_9 : decode cX0_cutBeginnings 9 = .ok (.iload_n 2, 1) := by decide +kernel
theorem dX0_cutBeginnings_10 : decode cX0_cutBeginnings 10 = .ok (.iload_n 1, 1) := by decide +kernel
theorem dX0_cutBeginnings_11 : decode cX0_cutBeginnings 11 = .ok (.if_icmp .ge 17, 3) := by decide +kernel
theorem dX0_cutBeginnings_14 : decode cX0_cutBeginnings 14 = .ok (.aload_n 0, 1) := by decide +kernel
theorem dX0_cutBeginnings_15 : decode cX0_cutBeginnings 15 = .ok (.iload_n 2, 1) := by decide +kernel
theorem dX0_cutBeginnings_16 : decode cX0_cutBeginnings 16 = .ok (.invokevirtual 115, 3) := by decide +kernel
theorem dX0_cutBeginnings_19 : decode cX0_cutBeginnings 19 = .ok (.ifCond .eq 9, 3) := by decide +kernel
theorem dX0_cutBeginnings_22 : decode cX0_cutBeginnings 22 = .ok (.iinc 2 1, 3) := by decide +kernel
theorem dX0_cutBeginnings_25 : decode cX0_cutBeginnings 25 = .ok (.goto (-16), 3) := by decide +kernel
theorem dX0_cutBeginnings_28 : decode cX0_cutBeginnings 28 = .ok (.iconst 0, 1) := by decide +kernel
theorem dX0_cutBeginnings_29 : decode cX0_cutBeginnings 29 = .ok (.istore_n 3, 1) := by decide +kernel
theorem dX0_cutBeginnings_30 : decode cX0_cutBeginnings 30 = .ok (.iload_n 3, 1) := by decide +kernel
theorem dX0_cutBeginnings_31 : decode cX0_cutBeginnings 31 = .ok (.aload_n 0, 1) := by decide +kernel
theorem dX0_cutBeginnings_32 : decode cX0_cutBeginnings 32 = .ok (.getfield 41, 3) := by decide +kernel
theorem dX0_cutBeginnings_35 : decode cX0_cutBeginnings 35 = .ok (.if_icmp .ge 57, 3) := by decide +kernel
theorem dX0_cutBeginnings_38 : decode cX0_cutBeginnings 38 = .ok (.aload_n 0, 1) := by decide +kernel
theorem dX0_cutBeginnings_39 : decode cX0_cutBeginnings 39 = .ok (.getfield 18, 3) := by decide +kernel
theorem dX0_cutBeginnings_42 : decode cX0_cutBeginnings 42 = .ok (.iload_n 3, 1) := by decide +kernel
theorem dX0_cutBeginnings_43 : decode cX0_cutBeginnings 43 = .ok (.iaload, 1) := by decide +kernel
theorem dX0_cutBeginnings_44 : decode cX0_cutBeginnings 44 = .ok (.istore 4, 2) := by decide +kernel
theorem dX0_cutBeginnings_46 : decode cX0_cutBeginnings 46 = .ok (.aload_n 0, 1) := by decide +kernel
theorem dX0_cutBeginnings_47 : decode cX0_cutBeginnings 47 = .ok (.getfield 18, 3) := by decide +kernel
theorem dX0_cutBeginnings_50 : decode cX0_cutBeginnings 50 = .ok (.iload_n 3, 1) := by decide +kernel
theorem dX0_cutBeginnings_51 : decode cX0_cutBeginnings 51 = .ok (.iconst 0, 1) := by decide +kernel
theorem dX0_cutBeginnings_52 : decode cX0_cutBeginnings 52 = .ok (.iastore, 1) := by decide +kernel
theorem dX0_cutBeginnings_53 : decode cX0_cutBeginnings 53 = .ok (.iload_n 2, 1) := by decide +kernel
theorem dX0_cutBeginnings_54 : decode cX0_cutBeginnings 54 = .ok (.istore 5, 2) := by decide +kernel
theorem dX0_cutBeginnings_56 : decode cX0_cutBeginnings 56 = .ok (.iload 5, 2) := by decide +kernel
theorem dX0_cutBeginnings_58 : decode cX0_cutBeginnings 58 = .ok (.iload 4, 2) := by decide +kernel
theorem dX0_cutBeginnings_60 : decode cX0_cutBeginnings 60 = .ok (.if_icmp .ge 26, 3) := by decide +kernel
theorem dX0_cutBeginnings_63 : decode cX0_cutBeginnings 63 = .ok (.aload_n 0, 1) := by decide +kernel
theorem dX0_cutBeginnings_64 : decode cX0_cutBeginnings 64 = .ok (.iload_n 3, 1) := by decide +kernel
theorem dX0_cutBeginnings_65 : decode cX0_cutBeginnings 65 = .ok (.aload_n 0, 1) := by decide +kernel
theorem dX0_cutBeginnings_66 : decode cX0_cutBeginnings 66 = .ok (.getfield 15, 3) := by decide +kernel
theorem dX0_cutBeginnings_69 : decode cX0_cutBeginnings 69 = .ok (.iload_n 3, 1) := by decide +kernel
theorem dX0_cutBeginnings_70 : decode cX0_cutBeginnings 70 = .ok (.bipush 24, 2) := by decide +kernel
theorem dX0_cutBeginnings_72 : decode cX0_cutBeginnings 72 = .ok (.imul, 1) := by decide +kernel
theorem dX0_cutBeginnings_73 : decode cX0_cutBeginnings 73 = .ok (.iload 5, 2) := by decide +kernel
theorem dX0_cutBeginnings_75 : decode cX0_cutBeginnings 75 = .ok (.iadd, 1) := by decide +kernel
theorem dX0_cutBeginnings_76 : decode cX0_cutBeginnings 76 = .ok (.iaload, 1) := by decide +kernel
theorem dX0_cutBeginnings_77 : decode cX0_cutBeginnings 77 = .ok (.invokevirtual 119, 3) := by decide +kernel
theorem dX0_cutBeginnings_80 : decode cX0_cutBeginnings 80 = .ok (.iinc 5 1, 3) := by decide +kernel
theorem dX0_cutBeginnings_83 : decode cX0_cutBeginnings 83 = .ok (.goto (-27), 3) := by decide +kernel
theorem dX0_cutBeginnings_86 : decode cX0_cutBeginnings 86 = .ok (.iinc 3 1, 3) := by decide +kernel
theorem dX0_cutBeginnings_89 : decode cX0_cutBeginnings 89 = .ok (.goto (-59), 3) := by decide +kernel
theorem dX0_cutBeginnings_92 : decode cX0_cutBeginnings 92 = .ok (.aload_n 0, 1) := by decide +kernel
theorem dX0_cutBeginnings_93 : decode cX0_cutBeginnings 93 = .ok (.dup, 1) := by decide +kernel
theorem dX0_cutBeginnings_94 : decode cX0_cutBeginnings 94 = .ok (.getfield 52, 3) := by decide +kernel
theorem dX0_cutBeginnings_97 : decode cX0_cutBeginnings 97 = .ok (.iload_n 2, 1) := by decide +kernel
theorem dX0_cutBeginnings_98 : decode cX0_cutBeginnings 98 = .ok (.iadd, 1) := by decide +kernel
theorem dX0_cutBeginnings_99 : decode cX0_cutBeginnings 99 = .ok (.putfield 52, 3) := by decide +kernel
theorem dX0_cutBeginnings_102 : decode cX0_cutBeginnings 102 = .ok (.iload_n 2, 1) := by decide +kernel
theorem dX0_cutBeginnings_103 : decode cX0_cutBeginnings 103 = .ok (.ireturn, 1) := by decide +kernel
theorem dX0_alikeAt_0 : decode cX0_alikeAt 0 = .ok (.iconst 1, 1) := by decide +kernel
theorem dX0_alikeAt_1 : decode cX0_alikeAt 1 = .ok (.istore_n 2, 1) := by decide +kernel
theorem dX0_alikeAt_2 : decode cX0_alikeAt 2 = .ok (.iload_n 2, 1) := by decide +kernel
theorem dX0_alikeAt_3 : decode cX0_alikeAt 3 = .ok (.aload_n 0, 1) := by decide +kernel
theorem dX0_alikeAt_4 : decode cX0_alikeAt 4 = .ok (.getfield 41, 3) := by decide +kernel
theorem dX0_alikeAt_7 : decode cX0_alikeAt 7 = .ok (.if_icmp .ge 26, 3) := by decide +kernel
theorem dX0_alikeAt_10 : decode cX0_alikeAt 10 = .ok (.aload_n 0, 1) := by decide +kernel
theorem dX0_alikeAt_11 : decode cX0_alikeAt 11 = .ok (.iload_n 2, 1) := by decide +kernel
theorem dX0_alikeAt_12 : decode cX0_alikeAt 12 = .ok (.iload_n 1, 1) := by decide +kernel
theorem dX0_alikeAt_13 : decode cX0_alikeAt 13 = .ok (.invokevirtual 69, 3) := by decide +kernel
theorem dX0_alikeAt_16 : decode cX0_alikeAt 16 = .ok (.aload_n 0, 1) := by decide +kernel
theorem dX0_alikeAt_17 : decode cX0_alikeAt 17 = .ok (.iconst 0, 1) := by decide +kernel
theorem dX0_alikeAt_18 : decode cX0_alikeAt 18 = .ok (.iload_n 1, 1) := by decide +kernel
theorem dX0_alikeAt_19 : decode cX0_alikeAt 19 = .ok (.invokevirtual 69, 3) := by decide +kernel
theorem dX0_alikeAt_22 : decode cX0_alikeAt 22 = .ok (.if_icmp .eq 5, 3) := by decide +kernel
theorem dX0_alikeAt_25 : decode cX0_alikeAt 25 = .ok (.iconst 0, 1) := by decide +kernel
theorem dX0_alikeAt_26 : decode cX0_alikeAt 26 = .ok (.ireturn, 1) := by decide +kernel
theorem dX0_alikeAt_27 : decode cX0_alikeAt 27 = .ok (.iinc 2 1, 3) := by decide +kernel
theorem dX0_alikeAt_30 : decode cX0_alikeAt 30 = .ok (.goto (-28), 3) := by decide +kernel
theorem dX0_alikeAt_33 : decode cX0_alikeAt 33 = .ok (.iconst 1, 1) := by decide +kernel
theorem dX0_alikeAt_34 : decode cX0_alikeAt 34 = .ok (.ireturn, 1) := by decide +kernel
theorem dX0_takeAlt_0 : decode cX0_takeAlt 0 = .ok (.aload_n 0, 1) := by decide +kernel
theorem dX0_takeAlt_1 : decode cX0_takeAlt 1 = .ok (.aload_n 1, 1) := by decide +kernel
theorem dX0_takeAlt_2 : decode cX0_takeAlt 2 = .ok (.invokevirtual 123, 3) := by decide +kernel
theorem dX0_takeAlt_5 : decode cX0_takeAlt 5 = .ok (.aload_n 0, 1) := by decide +kernel
theorem dX0_takeAlt_6 : decode cX0_takeAlt 6 = .ok (.iconst 1, 1) := by decide +kernel
theorem dX0_takeAlt_7 : decode cX0_takeAlt 7 = .ok (.aload_n 1, 1) := by decide +kernel
theorem dX0_takeAlt_8 : decode cX0_takeAlt 8 = .ok (.iload_n 2, 1) := by decide +kernel
theorem dX0_takeAlt_9 : decode cX0_takeAlt 9 = .ok (.invokevirtual 126, 3) := by decide +kernel
theorem dX0_takeAlt_12 : decode cX0_takeAlt 12 = .ok (.aload_n 0, 1) := by decide +kernel
theorem dX0_takeAlt_13 : decode cX0_takeAlt 13 = .ok (.iconst 2, 1) := by decide +kernel
theorem dX0_takeAlt_14 : decode cX0_takeAlt 14 = .ok (.putfield 41, 3) := by decide +kernel
theorem dX0_takeAlt_17 : decode cX0_takeAlt 17 = .ok (.iconst 0, 1) := by decide +kernel
theorem dX0_takeAlt_18 : decode cX0_takeAlt 18 = .ok (.istore 4, 2) := by decide +kernel
theorem dX0_takeAlt_20 : decode cX0_takeAlt 20 = .ok (.iload 4, 2) := by decide +kernel
theorem dX0_takeAlt_22 : decode cX0_takeAlt 22 = .ok (.iload_n 3, 1) := by decide +kernel
theorem dX0_takeAlt_23 : decode cX0_takeAlt 23 = .ok (.if_icmp .ge 64, 3) := by decide +kernel
theorem dX0_takeAlt_26 : decode cX0_takeAlt 26 = .ok (.iconst 0, 1) := by decide +kernel
theorem dX0_takeAlt_27 : decode cX0_takeAlt 27 = .ok (.istore 5, 2) := by decide +kernel
theorem dX0_takeAlt_29 : decode cX0_takeAlt 29 = .ok (.iload 5, 2) := by decide +kernel
theorem dX0_takeAlt_31 : decode cX0_takeAlt 31 = .ok (.aload_n 0, 1) := by decide +kernel
theorem dX0_takeAlt_32 : decode cX0_takeAlt 32 = .ok (.getfield 24, 3) := by decide +kernel
theorem dX0_takeAlt_35 : decode cX0_takeAlt 35 = .ok (.iload 4, 2) := by decide +kernel
theorem dX0_takeAlt_37 : decode cX0_takeAlt 37 = .ok (.iaload, 1) := by decide +kernel
theorem dX0_takeAlt_38 : decode cX0_takeAlt 38 = .ok (.if_icmp .ge 43, 3) := by decide +kernel
theorem dX0_takeAlt_41 : decode cX0_takeAlt 41 = .ok (.aload_n 0, 1) := by decide +kernel
theorem dX0_takeAlt_42 : decode cX0_takeAlt 42 = .ok (.iload 4, 2) := by decide +kernel
theorem dX0_takeAlt_44 : decode cX0_takeAlt 44 = .ok (.iload 5, 2) := by decide +kernel
theorem dX0_takeAlt_46 : decode cX0_takeAlt 46 = .ok (.invokevirtual 129, 3) := by decide +kernel
theorem dX0_takeAlt_49 : decode cX0_takeAlt 49 = .ok (.istore 6, 2) := by decide +kernel
theorem dX0_takeAlt_51 : decode cX0_takeAlt 51 = .ok (.iload 6, 2) := by decide +kernel
theorem dX0_takeAlt_53 : decode cX0_takeAlt 53 = .ok (.ifCond .le 22, 3) := by decide +kernel
theorem dX0_takeAlt_56 : decode cX0_takeAlt 56 = .ok (.aload_n 0, 1) := by decide +kernel
theorem dX0_takeAlt_57 : decode cX0_takeAlt 57 = .ok (.iload 4, 2) := by decide +kernel
theorem dX0_takeAlt_59 : decode cX0_takeAlt 59 = .ok (.iload 5, 2) := by decide +kernel
theorem dX0_takeAlt_61 : decode cX0_takeAlt 61 = .ok (.iload 6, 2) := by decide +kernel
theorem dX0_takeAlt_63 : decode cX0_takeAlt 63 = .ok (.iload_n 2, 1) := by decide +kernel
theorem dX0_takeAlt_64 : decode cX0_takeAlt 64 = .ok (.if_icmp .ne 7, 3) := by decide +kernel
theorem dX0_takeAlt_67 : decode cX0_takeAlt 67 = .ok (.iconst 1, 1) := by decide +kernel
theorem dX0_takeAlt_68 : decode cX0_takeAlt 68 = .ok (.goto 4, 3) := by decide +kernel
theorem dX0_takeAlt_71 : decode cX0_takeAlt 71 = .ok (.iconst 0, 1) := by decide +kernel
theorem dX0_takeAlt_72 : decode cX0_takeAlt 72 = .ok (.invokevirtual 65, 3) := by decide +kernel
theorem dX0_takeAlt_75 : decode cX0_takeAlt 75 = .ok (.iinc 5 1, 3) := by decide +kernel
theorem dX0_takeAlt_78 : decode cX0_takeAlt 78 = .ok (.goto (-49), 3) := by decide +kernel
theorem dX0_takeAlt_81 : decode cX0_takeAlt 81 = .ok (.iinc 4 1, 3) := by decide +kernel
theorem dX0_takeAlt_84 : decode cX0_takeAlt 84 = .ok (.goto (-64), 3) := by decide +kernel
theorem dX0_takeAlt_87 : decode cX0_takeAlt 87 = .ok (.return_, 1) := by decide +kernel
theorem dX0_canReach_0 : decode cX0_canReach 0 = .ok (.iconst 0, 1) := by decide +kernel
theorem dX0_canReach_1 : decode cX0_canReach 1 = .ok (.istore_n 2, 1) := by decide +kernel
theorem dX0_canReach_2 : decode cX0_canReach 2 = .ok (.iload_n 2, 1) := by decide +kernel
theorem dX0_canReach_3 : decode cX0_canReach 3 = .ok (.aload_n 0, 1) := by decide +kernel
theorem dX0_canReach_4 : decode cX0_canReach 4 = .ok (.getfield 41, 3) := by decide +kernel
theorem dX0_canReach_7 : decode cX0_canReach 7 = .ok (.if_icmp .ge 31, 3) := by decide +kernel
theorem dX0_canReach_10 : decode cX0_canReach 10 = .ok (.aload_n 0, 1) := by decide +kernel
theorem dX0_canReach_11 : decode cX0_canReach 11 = .ok (.getfield 18, 3) := by decide +kernel
theorem dX0_canReach_14 : decode cX0_canReach 14 = .ok (.iload_n 2, 1) := by decide +kernel
theorem dX0_canReach_15 : decode cX0_canReach 15 = .ok (.iaload, 1) := by decide +kernel
theorem dX0_canReach_16 : decode cX0_canReach 16 = .ok (.iload_n 1, 1) := by decide +kernel
theorem dX0_canReach_17 : decode cX0_canReach 17 = .ok (.iadd, 1) := by decide +kernel
theorem dX0_canReach_18 : decode cX0_canReach 18 = .ok (.aload_n 0, 1) := by decide +kernel
theorem dX0_canReach_19 : decode cX0_canReach 19 = .ok (.getfield 18, 3) := by decide +kernel
theorem dX0_canReach_22 : decode cX0_canReach 22 = .ok (.iconst 0, 1) := by decide +kernel
theorem dX0_canReach_23 : decode cX0_canReach 23 = .ok (.iaload, 1) := by decide +kernel
theorem dX0_canReach_24 : decode cX0_canReach 24 = .ok (.isub, 1) := by decide +kernel
theorem dX0_canReach_25 : decode cX0_canReach 25 = .ok (.bipush 24, 2) := by decide +kernel
theorem dX0_canReach_27 : decode cX0_canReach 27 = .ok (.if_icmp .le 5, 3) := by decide +kernel
theorem dX0_canReach_30 : decode cX0_canReach 30 = .ok (.iconst 0, 1) := by decide +kernel
theorem dX0_canReach_31 : decode cX0_canReach 31 = .ok (.ireturn, 1) := by decide +kernel
theorem dX0_canReach_32 : decode cX0_canReach 32 = .ok (.iinc 2 1, 3) := by decide +kernel
theorem dX0_canReach_35 : decode cX0_canReach 35 = .ok (.goto (-33), 3) := by decide +kernel
theorem dX0_canReach_38 : decode cX0_canReach 38 = .ok (.iconst 1, 1) := by decide +kernel
theorem dX0_canReach_39 : decode cX0_canReach 39 = .ok (.ireturn, 1) := by decide +kernel
theorem dX0_reachAsFarAs_0 : decode cX0_reachAsFarAs 0 = .ok (.aload_n 0, 1) := by decide +kernel
theorem dX0_reachAsFarAs_1 : decode cX0_reachAsFarAs 1 = .ok (.getfield 18, 3) := by decide +kernel
theorem dX0_reachAsFarAs_4 : decode cX0_reachAsFarAs 4 = .ok (.iconst 0, 1) := by decide +kernel
theorem dX0_reachAsFarAs_5 : decode cX0_reachAsFarAs 5 = .ok (.iaload, 1) := by decide +kernel
theorem dX0_reachAsFarAs_6 : decode cX0_reachAsFarAs 6 = .ok (.istore_n 2, 1) := by decide +kernel
theorem dX0_reachAsFarAs_7 : decode cX0_reachAsFarAs 7 = .ok (.iconst 0, 1) := by decide +kernel
theorem dX0_reachAsFarAs_8 : decode cX0_reachAsFarAs 8 = .ok (.istore_n 3, 1) := by decide +kernel
theorem dX0_reachAsFarAs_9 : decode cX0_reachAsFarAs 9 = .ok (.iload_n 3, 1) := by decide +kernel
theorem dX0_reachAsFarAs_10 : decode cX0_reachAsFarAs 10 = .ok (.aload_n 0, 1) := by decide +kernel
theorem dX0_reachAsFarAs_11 : decode cX0_reachAsFarAs 11 = .ok (.getfield 41, 3) := by decide +kernel
theorem dX0_reachAsFarAs_14 : decode cX0_reachAsFarAs 14 = .ok (.if_icmp .ge 41, 3) := by decide +kernel
theorem dX0_reachAsFarAs_17 : decode cX0_reachAsFarAs 17 = .ok (.iload_n 2, 1) := by decide +kernel
theorem dX0_reachAsFarAs_18 : decode cX0_reachAsFarAs 18 = .ok (.istore 4, 2) := by decide +kernel
theorem dX0_reachAsFarAs_20 : decode cX0_reachAsFarAs 20 = .ok (.iload 4, 2) := by decide +kernel
theorem dX0_reachAsFarAs_22 : decode cX0_reachAsFarAs 22 = .ok (.aload_n 1, 1) := by decide +kernel
theorem dX0_reachAsFarAs_23 : decode cX0_reachAsFarAs 23 = .ok (.getfield 18, 3) := by decide +kernel
theorem dX0_reachAsFarAs_26 : decode cX0_reachAsFarAs 26 = .ok (.iconst 0, 1) := by decide +kernel
theorem dX0_reachAsFarAs_27 : decode cX0_reachAsFarAs 27 = .ok (.iaload, 1) := by decide +kernel
theorem dX0_reachAsFarAs_28 : decode cX0_reachAsFarAs 28 = .ok (.if_icmp .ge 21, 3) := by decide +kernel
theorem dX0_reachAsFarAs_31 : decode cX0_reachAsFarAs 31 = .ok (.aload_n 0, 1) := by decide +kernel
theorem dX0_reachAsFarAs_32 : decode cX0_reachAsFarAs 32 = .ok (.iload_n 3, 1) := by decide +kernel
theorem dX0_reachAsFarAs_33 : decode cX0_reachAsFarAs 33 = .ok (.aload_n 1, 1) := by decide +kernel
theorem dX0_reachAsFarAs_34 : decode cX0_reachAsFarAs 34 = .ok (.iconst 0, 1) := by decide +kernel
theorem dX0_reachAsFarAs_35 : decode cX0_reachAsFarAs 35 = .ok (.iload 4, 2) := by decide +kernel
theorem dX0_reachAsFarAs_37 : decode cX0_reachAsFarAs 37 = .ok (.invokevirtual 69, 3) := by decide +kernel
theorem dX0_reachAsFarAs_40 : decode cX0_reachAsFarAs 40 = .ok (.invokevirtual 119, 3) := by decide +kernel
theorem dX0_reachAsFarAs_43 : decode cX0_reachAsFarAs 43 = .ok (.iinc 4 1, 3) := by decide +kernel
theorem dX0_reachAsFarAs_46 : decode cX0_reachAsFarAs 46 = .ok (.goto (-26), 3) := by decide +kernel
theorem dX0_reachAsFarAs_49 : decode cX0_reachAsFarAs 49 = .ok (.iinc 3 1, 3) := by decide +kernel
theorem dX0_reachAsFarAs_52 : decode cX0_reachAsFarAs 52 = .ok (.goto (-43), 3) := by decide +kernel
theorem dX0_reachAsFarAs_55 : decode cX0_reachAsFarAs 55 = .ok (.return_, 1) := by decide +kernel
theorem dX0_altLike_0 : decode cX0_altLike 0 = .ok (.iconst 1, 1) := by decide +kernel
theorem dX0_altLike_1 : decode cX0_altLike 1 = .ok (.istore_n 3, 1) := by decide +kernel
theorem dX0_altLike_2 : decode cX0_altLike 2 = .ok (.iload_n 3, 1) := by decide +kernel
theorem dX0_altLike_3 : decode cX0_altLike 3 = .ok (.aload_n 0, 1) := by decide +kernel
theorem dX0_altLike_4 : decode cX0_altLike 4 = .ok (.getfield 41, 3) := by decide +kernel
theorem dX0_altLike_7 : decode cX0_altLike 7 = .ok (.if_icmp .ge 21, 3) := by decide +kernel
theorem dX0_altLike_10 : decode cX0_altLike 10 = .ok (.aload_n 0, 1) := by decide +kernel
theorem dX0_altLike_11 : decode cX0_altLike 11 = .ok (.iload_n 3, 1) := by decide +kernel
theorem dX0_altLike_12 : decode cX0_altLike 12 = .ok (.aload_n 1, 1) := by decide +kernel
theorem dX0_altLike_13 : decode cX0_altLike 13 = .ok (.iload_n 2, 1) := by decide +kernel
theorem dX0_altLike_14 : decode cX0_altLike 14 = .ok (.invokevirtual 73, 3) := by decide +kernel
theorem dX0_altLike_17 : decode cX0_altLike 17 = .ok (.ifCond .eq 5, 3) := by decide +kernel
theorem dX0_altLike_20 : decode cX0_altLike 20 = .ok (.iload_n 3, 1) := by decide +kernel
theorem dX0_altLike_21 : decode cX0_altLike 21 = .ok (.ireturn, 1) := by decide +kernel
theorem dX0_altLike_22 : decode cX0_altLike 22 = .ok (.iinc 3 1, 3) := by decide +kernel
theorem dX0_altLike_25 : decode cX0_altLike 25 = .ok (.goto (-23), 3) := by decide +kernel
theorem dX0_altLike_28 : decode cX0_altLike 28 = .ok (.iconst (-1), 1) := by decide +kernel
theorem dX0_altLike_29 : decode cX0_altLike 29 = .ok (.ireturn, 1) := by decide +kernel
theorem dX0_meansSameAs_0 : decode cX0_meansSameAs 0 = .ok (.aload_n 0, 1) := by decide +kernel
theorem dX0_meansSameAs_1 : decode cX0_meansSameAs 1 = .ok (.getfield 41, 3) := by decide +kernel
theorem dX0_meansSameAs_4 : decode cX0_meansSameAs 4 = .ok (.iconst 2, 1) := by decide +kernel
theorem dX0_meansSameAs_5 : decode cX0_meansSameAs 5 = .ok (.if_icmp .ne 33, 3) := by decide +kernel
theorem dX0_meansSameAs_8 : decode cX0_meansSameAs 8 = .ok (.aload_n 1, 1) := by decide +kernel
theorem dX0_meansSameAs_9 : decode cX0_meansSameAs 9 = .ok (.getfield 41, 3) := by decide +kernel
theorem dX0_meansSameAs_12 : decode cX0_meansSameAs 12 = .ok (.iconst 2, 1) := by decide +kernel
theorem dX0_meansSameAs_13 : decode cX0_meansSameAs 13 = .ok (.if_icmp .ne 25, 3) := by decide +kernel
theorem dX0_meansSameAs_16 : decode cX0_meansSameAs 16 = .ok (.aload_n 0, 1) := by decide +kernel
theorem dX0_meansSameAs_17 : decode cX0_meansSameAs 17 = .ok (.getfield 49, 3) := by decide +kernel
theorem dX0_meansSameAs_20 : decode cX0_meansSameAs 20 = .ok (.aload_n 1, 1) := by decide +kernel
theorem dX0_meansSameAs_21 : decode cX0_meansSameAs 21 = .ok (.getfield 49, 3) := by decide +kernel
theorem dX0_meansSameAs_24 : decode cX0_meansSameAs 24 = .ok (.if_icmp .ne 14, 3) := by decide +kernel
theorem dX0_meansSameAs_27 : decode cX0_meansSameAs 27 = .ok (.aload_n 0, 1) := by decide +kernel
theorem dX0_meansSameAs_28 : decode cX0_meansSameAs 28 = .ok (.invokevirtual 132, 3) := by decide +kernel
theorem dX0_meansSameAs_31 : decode cX0_meansSameAs 31 = .ok (.aload_n 1, 1) := by decide +kernel
theorem dX0_meansSameAs_32 : decode cX0_meansSameAs 32 = .ok (.invokevirtual 132, 3) := by decide +kernel
theorem dX0_meansSameAs_35 : decode cX0_meansSameAs 35 = .ok (.if_icmp .eq 5, 3) := by decide +kernel
theorem dX0_meansSameAs_38 : decode cX0_meansSameAs 38 = .ok (.iconst 0, 1) := by decide +kernel
theorem dX0_meansSameAs_39 : decode cX0_meansSameAs 39 = .ok (.ireturn, 1) := by decide +kernel
theorem dX0_meansSameAs_40 : decode cX0_meansSameAs 40 = .ok (.aload_n 0, 1) := by decide +kernel
theorem dX0_meansSameAs_41 : decode cX0_meansSameAs 41 = .ok (.getfield 52, 3) := by decide +kernel
theorem dX0_meansSameAs_44 : decode cX0_meansSameAs 44 = .ok (.aload_n 1, 1) := by decide +kernel
theorem dX0_meansSameAs_45 : decode cX0_meansSameAs 45 = .ok (.getfield 52, 3) := by decide +kernel
theorem dX0_meansSameAs_48 : decode cX0_meansSameAs 48 = .ok (.invokestatic 99, 3) := by decide +kernel
theorem dX0_meansSameAs_51 : decode cX0_meansSameAs 51 = .ok (.istore_n 3, 1) := by decide +kernel
theorem dX0_meansSameAs_52 : decode cX0_meansSameAs 52 = .ok (.aload_n 0, 1) := by decide +kernel
theorem dX0_meansSameAs_53 : decode cX0_meansSameAs 53 = .ok (.getfield 52, 3) := by decide +kernel
theorem dX0_meansSameAs_56 : decode cX0_meansSameAs 56 = .ok (.aload_n 0, 1) := by decide +kernel
theorem dX0_meansSameAs_57 : decode cX0_meansSameAs 57 = .ok (.getfield 18, 3) := by decide +kernel
theorem dX0_meansSameAs_60 : decode cX0_meansSameAs 60 = .ok (.iconst 1, 1) := by decide +kernel
theorem dX0_meansSameAs_61 : decode cX0_meansSameAs 61 = .ok (.iaload, 1) := by decide +kernel
theorem dX0_meansSameAs_62 : decode cX0_meansSameAs 62 = .ok (.iadd, 1) := by decide +kernel
theorem dX0_meansSameAs_63 : decode cX0_meansSameAs 63 = .ok (.aload_n 1, 1) := by decide +kernel
theorem dX0_meansSameAs_64 : decode cX0_meansSameAs 64 = .ok (.getfield 52, 3) := by decide +kernel
theorem dX0_meansSameAs_67 : decode cX0_meansSameAs 67 = .ok (.aload_n 1, 1) := by decide +kernel
theorem dX0_meansSameAs_68 : decode cX0_meansSameAs 68 = .ok (.getfield 18, 3) := by decide +kernel
theorem dX0_meansSameAs_71 : decode cX0_meansSameAs 71 = .ok (.iconst 1, 1) := by decide +kernel
theorem dX0_meansSameAs_72 : decode cX0_meansSameAs 72 = .ok (.iaload, 1) := by decide +kernel
theorem dX0_meansSameAs_73 : decode cX0_meansSameAs 73 = .ok (.iadd, 1) := by decide +kernel
theorem dX0_meansSameAs_74 : decode cX0_meansSameAs 74 = .ok (.invokestatic 135, 3) := by decide +kernel
theorem dX0_meansSameAs_77 : decode cX0_meansSameAs 77 = .ok (.istore 4, 2) := by decide +kernel
theorem dX0_meansSameAs_79 : decode cX0_meansSameAs 79 = .ok (.iload_n 3, 1) := by decide +kernel
theorem dX0_meansSameAs_80 : decode cX0_meansSameAs 80 = .ok (.istore 5, 2) := by decide +kernel
theorem dX0_meansSameAs_82 : decode cX0_meansSameAs 82 = .ok (.iload 5, 2) := by decide +kernel
theorem dX0_meansSameAs_84 : decode cX0_meansSameAs 84 = .ok (.iload 4, 2) := by decide +kernel
theorem dX0_meansSameAs_86 : decode cX0_meansSameAs 86 = .ok (.if_icmp .ge 28, 3) := by decide +kernel
theorem dX0_meansSameAs_89 : decode cX0_meansSameAs 89 = .ok (.aload_n 0, 1) := by decide +kernel
theorem dX0_meansSameAs_90 : decode cX0_meansSameAs 90 = .ok (.iload 5, 2) := by decide +kernel
theorem dX0_meansSameAs_92 : decode cX0_meansSameAs 92 = .ok (.aload_n 2, 1) := by decide +kernel
theorem dX0_meansSameAs_93 : decode cX0_meansSameAs 93 = .ok (.invokevirtual 138, 3) := by decide +kernel
theorem dX0_meansSameAs_96 : decode cX0_meansSameAs 96 = .ok (.aload_n 1, 1) := by decide +kernel
theorem dX0_meansSameAs_97 : decode cX0_meansSameAs 97 = .ok (.iload 5, 2) := by decide +kernel
theorem dX0_meansSameAs_99 : decode cX0_meansSameAs 99 = .ok (.aload_n 2, 1) := by decide +kernel
theorem dX0_meansSameAs_100 : decode cX0_meansSameAs 100 = .ok (.invokevirtual 138, 3) := by decide +kernel
theorem dX0_meansSameAs_103 : decode cX0_meansSameAs 103 = .ok (.if_icmp .eq 5, 3) := by decide +kernel
theorem dX0_meansSameAs_106 : decode cX0_meansSameAs 106 = .ok (.iconst 0, 1) := by decide +kernel
theorem dX0_meansSameAs_107 : decode cX0_meansSameAs 107 = .ok (.ireturn, 1) := by decide +kernel
theorem dX0_meansSameAs_108 : decode cX0_meansSameAs 108 = .ok (.iinc 5 1, 3) := by decide +kernel
theorem dX0_meansSameAs_111 : decode cX0_meansSameAs 111 = .ok (.goto (-29), 3) := by decide +kernel
theorem dX0_meansSameAs_114 : decode cX0_meansSameAs 114 = .ok (.iconst 1, 1) := by decide +kernel
theorem dX0_meansSameAs_115 : decode cX0_meansSameAs 115 = .ok (.ireturn, 1) := by decide +kernel
theorem dX0_growth_0 : decode cX0_growth 0 = .ok (.aload_n 0, 1) := by decide +kernel
theorem dX0_growth_1 : decode cX0_growth 1 = .ok (.getfield 18, 3) := by decide +kernel
theorem dX0_growth_4 : decode cX0_growth 4 = .ok (.iconst 1, 1) := by decide +kernel
theorem dX0_growth_5 : decode cX0_growth 5 = .ok (.iaload, 1) := by decide +kernel
theorem dX0_growth_6 : decode cX0_growth 6 = .ok (.aload_n 0, 1) := by decide +kernel
theorem dX0_growth_7 : decode cX0_growth 7 = .ok (.getfield 18, 3) := by decide +kernel
theorem dX0_growth_10 : decode cX0_growth 10 = .ok (.iconst 0, 1) := by decide +kernel
theorem dX0_growth_11 : decode cX0_growth 11 = .ok (.iaload, 1) := by decide +kernel
theorem dX0_growth_12 : decode cX0_growth 12 = .ok (.isub, 1) := by decide +kernel
theorem dX0_growth_13 : decode cX0_growth 13 = .ok (.ireturn, 1) := by decide +kernel
theorem dX0_letterAfter_0 : decode cX0_letterAfter 0 = .ok (.iload_n 1, 1) := by decide +kernel
theorem dX0_letterAfter_1 : decode cX0_letterAfter 1 = .ok (.aload_n 0, 1) := by decide +kernel
theorem dX0_letterAfter_2 : decode cX0_letterAfter 2 = .ok (.getfield 52, 3) := by decide +kernel
theorem dX0_letterAfter_5 : decode cX0_letterAfter 5 = .ok (.if_icmp .ge 13, 3) := by decide +kernel
theorem dX0_letterAfter_8 : decode cX0_letterAfter 8 = .ok (.aload_n 2, 1) := by decide +kernel
theorem dX0_letterAfter_9 : decode cX0_letterAfter 9 = .ok (.aload_n 0, 1) := by decide +kernel
theorem dX0_letterAfter_10 : decode cX0_letterAfter 10 = .ok (.getfield 49, 3) := by decide +kernel
theorem dX0_letterAfter_13 : decode cX0_letterAfter 13 = .ok (.iload_n 1, 1) := by decide +kernel
theorem dX0_letterAfter_14 : decode cX0_letterAfter 14 = .ok (.invokevirtual 112, 3) := by decide +kernel
theorem dX0_letterAfter_17 : decode cX0_letterAfter 17 = .ok (.ireturn, 1) := by decide +kernel
theorem dX0_letterAfter_18 : decode cX0_letterAfter 18 = .ok (.iload_n 1, 1) := by decide +kernel
theorem dX0_letterAfter_19 : decode cX0_letterAfter 19 = .ok (.aload_n 0, 1) := by decide +kernel
theorem dX0_letterAfter_20 : decode cX0_letterAfter 20 = .ok (.getfield 52, 3) := by decide +kernel
theorem dX0_letterAfter_23 : decode cX0_letterAfter 23 = .ok (.aload_n 0, 1) := by decide +kernel
theorem dX0_letterAfter_24 : decode cX0_letterAfter 24 = .ok (.getfield 18, 3) := by decide +kernel
theorem dX0_letterAfter_27 : decode cX0_letterAfter 27 = .ok (.iconst 1, 1) := by decide +kernel
theorem dX0_letterAfter_28 : decode cX0_letterAfter 28 = .ok (.iaload, 1) := by decide +kernel
theorem dX0_letterAfter_29 : decode cX0_letterAfter 29 = .ok (.iadd, 1) := by decide +kernel
theorem dX0_letterAfter_30 : decode cX0_letterAfter 30 = .ok (.if_icmp .ge 15, 3) := by decide +kernel
theorem dX0_letterAfter_33 : decode cX0_letterAfter 33 = .ok (.aload_n 0, 1) := by decide +kernel
theorem dX0_letterAfter_34 : decode cX0_letterAfter 34 = .ok (.iconst 1, 1) := by decide +kernel
theorem dX0_letterAfter_35 : decode cX0_letterAfter 35 = .ok (.iload_n 1, 1) := by decide +kernel
theorem dX0_letterAfter_36 : decode cX0_letterAfter 36 = .ok (.aload_n 0, 1) := by decide +kernel
theorem dX0_letterAfter_37 : decode cX0_letterAfter 37 = .ok (.getfield 52, 3) := by decide +kernel
theorem dX0_letterAfter_40 : decode cX0_letterAfter 40 = .ok (.isub, 1) := by decide +kernel
theorem dX0_letterAfter_41 : decode cX0_letterAfter 41 = .ok (.invokevirtual 69, 3) := by decide +kernel
theorem dX0_letterAfter_44 : decode cX0_letterAfter 44 = .ok (.ireturn, 1) := by decide +kernel
theorem dX0_letterAfter_45 : decode cX0_letterAfter 45 = .ok (.aload_n 2, 1) := by decide +kernel
theorem dX0_letterAfter_46 : decode cX0_letterAfter 46 = .ok (.aload_n 0, 1) := by decide +kernel
theorem dX0_letterAfter_47 : decode cX0_letterAfter 47 = .ok (.getfield 49, 3) := by decide +kernel
theorem dX0_letterAfter_50 : decode cX0_letterAfter 50 = .ok (.iload_n 1, 1) := by decide +kernel
theorem dX0_letterAfter_51 : decode cX0_letterAfter 51 = .ok (.aload_n 0, 1) := by decide +kernel
theorem dX0_letterAfter_52 : decode cX0_letterAfter 52 = .ok (.invokevirtual 132, 3) := by decide +kernel
theorem dX0_letterAfter_55 : decode cX0_letterAfter 55 = .ok (.isub, 1) := by decide +kernel
theorem dX0_letterAfter_56 : decode cX0_letterAfter 56 = .ok (.invokevirtual 112, 3) := by decide +kernel
theorem dX0_letterAfter_59 : decode cX0_letterAfter 59 = .ok (.ireturn, 1) := by decide +kernel
theorem dX0_writeTo_0 : decode cX0_writeTo 0 = .ok (.aload_n 3, 1) := by decide +kernel
theorem dX0_writeTo_1 : decode cX0_writeTo 1 = .ok (.getfield 142, 3) := by decide +kernel
theorem dX0_writeTo_4 : decode cX0_writeTo 4 = .ok (.aload_n 0, 1) := by decide +kernel
theorem dX0_writeTo_5 : decode cX0_writeTo 5 = .ok (.getfield 49, 3) := by decide +kernel
theorem dX0_writeTo_8 : decode cX0_writeTo 8 = .ok (.aload_n 1, 1) := by decide +kernel
theorem dX0_writeTo_9 : decode cX0_writeTo 9 = .ok (.invokevirtual 146, 3) := by decide +kernel
theorem dX0_writeTo_12 : decode cX0_writeTo 12 = .ok (.aload_n 1, 1) := by decide +kernel
theorem dX0_writeTo_13 : decode cX0_writeTo 13 = .ok (.bipush 9, 2) := by decide +kernel
theorem dX0_writeTo_15 : decode cX0_writeTo 15 = .ok (.invokevirtual 152, 3) := by decide +kernel
theorem dX0_writeTo_18 : decode cX0_writeTo 18 = .ok (.aload_n 1, 1) := by decide +kernel
theorem dX0_writeTo_19 : decode cX0_writeTo 19 = .ok (.aload_n 0, 1) := by decide +kernel
theorem dX0_writeTo_20 : decode cX0_writeTo 20 = .ok (.getfield 52, 3) := by decide +kernel
theorem dX0_writeTo_23 : decode cX0_writeTo 23 = .ok (.invokevirtual 158, 3) := by decide +kernel
theorem dX0_writeTo_26 : decode cX0_writeTo 26 = .ok (.aload_n 1, 1) := by decide +kernel
theorem dX0_writeTo_27 : decode cX0_writeTo 27 = .ok (.bipush 9, 2) := by decide +kernel
theorem dX0_writeTo_29 : decode cX0_writeTo 29 = .ok (.invokevirtual 152, 3) := by decide +kernel
theorem dX0_writeTo_32 : decode cX0_writeTo 32 = .ok (.aload_n 0, 1) := by decide +kernel
theorem dX0_writeTo_33 : decode cX0_writeTo 33 = .ok (.getfield 62, 3) := by decide +kernel
theorem dX0_writeTo_36 : decode cX0_writeTo 36 = .ok (.ifCond .ne 9, 3) := by decide +kernel
theorem dX0_writeTo_39 : decode cX0_writeTo 39 = .ok (.aload_n 1, 1) := by decide +kernel
theorem dX0_writeTo_40 : decode cX0_writeTo 40 = .ok (.bipush 46, 2) := by decide +kernel
theorem dX0_writeTo_42 : decode cX0_writeTo 42 = .ok (.invokevirtual 152, 3) := by decide +kernel
theorem dX0_writeTo_45 : decode cX0_writeTo 45 = .ok (.aload_n 1, 1) := by decide +kernel
theorem dX0_writeTo_46 : decode cX0_writeTo 46 = .ok (.aload_n 0, 1) := by decide +kernel
theorem dX0_writeTo_47 : decode cX0_writeTo 47 = .ok (.getfield 9, 3) := by decide +kernel
theorem dX0_writeTo_50 : decode cX0_writeTo 50 = .ok (.iconst 0, 1) := by decide +kernel
theorem dX0_writeTo_51 : decode cX0_writeTo 51 = .ok (.aload_n 0, 1) := by decide +kernel
theorem dX0_writeTo_52 : decode cX0_writeTo 52 = .ok (.getfield 62, 3) := by decide +kernel
theorem dX0_writeTo_55 : decode cX0_writeTo 55 = .ok (.invokevirtual 161, 3) := by decide +kernel
theorem dX0_writeTo_58 : decode cX0_writeTo 58 = .ok (.aload_n 1, 1) := by decide +kernel
theorem dX0_writeTo_59 : decode cX0_writeTo 59 = .ok (.bipush 9, 2) := by decide +kernel
theorem dX0_writeTo_61 : decode cX0_writeTo 61 = .ok (.invokevirtual 152, 3) := by decide +kernel
theorem dX0_writeTo_64 : decode cX0_writeTo 64 = .ok (.aload_n 0, 1) := by decide +kernel
theorem dX0_writeTo_65 : decode cX0_writeTo 65 = .ok (.iconst 0, 1) := by decide +kernel
theorem dX0_writeTo_66 : decode cX0_writeTo 66 = .ok (.aload_n 1, 1) := by decide +kernel
theorem dX0_writeTo_67 : decode cX0_writeTo 67 = .ok (.invokevirtual 165, 3) := by decide +kernel
theorem dX0_writeTo_70 : decode cX0_writeTo 70 = .ok (.aload_n 1, 1) := by decide +kernel
theorem dX0_writeTo_71 : decode cX0_writeTo 71 = .ok (.bipush 9, 2) := by decide +kernel
theorem dX0_writeTo_73 : decode cX0_writeTo 73 = .ok (.invokevirtual 152, 3) := by decide +kernel
theorem dX0_writeTo_76 : decode cX0_writeTo 76 = .ok (.aload_n 0, 1) := by decide +kernel
theorem dX0_writeTo_77 : decode cX0_writeTo 77 = .ok (.aload_n 1, 1) := by decide +kernel
theorem dX0_writeTo_78 : decode cX0_writeTo 78 = .ok (.invokevirtual 168, 3) := by decide +kernel
theorem dX0_writeTo_81 : decode cX0_writeTo 81 = .ok (.aload_n 1, 1) := by decide +kernel
theorem dX0_writeTo_82 : decode cX0_writeTo 82 = .ok (.bipush 9, 2) := by decide +kernel
theorem dX0_writeTo_84 : decode cX0_writeTo 84 = .ok (.invokevirtual 152, 3) := by decide +kernel
theorem dX0_writeTo_87 : decode cX0_writeTo 87 = .ok (.aload_n 1, 1) := by decide +kernel
theorem dX0_writeTo_88 : decode cX0_writeTo 88 = .ok (.aload_n 0, 1) := by decide +kernel
theorem dX0_writeTo_89 : decode cX0_writeTo 89 = .ok (.getfield 55, 3) := by decide +kernel
theorem dX0_writeTo_92 : decode cX0_writeTo 92 = .ok (.invokevirtual 172, 3) := by decide +kernel
theorem dX0_writeTo_95 : decode cX0_writeTo 95 = .ok (.aload_n 1, 1) := by decide +kernel
theorem dX0_writeTo_96 : decode cX0_writeTo 96 = .ok (.bipush 9, 2) := by decide +kernel
theorem dX0_writeTo_98 : decode cX0_writeTo 98 = .ok (.invokevirtual 152, 3) := by decide +kernel
theorem dX0_writeTo_101 : decode cX0_writeTo 101 = .ok (.aload_n 1, 1) := by decide +kernel
theorem dX0_writeTo_102 : decode cX0_writeTo 102 = .ok (.aload_n 0, 1) := by decide +kernel
theorem dX0_writeTo_103 : decode cX0_writeTo 103 = .ok (.getfield 58, 3) := by decide +kernel
theorem dX0_writeTo_106 : decode cX0_writeTo 106 = .ok (.ifCond .eq 8, 3) := by decide +kernel
theorem dX0_writeTo_109 : decode cX0_writeTo 109 = .ok (.ldc 175, 2) := by decide +kernel
theorem dX0_writeTo_111 : decode cX0_writeTo 111 = .ok (.goto 5, 3) := by decide +kernel
theorem dX0_writeTo_114 : decode cX0_writeTo 114 = .ok (.ldc 177, 2) := by decide +kernel
theorem dX0_writeTo_116 : decode cX0_writeTo 116 = .ok (.invokevirtual 179, 3) := by decide +kernel
theorem dX0_writeTo_119 : decode cX0_writeTo 119 = .ok (.aload_n 1, 1) := by decide +kernel
theorem dX0_writeTo_120 : decode cX0_writeTo 120 = .ok (.bipush 9, 2) := by decide +kernel
theorem dX0_writeTo_122 : decode cX0_writeTo 122 = .ok (.invokevirtual 152, 3) := by decide +kernel
theorem dX0_writeTo_125 : decode cX0_writeTo 125 = .ok (.aload_n 1, 1) := by decide +kernel
theorem dX0_writeTo_126 : decode cX0_writeTo 126 = .ok (.bipush 46, 2) := by decide +kernel
theorem dX0_writeTo_128 : decode cX0_writeTo 128 = .ok (.invokevirtual 152, 3) := by decide +kernel
theorem dX0_writeTo_131 : decode cX0_writeTo 131 = .ok (.iload_n 2, 1) := by decide +kernel
theorem dX0_writeTo_132 : decode cX0_writeTo 132 = .ok (.ifCond .le 15, 3) := by decide +kernel
theorem dX0_writeTo_135 : decode cX0_writeTo 135 = .ok (.aload_n 1, 1) := by decide +kernel
theorem dX0_writeTo_136 : decode cX0_writeTo 136 = .ok (.bipush 9, 2) := by decide +kernel
theorem dX0_writeTo_138 : decode cX0_writeTo 138 = .ok (.invokevirtual 152, 3) := by decide +kernel
theorem dX0_writeTo_141 : decode cX0_writeTo 141 = .ok (.aload_n 1, 1) := by decide +kernel
theorem dX0_writeTo_142 : decode cX0_writeTo 142 = .ok (.ldc 183, 2) := by decide +kernel
theorem dX0_writeTo_144 : decode cX0_writeTo 144 = .ok (.invokevirtual 179, 3) := by decide +kernel
theorem dX0_writeTo_147 : decode cX0_writeTo 147 = .ok (.iconst 0, 1) := by decide +kernel
theorem dX0_writeTo_148 : decode cX0_writeTo 148 = .ok (.istore 4, 2) := by decide +kernel
theorem dX0_writeTo_150 : decode cX0_writeTo 150 = .ok (.iload 4, 2) := by decide +kernel
theorem dX0_writeTo_152 : decode cX0_writeTo 152 = .ok (.iload_n 2, 1) := by decide +kernel
theorem dX0_writeTo_153 : decode cX0_writeTo 153 = .ok (.if_icmp .ge 22, 3) := by decide +kernel
theorem dX0_writeTo_156 : decode cX0_writeTo 156 = .ok (.aload_n 1, 1) := by decide +kernel
theorem dX0_writeTo_157 : decode cX0_writeTo 157 = .ok (.bipush 9, 2) := by decide +kernel
theorem dX0_writeTo_159 : decode cX0_writeTo 159 = .ok (.invokevirtual 152, 3) := by decide +kernel
theorem dX0_writeTo_162 : decode cX0_writeTo 162 = .ok (.aload_n 0, 1) := by decide +kernel
theorem dX0_writeTo_163 : decode cX0_writeTo 163 = .ok (.iload 4, 2) := by decide +kernel
theorem dX0_writeTo_165 : decode cX0_writeTo 165 = .ok (.aload_n 1, 1) := by decide +kernel
theorem dX0_writeTo_166 : decode cX0_writeTo 166 = .ok (.invokevirtual 185, 3) := by decide +kernel
theorem dX0_writeTo_169 : decode cX0_writeTo 169 = .ok (.iinc 4 1, 3) := by decide +kernel
theorem dX0_writeTo_172 : decode cX0_writeTo 172 = .ok (.goto (-22), 3) := by decide +kernel
theorem dX0_writeTo_175 : decode cX0_writeTo 175 = .ok (.aload_n 1, 1) := by decide +kernel
theorem dX0_writeTo_176 : decode cX0_writeTo 176 = .ok (.bipush 10, 2) := by decide +kernel
theorem dX0_writeTo_178 : decode cX0_writeTo 178 = .ok (.invokevirtual 152, 3) := by decide +kernel
theorem dX0_writeTo_181 : decode cX0_writeTo 181 = .ok (.return_, 1) := by decide +kernel
theorem dX0_writeRow_0 : decode cX0_writeRow 0 = .ok (.aload_n 2, 1) := by decide +kernel
theorem dX0_writeRow_1 : decode cX0_writeRow 1 = .ok (.aload_n 0, 1) := by decide +kernel
theorem dX0_writeRow_2 : decode cX0_writeRow 2 = .ok (.getfield 15, 3) := by decide +kernel
theorem dX0_writeRow_5 : decode cX0_writeRow 5 = .ok (.iload_n 1, 1) := by decide +kernel
theorem dX0_writeRow_6 : decode cX0_writeRow 6 = .ok (.bipush 24, 2) := by decide +kernel
theorem dX0_writeRow_8 : decode cX0_writeRow 8 = .ok (.imul, 1) := by decide +kernel
theorem dX0_writeRow_9 : decode cX0_writeRow 9 = .ok (.aload_n 0, 1) := by decide +kernel
theorem dX0_writeRow_10 : decode cX0_writeRow 10 = .ok (.getfield 18, 3) := by decide +kernel
theorem dX0_writeRow_13 : decode cX0_writeRow 13 = .ok (.iload_n 1, 1) := by decide +kernel
theorem dX0_writeRow_14 : decode cX0_writeRow 14 = .ok (.iaload, 1) := by decide +kernel
theorem dX0_writeRow_15 : decode cX0_writeRow 15 = .ok (.invokevirtual 161, 3) := by decide +kernel
theorem dX0_writeRow_18 : decode cX0_writeRow 18 = .ok (.return_, 1) := by decide +kernel
theorem dX0_writeAlts_0 : decode cX0_writeAlts 0 = .ok (.aload_n 0, 1) := by decide +kernel
theorem dX0_writeAlts_1 : decode cX0_writeAlts 1 = .ok (.invokevirtual 77, 3) := by decide +kernel
theorem dX0_writeAlts_4 : decode cX0_writeAlts 4 = .ok (.ifCond .ne 9, 3) := by decide +kernel
theorem dX0_writeAlts_7 : decode cX0_writeAlts 7 = .ok (.aload_n 1, 1) := by decide +kernel
theorem dX0_writeAlts_8 : decode cX0_writeAlts 8 = .ok (.bipush 46, 2) := by decide +kernel
theorem dX0_writeAlts_10 : decode cX0_writeAlts 10 = .ok (.invokevirtual 152, 3) := by decide +kernel
theorem dX0_writeAlts_13 : decode cX0_writeAlts 13 = .ok (.iconst 1, 1) := by decide +kernel
theorem dX0_writeAlts_14 : decode cX0_writeAlts 14 = .ok (.istore_n 2, 1) := by decide +kernel
theorem dX0_writeAlts_15 : decode cX0_writeAlts 15 = .ok (.iload_n 2, 1) := by decide +kernel
theorem dX0_writeAlts_16 : decode cX0_writeAlts 16 = .ok (.aload_n 0, 1) := by decide +kernel
theorem dX0_writeAlts_17 : decode cX0_writeAlts 17 = .ok (.getfield 41, 3) := by decide +kernel
theorem dX0_writeAlts_20 : decode cX0_writeAlts 20 = .ok (.if_icmp .ge 26, 3) := by decide +kernel
theorem dX0_writeAlts_23 : decode cX0_writeAlts 23 = .ok (.iload_n 2, 1) := by decide +kernel
theorem dX0_writeAlts_24 : decode cX0_writeAlts 24 = .ok (.iconst 1, 1) := by decide +kernel
theorem dX0_writeAlts_25 : decode cX0_writeAlts 25 = .ok (.if_icmp .le 9, 3) := by decide +kernel
theorem dX0_writeAlts_28 : decode cX0_writeAlts 28 = .ok (.aload_n 1, 1) := by decide +kernel
theorem dX0_writeAlts_29 : decode cX0_writeAlts 29 = .ok (.bipush 44, 2) := by decide +kernel
theorem dX0_writeAlts_31 : decode cX0_writeAlts 31 = .ok (.invokevirtual 152, 3) := by decide +kernel
theorem dX0_writeAlts_34 : decode cX0_writeAlts 34 = .ok (.aload_n 0, 1) := by decide +kernel
theorem dX0_writeAlts_35 : decode cX0_writeAlts 35 = .ok (.iload_n 2, 1) := by decide +kernel
theorem dX0_writeAlts_36 : decode cX0_writeAlts 36 = .ok (.aload_n 1, 1) := by decide +kernel
theorem dX0_writeAlts_37 : decode cX0_writeAlts 37 = .ok (.invokevirtual 165, 3) := by decide +kernel
theorem dX0_writeAlts_40 : decode cX0_writeAlts 40 = .ok (.iinc 2 1, 3) := by decide +kernel
theorem dX0_writeAlts_43 : decode cX0_writeAlts 43 = .ok (.goto (-28), 3) := by decide +kernel
theorem dX0_writeAlts_46 : decode cX0_writeAlts 46 = .ok (.return_, 1) := by decide +kernel
theorem dX0_writeCalls_0 : decode cX0_writeCalls 0 = .ok (.iconst 0, 1) := by decide +kernel
theorem dX0_writeCalls_1 : decode cX0_writeCalls 1 = .ok (.istore_n 3, 1) := by decide +kernel
theorem dX0_writeCalls_2 : decode cX0_writeCalls 2 = .ok (.iload_n 3, 1) := by decide +kernel
theorem dX0_writeCalls_3 : decode cX0_writeCalls 3 = .ok (.aload_n 0, 1) := by decide +kernel
theorem dX0_writeCalls_4 : decode cX0_writeCalls 4 = .ok (.getfield 24, 3) := by decide +kernel
theorem dX0_writeCalls_7 : decode cX0_writeCalls 7 = .ok (.iload_n 1, 1) := by decide +kernel
theorem dX0_writeCalls_8 : decode cX0_writeCalls 8 = .ok (.iaload, 1) := by decide +kernel
theorem dX0_writeCalls_9 : decode cX0_writeCalls 9 = .ok (.if_icmp .ge 43, 3) := by decide +kernel
theorem dX0_writeCalls_12 : decode cX0_writeCalls 12 = .ok (.iload_n 3, 1) := by decide +kernel
theorem dX0_writeCalls_13 : decode cX0_writeCalls 13 = .ok (.ifCond .le 23, 3) := by decide +kernel
theorem dX0_writeCalls_16 : decode cX0_writeCalls 16 = .ok (.aload_n 2, 1) := by decide +kernel
theorem dX0_writeCalls_17 : decode cX0_writeCalls 17 = .ok (.aload_n 0, 1) := by decide +kernel
theorem dX0_writeCalls_18 : decode cX0_writeCalls 18 = .ok (.getfield 27, 3) := by decide +kernel
theorem dX0_writeCalls_21 : decode cX0_writeCalls 21 = .ok (.iload_n 1, 1) := by decide +kernel
theorem dX0_writeCalls_22 : decode cX0_writeCalls 22 = .ok (.baload, 1) := by decide +kernel
theorem dX0_writeCalls_23 : decode cX0_writeCalls 23 = .ok (.ifCond .eq 8, 3) := by decide +kernel
theorem dX0_writeCalls_26 : decode cX0_writeCalls 26 = .ok (.bipush 124, 2) := by decide +kernel
theorem dX0_writeCalls_28 : decode cX0_writeCalls 28 = .ok (.goto 5, 3) := by decide +kernel
theorem dX0_writeCalls_31 : decode cX0_writeCalls 31 = .ok (.bipush 47, 2) := by decide +kernel
theorem dX0_writeCalls_33 : decode cX0_writeCalls 33 = .ok (.invokevirtual 152, 3) := by decide +kernel
theorem dX0_writeCalls_36 : decode cX0_writeCalls 36 = .ok (.aload_n 2, 1) := by decide +kernel
theorem dX0_writeCalls_37 : decode cX0_writeCalls 37 = .ok (.aload_n 0, 1) := by decide +kernel
theorem dX0_writeCalls_38 : decode cX0_writeCalls 38 = .ok (.iload_n 1, 1) := by decide +kernel
theorem dX0_writeCalls_39 : decode cX0_writeCalls 39 = .ok (.iload_n 3, 1) := by decide +kernel
theorem dX0_writeCalls_40 : decode cX0_writeCalls 40 = .ok (.invokevirtual 129, 3) := by decide +kernel
theorem dX0_writeCalls_43 : decode cX0_writeCalls 43 = .ok (.invokevirtual 172, 3) := by decide +kernel
theorem dX0_writeCalls_46 : decode cX0_writeCalls 46 = .ok (.iinc 3 1, 3) := by decide +kernel
theorem dX0_writeCalls_49 : decode cX0_writeCalls 49 = .ok (.goto (-47), 3) := by decide +kernel
theorem dX0_writeCalls_52 : decode cX0_writeCalls 52 = .ok (.return_, 1) := by decide +kernel
theorem dX1_init_0 : decode cX1_init 0 = .ok (.aload_n 0, 1) := by decide +kernel
theorem dX1_init_1 : decode cX1_init 1 = .ok (.invokespecial 3, 3) := by decide +kernel
theorem dX1_init_4 : decode cX1_init 4 = .ok (.aload_n 0, 1) := by decide +kernel
theorem dX1_init_5 : decode cX1_init 5 = .ok (.new 9, 3) := by decide +kernel
theorem dX1_init_8 : decode cX1_init 8 = .ok (.dup, 1) := by decide +kernel
theorem dX1_init_9 : decode cX1_init 9 = .ok (.bipush 8, 2) := by decide +kernel
theorem dX1_init_11 : decode cX1_init 11 = .ok (.invokespecial 11, 3) := by decide +kernel
theorem dX1_init_14 : decode cX1_init 14 = .ok (.putfield 14, 3) := by decide +kernel
theorem dX1_init_17 : decode cX1_init 17 = .ok (.aload_n 0, 1) := by decide +kernel
theorem dX1_init_18 : decode cX1_init 18 = .ok (.sipush 3000, 3) := by decide +kernel
theorem dX1_init_21 : decode cX1_init 21 = .ok (.newarray .int, 2) := by decide +kernel
theorem dX1_init_23 : decode cX1_init 23 = .ok (.putfield 20, 3) := by decide +kernel
theorem dX1_init_26 : decode cX1_init 26 = .ok (.aload_n 0, 1) := by decide +kernel
theorem dX1_init_27 : decode cX1_init 27 = .ok (.bipush 8, 2) := by decide +kernel
theorem dX1_init_29 : decode cX1_init 29 = .ok (.newarray .int, 2) := by decide +kernel
theorem dX1_init_31 : decode cX1_init 31 = .ok (.putfield 24, 3) := by decide +kernel
theorem dX1_init_34 : decode cX1_init 34 = .ok (.aload_n 0, 1) := by decide +kernel
theorem dX1_init_35 : decode cX1_init 35 = .ok (.bipush 8, 2) := by decide +kernel
theorem dX1_init_37 : decode cX1_init 37 = .ok (.newarray .int, 2) := by decide +kernel
theorem dX1_init_39 : decode cX1_init 39 = .ok (.putfield 27, 3) := by decide +kernel
theorem dX1_init_42 : decode cX1_init 42 = .ok (.aload_n 0, 1) := by decide +kernel
theorem dX1_init_43 : decode cX1_init 43 = .ok (.bipush 8, 2) := by decide +kernel
theorem dX1_init_45 : decode cX1_init 45 = .ok (.newarray .int, 2) := by decide +kernel
theorem dX1_init_47 : decode cX1_init 47 = .ok (.putfield 30, 3) := by decide +kernel
theorem dX1_init_50 : decode cX1_init 50 = .ok (.aload_n 0, 1) := by decide +kernel
theorem dX1_init_51 : decode cX1_init 51 = .ok (.bipush 8, 2) := by decide +kernel
theorem dX1_init_53 : decode cX1_init 53 = .ok (.newarray .int, 2) := by decide +kernel
theorem dX1_init_55 : decode cX1_init 55 = .ok (.putfield 33, 3) := by decide +kernel
theorem dX1_init_58 : decode cX1_init 58 = .ok (.return_, 1) := by decide +kernel
theorem dX1_clear_0 : decode cX1_clear 0 = .ok (.aload_n 0, 1) := by decide +kernel
theorem dX1_clear_1 : decode cX1_clear 1 = .ok (.getfield 14, 3) := by decide +kernel
theorem dX1_clear_4 : decode cX1_clear 4 = .ok (.invokevirtual 36, 3) := by decide +kernel
theorem dX1_clear_7 : decode cX1_clear 7 = .ok (.aload_n 0, 1) := by decide +kernel
theorem dX1_clear_8 : decode cX1_clear 8 = .ok (.iconst 0, 1) := by decide +kernel
theorem dX1_clear_9 : decode cX1_clear 9 = .ok (.putfield 39, 3) := by decide +kernel
theorem dX1_clear_12 : decode cX1_clear 12 = .ok (.aload_n 0, 1) := by decide +kernel
theorem dX1_clear_13 : decode cX1_clear 13 = .ok (.iconst 0, 1) := by decide +kernel
theorem dX1_clear_14 : decode cX1_clear 14 = .ok (.putfield 43, 3) := by decide +kernel
theorem dX1_clear_17 : decode cX1_clear 17 = .ok (.return_, 1) := by decide +kernel
theorem dX1_open_0 : decode cX1_open 0 = .ok (.aload_n 0, 1) := by decide +kernel
theorem dX1_open_1 : decode cX1_open 1 = .ok (.getfield 39, 3) := by decide +kernel
theorem dX1_open_4 : decode cX1_open 4 = .ok (.bipush 8, 2) := by decide +kernel
theorem dX1_open_6 : decode cX1_open 6 = .ok (.if_icmp .ge 63, 3) := by decide +kernel
theorem dX1_open_9 : decode cX1_open 9 = .ok (.aload_n 0, 1) := by decide +kernel
theorem dX1_open_10 : decode cX1_open 10 = .ok (.getfield 14, 3) := by decide +kernel
theorem dX1_open_13 : decode cX1_open 13 = .ok (.invokevirtual 46, 3) := by decide +kernel
theorem dX1_open_16 : decode cX1_open 16 = .ok (.aload_n 0, 1) := by decide +kernel
theorem dX1_open_17 : decode cX1_open 17 = .ok (.getfield 24, 3) := by decide +kernel
theorem dX1_open_20 : decode cX1_open 20 = .ok (.aload_n 0, 1) := by decide +kernel
theorem dX1_open_21 : decode cX1_open 21 = .ok (.getfield 39, 3) := by decide +kernel
theorem dX1_open_24 : decode cX1_open 24 = .ok (.aload_n 0, 1) := by decide +kernel
theorem dX1_open_25 : decode cX1_open 25 = .ok (.getfield 43, 3) := by decide +kernel
theorem dX1_open_28 : decode cX1_open 28 = .ok (.iastore, 1) := by decide +kernel
theorem dX1_open_29 : decode cX1_open 29 = .ok (.aload_n 0, 1) := by decide +kernel
theorem dX1_open_30 : decode cX1_open 30 = .ok (.getfield 27, 3) := by decide +kernel
theorem dX1_open_33 : decode cX1_open 33 = .ok (.aload_n 0, 1) := by decide +kernel
theorem dX1_open_34 : decode cX1_open 34 = .ok (.getfield 39, 3) := by decide +kernel
theorem dX1_open_37 : decode cX1_open 37 = .ok (.iconst 0, 1) := by decide +kernel
theorem dX1_open_38 : decode cX1_open 38 = .ok (.iastore, 1) := by decide +kernel
theorem dX1_open_39 : decode cX1_open 39 = .ok (.aload_n 0, 1) := by decide +kernel
theorem dX1_open_40 : decode cX1_open 40 = .ok (.getfield 30, 3) := by decide +kernel
theorem dX1_open_43 : decode cX1_open 43 = .ok (.aload_n 0, 1) := by decide +kernel
theorem dX1_open_44 : decode cX1_open 44 = .ok (.getfield 39, 3) := by decide +kernel
theorem dX1_open_47 : decode cX1_open 47 = .ok (.iconst 0, 1) := by decide +kernel
theorem dX1_open_48 : decode cX1_open 48 = .ok (.iastore, 1) := by decide +kernel
theorem dX1_open_49 : decode cX1_open 49 = .ok (.aload_n 0, 1) := by decide +kernel
theorem dX1_open_50 : decode cX1_open 50 = .ok (.getfield 33, 3) := by decide +kernel
theorem dX1_open_53 : decode cX1_open 53 = .ok (.aload_n 0, 1) := by decide +kernel
theorem dX1_open_54 : decode cX1_open 54 = .ok (.getfield 39, 3) := by decide +kernel
theorem dX1_open_57 : decode cX1_open 57 = .ok (.iconst (-1), 1) := by decide +kernel
theorem dX1_open_58 : decode cX1_open 58 = .ok (.iastore, 1) := by decide +kernel
theorem dX1_open_59 : decode cX1_open 59 = .ok (.aload_n 0, 1) := by decide +kernel
theorem dX1_open_60 : decode cX1_open 60 = .ok (.dup, 1) := by decide +kernel
theorem dX1_open_61 : decode cX1_open 61 = .ok (.getfield 39, 3) := by decide +kernel
theorem dX1_open_64 : decode cX1_open 64 = .ok (.iconst 1, 1) := by decide +kernel
theorem dX1_open_65 : decode cX1_open 65 = .ok (.iadd, 1) := by decide +kernel
theorem dX1_open_66 : decode cX1_open 66 = .ok (.putfield 39, 3) := by decide +kernel
theorem dX1_open_69 : decode cX1_open 69 = .ok (.return_, 1) := by decide +kernel
theorem dX1_addLetter_0 : decode cX1_addLetter 0 = .ok (.aload_n 0, 1) := by decide +kernel
theorem dX1_addLetter_1 : decode cX1_addLetter 1 = .ok (.getfield 39, 3) := by decide +kernel
theorem dX1_addLetter_4 : decode cX1_addLetter 4 = .ok (.iconst 1, 1) := by decide +kernel
theorem dX1_addLetter_5 : decode cX1_addLetter 5 = .ok (.isub, 1) := by decide +kernel
theorem dX1_addLetter_6 : decode cX1_addLetter 6 = .ok (.istore_n 3, 1) := by decide +kernel
theorem dX1_addLetter_7 : decode cX1_addLetter 7 = .ok (.iload_n 3, 1) := by decide +kernel
theorem dX1_addLetter_8 : decode cX1_addLetter 8 = .ok (.ifCond .lt 59, 3) := by decide +kernel
theorem dX1_addLetter_11 : decode cX1_addLetter 11 = .ok (.aload_n 0, 1) := by decide +kernel
theorem dX1_addLetter_12 : decode cX1_addLetter 12 = .ok (.getfield 43, 3) := by decide +kernel
theorem dX1_addLetter_15 : decode cX1_addLetter 15 = .ok (.sipush 3000, 3) := by decide +kernel
theorem dX1_addLetter_18 : decode cX1_addLetter 18 = .ok (.if_icmp .ge 49, 3) := by decide +kernel
theorem dX1_addLetter_21 : decode cX1_addLetter 21 = .ok (.aload_n 0, 1) := by decide +kernel
theorem dX1_addLetter_22 : decode cX1_addLetter 22 = .ok (.getfield 27, 3) := by decide +kernel
theorem dX1_addLetter_25 : decode cX1_addLetter 25 = .ok (.iload_n 3, 1) := by decide +kernel
theorem dX1_addLetter_26 : decode cX1_addLetter 26 = .ok (.iaload, 1) := by decide +kernel
theorem dX1_addLetter_27 : decode cX1_addLetter 27 = .ok (.ifCond .ne 10, 3) := by decide +kernel
theorem dX1_addLetter_30 : decode cX1_addLetter 30 = .ok (.aload_n 0, 1) := by decide +kernel
theorem dX1_addLetter_31 : decode cX1_addLetter 31 = .ok (.getfield 33, 3) := by decide +kernel
theorem dX1_addLetter_34 : decode cX1_addLetter 34 = .ok (.iload_n 3, 1) := by decide +kernel
theorem dX1_addLetter_35 : decode cX1_addLetter 35 = .ok (.iload_n 2, 1) := by decide +kernel
theorem dX1_addLetter_36 : decode cX1_addLetter 36 = .ok (.iastore, 1) := by decide +kernel
theorem dX1_addLetter_37 : decode cX1_addLetter 37 = .ok (.aload_n 0, 1) := by decide +kernel
theorem dX1_addLetter_38 : decode cX1_addLetter 38 = .ok (.getfield 20, 3) := by decide +kernel
theorem dX1_addLetter_41 : decode cX1_addLetter 41 = .ok (.aload_n 0, 1) := by decide +kernel
theorem dX1_addLetter_42 : decode cX1_addLetter 42 = .ok (.getfield 43, 3) := by decide +kernel
theorem dX1_addLetter_45 : decode cX1_addLetter 45 = .ok (.iload_n 1, 1) := by decide +kernel
theorem dX1_addLetter_46 : decode cX1_addLetter 46 = .ok (.iastore, 1) := by decide +kernel
theorem dX1_addLetter_47 : decode cX1_addLetter 47 = .ok (.aload_n 0, 1) := by decide +kernel
theorem dX1_addLetter_48 : decode cX1_addLetter 48 = .ok (.dup, 1) := by decide +kernel
theorem dX1_addLetter_49 : decode cX1_addLetter 49 = .ok (.getfield 43, 3) := by decide +kernel
theorem dX1_addLetter_52 : decode cX1_addLetter 52 = .ok (.iconst 1, 1) := by decide +kernel
theorem dX1_addLetter_53 : decode cX1_addLetter 53 = .ok (.iadd, 1) := by decide +kernel
theorem dX1_addLetter_54 : decode cX1_addLetter 54 = .ok (.putfield 43, 3) := by decide +kernel
theorem dX1_addLetter_57 : decode cX1_addLetter 57 = .ok (.aload_n 0, 1) := by decide +kernel
theorem dX1_addLetter_58 : decode cX1_addLetter 58 = .ok (.getfield 27, 3) := by decide +kernel
theorem dX1_addLetter_61 : decode cX1_addLetter 61 = .ok (.iload_n 3, 1) := by decide +kernel
theorem dX1_addLetter_62 : decode cX1_addLetter 62 = .ok (.dup2, 1) := by decide +kernel
theorem dX1_addLetter_63 : decode cX1_addLetter 63 = .ok (.iaload, 1) := by decide +kernel
theorem dX1_addLetter_64 : decode cX1_addLetter 64 = .ok (.iconst 1, 1) := by decide +kernel
theorem dX1_addLetter_65 : decode cX1_addLetter 65 = .ok (.iadd, 1) := by decide +kernel
theorem dX1_addLetter_66 : decode cX1_addLetter 66 = .ok (.iastore, 1) := by decide +kernel
theorem dX1_addLetter_67 : decode cX1_addLetter 67 = .ok (.return_, 1) := by decide +kernel
theorem dX1_setWidth_0 : decode cX1_setWidth 0 = .ok (.aload_n 0, 1) := by decide +kernel
theorem dX1_setWidth_1 : decode cX1_setWidth 1 = .ok (.getfield 39, 3) := by decide +kernel
theorem dX1_setWidth_4 : decode cX1_setWidth 4 = .ok (.ifCond .le 15, 3) := by decide +kernel
theorem dX1_setWidth_7 : decode cX1_setWidth 7 = .ok (.aload_n 0, 1) := by decide +kernel
theorem dX1_setWidth_8 : decode cX1_setWidth 8 = .ok (.getfield 30, 3) := by decide +kernel
theorem dX1_setWidth_11 : decode cX1_setWidth 11 = .ok (.aload_n 0, 1) := by decide +kernel
theorem dX1_setWidth_12 : decode cX1_setWidth 12 = .ok (.getfield 39, 3) := by decide +kernel
theorem dX1_setWidth_15 : decode cX1_setWidth 15 = .ok (.iconst 1, 1) := by decide +kernel
theorem dX1_setWidth_16 : decode cX1_setWidth 16 = .ok (.isub, 1) := by decide +kernel
theorem dX1_setWidth_17 : decode cX1_setWidth 17 = .ok (.iload_n 1, 1) := by decide +kernel
theorem dX1_setWidth_18 : decode cX1_setWidth 18 = .ok (.iastore, 1) := by decide +kernel
theorem dX1_setWidth_19 : decode cX1_setWidth 19 = .ok (.return_, 1) := by decide +kernel
theorem dX1_has_0 : decode cX1_has 0 = .ok (.iload_n 1, 1) := by decide +kernel
theorem dX1_has_1 : decode cX1_has 1 = .ok (.ifCond .lt 15, 3) := by decide +kernel
theorem dX1_has_4 : decode cX1_has 4 = .ok (.iload_n 1, 1) := by decide +kernel
theorem dX1_has_5 : decode cX1_has 5 = .ok (.aload_n 0, 1) := by decide +kernel
theorem dX1_has_6 : decode cX1_has 6 = .ok (.getfield 39, 3) := by decide +kernel
theorem dX1_has_9 : decode cX1_has 9 = .ok (.if_icmp .ge 7, 3) := by decide +kernel
theorem dX1_has_12 : decode cX1_has 12 = .ok (.iconst 1, 1) := by decide +kernel
theorem dX1_has_13 : decode cX1_has 13 = .ok (.goto 4, 3) := by decide +kernel
theorem dX1_has_16 : decode cX1_has 16 = .ok (.iconst 0, 1) := by decide +kernel
theorem dX1_has_17 : decode cX1_has 17 = .ok (.ireturn, 1) := by decide +kernel
theorem dX1_sizeOf_0 : decode cX1_sizeOf 0 = .ok (.aload_n 0, 1) := by decide +kernel
theorem dX1_sizeOf_1 : decode cX1_sizeOf 1 = .ok (.iload_n 1, 1) := by decide +kernel
theorem dX1_sizeOf_2 : decode cX1_sizeOf 2 = .ok (.invokevirtual 49, 3) := by decide +kernel
theorem dX1_sizeOf_5 : decode cX1_sizeOf 5 = .ok (.ifCond .eq 12, 3) := by decide +kernel
theorem dX1_sizeOf_8 : decode cX1_sizeOf 8 = .ok (.aload_n 0, 1) := by decide +kernel
theorem dX1_sizeOf_9 : decode cX1_sizeOf 9 = .ok (.getfield 27, 3) := by decide +kernel
theorem dX1_sizeOf_12 : decode cX1_sizeOf 12 = .ok (.iload_n 1, 1) := by decide +kernel
theorem dX1_sizeOf_13 : decode cX1_sizeOf 13 = .ok (.iaload, 1) := by decide +kernel
theorem dX1_sizeOf_14 : decode cX1_sizeOf 14 = .ok (.goto 4, 3) := by decide +kernel
theorem dX1_sizeOf_17 : decode cX1_sizeOf 17 = .ok (.iconst 0, 1) := by decide +kernel
theorem dX1_sizeOf_18 : decode cX1_sizeOf 18 = .ok (.ireturn, 1) := by decide +kernel
theorem dX1_letterAt_0 : decode cX1_letterAt 0 = .ok (.aload_n 0, 1) := by decide +kernel
theorem dX1_letterAt_1 : decode cX1_letterAt 1 = .ok (.iload_n 1, 1) := by decide +kernel
theorem dX1_letterAt_2 : decode cX1_letterAt 2 = .ok (.invokevirtual 49, 3) := by decide +kernel
theorem dX1_letterAt_5 : decode cX1_letterAt 5 = .ok (.ifCond .eq 36, 3) := by decide +kernel
theorem dX1_letterAt_8 : decode cX1_letterAt 8 = .ok (.iload_n 2, 1) := by decide +kernel
theorem dX1_letterAt_9 : decode cX1_letterAt 9 = .ok (.iconst 1, 1) := by decide +kernel
theorem dX1_letterAt_10 : decode cX1_letterAt 10 = .ok (.if_icmp .lt 31, 3) := by decide +kernel
theorem dX1_letterAt_13 : decode cX1_letterAt 13 = .ok (.iload_n 2, 1) := by decide +kernel
theorem dX1_letterAt_14 : decode cX1_letterAt 14 = .ok (.aload_n 0, 1) := by decide +kernel
theorem dX1_letterAt_15 : decode cX1_letterAt 15 = .ok (.getfield 27, 3) := by decide +kernel
theorem dX1_letterAt_18 : decode cX1_letterAt 18 = .ok (.iload_n 1, 1) := by decide +kernel
theorem dX1_letterAt_19 : decode cX1_letterAt 19 = .ok (.iaload, 1) := by decide +kernel
theorem dX1_letterAt_20 : decode cX1_letterAt 20 = .ok (.if_icmp .gt 21, 3) := by decide +kernel
theorem dX1_letterAt_23 : decode cX1_letterAt 23 = .ok (.aload_n 0, 1) := by decide +kernel
theorem dX1_letterAt_24 : decode cX1_letterAt 24 = .ok (.getfield 20, 3) := by decide +kernel
theorem dX1_letterAt_27 : decode cX1_letterAt 27 = .ok (.aload_n 0, 1) := by decide +kernel
theorem dX1_letterAt_28 : decode cX1_letterAt 28 = .ok (.getfield 24, 3) := by decide +kernel
theorem dX1_letterAt_31 : decode cX1_letterAt 31 = .ok (.iload_n 1, 1) := by decide +kernel
theorem dX1_letterAt_32 : decode cX1_letterAt 32 = .ok (.iaload, 1) := by decide +kernel
theorem dX1_letterAt_33 : decode cX1_letterAt 33 = .ok (.iload_n 2, 1) := by decide +kernel
theorem dX1_letterAt_34 : decode cX1_letterAt 34 = .ok (.iadd, 1) := by decide +kernel
theorem dX1_letterAt_35 : decode cX1_letterAt 35 = .ok (.iconst 1, 1) := by decide +kernel
theorem dX1_letterAt_36 : decode cX1_letterAt 36 = .ok (.isub, 1) := by decide +kernel
theorem dX1_letterAt_37 : decode cX1_letterAt 37 = .ok (.iaload, 1) := by decide +kernel
theorem dX1_letterAt_38 : decode cX1_letterAt 38 = .ok (.goto 4, 3) := by decide +kernel
theorem dX1_letterAt_41 : decode cX1_letterAt 41 = .ok (.iconst (-1), 1) := by decide +kernel
theorem dX1_letterAt_42 : decode cX1_letterAt 42 = .ok (.ireturn, 1) := by decide +kernel
theorem dX1_writeLetters_0 : decode cX1_writeLetters 0 = .ok (.aload_n 0, 1) := by decide +kernel
theorem dX1_writeLetters_1 : decode cX1_writeLetters 1 = .ok (.iload_n 1, 1) := by decide +kernel
theorem dX1_writeLetters_2 : decode cX1_writeLetters 2 = .ok (.invokevirtual 49, 3) := by decide +kernel
theorem dX1_writeLetters_5 : decode cX1_writeLetters 5 = .ok (.ifCond .eq 25, 3) := by decide +kernel
theorem dX1_writeLetters_8 : decode cX1_writeLetters 8 = .ok (.aload 4, 2) := by decide +kernel
theorem dX1_writeLetters_10 : decode cX1_writeLetters 10 = .ok (.aload_n 0, 1) := by decide +kernel
theorem dX1_writeLetters_11 : decode cX1_writeLetters 11 = .ok (.getfield 20, 3) := by decide +kernel
theorem dX1_writeLetters_14 : decode cX1_writeLetters 14 = .ok (.aload_n 0, 1) := by decide +kernel
theorem dX1_writeLetters_15 : decode cX1_writeLetters 15 = .ok (.getfield 24, 3) := by decide +kernel
theorem dX1_writeLetters_18 : decode cX1_writeLetters 18 = .ok (.iload_n 1, 1) := by decide +kernel
theorem dX1_writeLetters_19 : decode cX1_writeLetters 19 = .ok (.iaload, 1) := by decide +kernel
theorem dX1_writeLetters_20 : decode cX1_writeLetters 20 = .ok (.iload_n 2, 1) := by decide +kernel
theorem dX1_writeLetters_21 : decode cX1_writeLetters 21 = .ok (.iadd, 1) := by decide +kernel
theorem dX1_writeLetters_22 : decode cX1_writeLetters 22 = .ok (.iconst 1, 1) := by decide +kernel
theorem dX1_writeLetters_23 : decode cX1_writeLetters 23 = .ok (.isub, 1) := by decide +kernel
theorem dX1_writeLetters_24 : decode cX1_writeLetters 24 = .ok (.iload_n 3, 1) := by decide +kernel
theorem dX1_writeLetters_25 : decode cX1_writeLetters 25 = .ok (.iload_n 2, 1) := by decide +kernel
theorem dX1_writeLetters_26 : decode cX1_writeLetters 26 = .ok (.isub, 1) := by decide +kernel
theorem dX1_writeLetters_27 : decode cX1_writeLetters 27 = .ok (.invokevirtual 53, 3) := by decide +kernel
theorem dX1_writeLetters_30 : decode cX1_writeLetters 30 = .ok (.return_, 1) := by decide +kernel
theorem dX2_init_0 : decode cX2_init 0 = .ok (.aload_n 0, 1) := by decide +kernel
theorem dX2_init_1 : decode cX2_init 1 = .ok (.invokespecial 3, 3) := by decide +kernel
theorem dX2_init_4 : decode cX2_init 4 = .ok (.aload_n 0, 1) := by decide +kernel
theorem dX2_init_5 : decode cX2_init 5 = .ok (.aload_n 1, 1) := by decide +kernel
theorem dX2_init_6 : decode cX2_init 6 = .ok (.putfield 9, 3) := by decide +kernel
theorem dX2_init_9 : decode cX2_init 9 = .ok (.aload_n 0, 1) := by decide +kernel
theorem dX2_init_10 : decode cX2_init 10 = .ok (.aload_n 2, 1) := by decide +kernel
theorem dX2_init_11 : decode cX2_init 11 = .ok (.putfield 15, 3) := by decide +kernel
theorem dX2_init_14 : decode cX2_init 14 = .ok (.aload_n 0, 1) := by decide +kernel
theorem dX2_init_15 : decode cX2_init 15 = .ok (.iconst 0, 1) := by decide +kernel
theorem dX2_init_16 : decode cX2_init 16 = .ok (.putfield 19, 3) := by decide +kernel
theorem dX2_init_19 : decode cX2_init 19 = .ok (.return_, 1) := by decide +kernel
theorem dX2_run_0 : decode cX2_run 0 = .ok (.aload_n 0, 1) := by decide +kernel
theorem dX2_run_1 : decode cX2_run 1 = .ok (.getfield 15, 3) := by decide +kernel
theorem dX2_run_4 : decode cX2_run 4 = .ok (.invokevirtual 23, 3) := by decide +kernel
theorem dX2_run_7 : decode cX2_run 7 = .ok (.iconst 0, 1) := by decide +kernel
theorem dX2_run_8 : decode cX2_run 8 = .ok (.istore_n 1, 1) := by decide +kernel
theorem dX2_run_9 : decode cX2_run 9 = .ok (.iload_n 1, 1) := by decide +kernel
theorem dX2_run_10 : decode cX2_run 10 = .ok (.aload_n 0, 1) := by decide +kernel
theorem dX2_run_11 : decode cX2_run 11 = .ok (.getfield 9, 3) := by decide +kernel
theorem dX2_run_14 : decode cX2_run 14 = .ok (.getfield 28, 3) := by decide +kernel
theorem dX2_run_17 : decode cX2_run 17 = .ok (.if_icmp .ge 31, 3) := by decide +kernel
theorem dX2_run_20 : decode cX2_run 20 = .ok (.aload_n 0, 1) := by decide +kernel
theorem dX2_run_21 : decode cX2_run 21 = .ok (.iload_n 1, 1) := by decide +kernel
theorem dX2_run_22 : decode cX2_run 22 = .ok (.putfield 33, 3) := by decide +kernel
theorem dX2_run_25 : decode cX2_run 25 = .ok (.aload_n 0, 1) := by decide +kernel
theorem dX2_run_26 : decode cX2_run 26 = .ok (.aload_n 0, 1) := by decide +kernel
theorem dX2_run_27 : decode cX2_run 27 = .ok (.getfield 9, 3) := by decide +kernel
theorem dX2_run_30 : decode cX2_run 30 = .ok (.iload_n 1, 1) := by decide +kernel
theorem dX2_run_31 : decode cX2_run 31 = .ok (.invokevirtual 36, 3) := by decide +kernel
theorem dX2_run_34 : decode cX2_run 34 = .ok (.invokevirtual 39, 3) := by decide +kernel
theorem dX2_run_37 : decode cX2_run 37 = .ok (.ifCond .ne 5, 3) := by decide +kernel
theorem dX2_run_40 : decode cX2_run 40 = .ok (.iconst 0, 1) := by decide +kernel
theorem dX2_run_41 : decode cX2_run 41 = .ok (.ireturn, 1) := by decide +kernel
theorem dX2_run_42 : decode cX2_run 42 = .ok (.iinc 1 1, 3) := by decide +kernel
theorem dX2_run_45 : decode cX2_run 45 = .ok (.goto (-36), 3) := by decide +kernel
theorem dX2_run_48 : decode cX2_run 48 = .ok (.aload_n 0, 1) := by decide +kernel
theorem dX2_run_49 : decode cX2_run 49 = .ok (.aload_n 0, 1) := by decide +kernel
theorem dX2_run_50 : decode cX2_run 50 = .ok (.getfield 9, 3) := by decide +kernel
theorem dX2_run_53 : decode cX2_run 53 = .ok (.getfield 28, 3) := by decide +kernel
theorem dX2_run_56 : decode cX2_run 56 = .ok (.putfield 33, 3) := by decide +kernel
theorem dX2_run_59 : decode cX2_run 59 = .ok (.aload_n 0, 1) := by decide +kernel
theorem dX2_run_60 : decode cX2_run 60 = .ok (.getfield 19, 3) := by decide +kernel
theorem dX2_run_63 : decode cX2_run 63 = .ok (.iconst 5, 1) := by decide +kernel
theorem dX2_run_64 : decode cX2_run 64 = .ok (.if_icmp .eq 11, 3) := by decide +kernel
theorem dX2_run_67 : decode cX2_run 67 = .ok (.aload_n 0, 1) := by decide +kernel
theorem dX2_run_68 : decode cX2_run 68 = .ok (.iconst 1, 1) := by decide +kernel
theorem dX2_run_69 : decode cX2_run 69 = .ok (.invokevirtual 43, 3) := by decide +kernel
theorem dX2_run_72 : decode cX2_run 72 = .ok (.ifCond .eq 7, 3) := by decide +kernel
theorem dX2_run_75 : decode cX2_run 75 = .ok (.iconst 1, 1) := by decide +kernel
theorem dX2_run_76 : decode cX2_run 76 = .ok (.goto 4, 3) := by decide +kernel
theorem dX2_run_79 : decode cX2_run 79 = .ok (.iconst 0, 1) := by decide +kernel
theorem dX2_run_80 : decode cX2_run 80 = .ok (.ireturn, 1) := by decide +kernel
theorem dX2_fail_0 : decode cX2_fail 0 = .ok (.aload_n 0, 1) := by decide +kernel
theorem dX2_fail_1 : decode cX2_fail 1 = .ok (.iload_n 1, 1) := by decide +kernel
theorem dX2_fail_2 : decode cX2_fail 2 = .ok (.putfield 46, 3) := by decide +kernel
theorem dX2_fail_5 : decode cX2_fail 5 = .ok (.aload_n 0, 1) := by decide +kernel
theorem dX2_fail_6 : decode cX2_fail 6 = .ok (.aload_n 0, 1) := by decide +kernel
theorem dX2_fail_7 : decode cX2_fail 7 = .ok (.getfield 33, 3) := by decide +kernel
theorem dX2_fail_10 : decode cX2_fail 10 = .ok (.putfield 49, 3) := by decide +kernel
theorem dX2_fail_13 : decode cX2_fail 13 = .ok (.iconst 0, 1) := by decide +kernel
theorem dX2_fail_14 : decode cX2_fail 14 = .ok (.ireturn, 1) := by decide +kernel
theorem dX2_take_0 : decode cX2_take 0 = .ok (.aload_n 0, 1) := by decide +kernel
theorem dX2_take_1 : decode cX2_take 1 = .ok (.getfield 19, 3) := by decide +kernel
theorem dX2_take_4 : decode cX2_take 4 = .ok (.tableswitch 50 1 4 #[32, 38, 50, 44], 32) := by decide +kernel
theorem dX2_take_36 : decode cX2_take 36 = .ok (.aload_n 0, 1) := by decide +kernel
theorem dX2_take_37 : decode cX2_take 37 = .ok (.iload_n 1, 1) := by decide +kernel
theorem dX2_take_38 : decode cX2_take 38 = .ok (.invokevirtual 52, 3) := by decide +kernel
theorem dX2_take_41 : decode cX2_take 41 = .ok (.ireturn, 1) := by decide +kernel
theorem dX2_take_42 : decode cX2_take 42 = .ok (.aload_n 0, 1) := by decide +kernel
theorem dX2_take_43 : decode cX2_take 43 = .ok (.iload_n 1, 1) := by decide +kernel
theorem dX2_take_44 : decode cX2_take 44 = .ok (.invokevirtual 55, 3) := by decide +kernel
theorem dX2_take_47 : decode cX2_take 47 = .ok (.ireturn, 1) := by decide +kernel
theorem dX2_take_48 : decode cX2_take 48 = .ok (.aload_n 0, 1) := by decide +kernel
theorem dX2_take_49 : decode cX2_take 49 = .ok (.iload_n 1, 1) := by decide +kernel
theorem dX2_take_50 : decode cX2_take 50 = .ok (.invokevirtual 58, 3) := by decide +kernel
theorem dX2_take_53 : decode cX2_take 53 = .ok (.ireturn, 1) := by decide +kernel
theorem dX2_take_54 : decode cX2_take 54 = .ok (.aload_n 0, 1) := by decide +kernel
theorem dX2_take_55 : decode cX2_take 55 = .ok (.iload_n 1, 1) := by decide +kernel
theorem dX2_take_56 : decode cX2_take 56 = .ok (.invokevirtual 61, 3) := by decide +kernel
theorem dX2_take_59 : decode cX2_take 59 = .ok (.ireturn, 1) := by decide +kernel
theorem dX2_takeAtLineStart_0 : decode cX2_takeAtLineStart 0 = .ok (.iload_n 1, 1) := by decide +kernel
theorem dX2_takeAtLineStart_1 : decode cX2_takeAtLineStart 1 = .ok (.bipush 62, 2) := by decide +kernel
theorem dX2_takeAtLineStart_3 : decode cX2_takeAtLineStart 3 = .ok (.if_icmp .ne 16, 3) := by decide +kernel
theorem dX2_takeAtLineStart_6 : decode cX2_takeAtLineStart 6 = .ok (.aload_n 0, 1) := by decide +kernel
theorem dX2_takeAtLineStart_7 : decode cX2_takeAtLineStart 7 = .ok (.getfield 19, 3) := by decide +kernel
theorem dX2_takeAtLineStart_10 : decode cX2_takeAtLineStart 10 = .ok (.iconst 3, 1) := by decide +kernel
theorem dX2_takeAtLineStart_11 : decode cX2_takeAtLineStart 11 = .ok (.if_icmp .eq 8, 3) := by decide +kernel
theorem dX2_takeAtLineStart_14 : decode cX2_takeAtLineStart 14 = .ok (.aload_n 0, 1) := by decide +kernel
theorem dX2_takeAtLineStart_15 : decode cX2_takeAtLineStart 15 = .ok (.invokevirtual 64, 3) := by decide +kernel
theorem dX2_takeAtLineStart_18 : decode cX2_takeAtLineStart 18 = .ok (.ireturn, 1) := by decide +kernel
theorem dX2_takeAtLineStart_19 : decode cX2_takeAtLineStart 19 = .ok (.iload_n 1, 1) := by decide +kernel
theorem dX2_takeAtLineStart_20 : decode cX2_takeAtLineStart 20 = .ok (.invokestatic 68, 3) := by decide +kernel
theorem dX2_takeAtLineStart_23 : decode cX2_takeAtLineStart 23 = .ok (.iconst (-1), 1) := by decide +kernel
theorem dX2_takeAtLineStart_24 : decode cX2_takeAtLineStart 24 = .ok (.if_icmp .eq 19, 3) := by decide +kernel
theorem dX2_takeAtLineStart_27 : decode cX2_takeAtLineStart 27 = .ok (.aload_n 0, 1) := by decide +kernel
theorem dX2_takeAtLineStart_28 : decode cX2_takeAtLineStart 28 = .ok (.getfield 19, 3) := by decide +kernel
theorem dX2_takeAtLineStart_31 : decode cX2_takeAtLineStart 31 = .ok (.ifCond .eq 12, 3) := by decide +kernel
theorem dX2_takeAtLineStart_34 : decode cX2_takeAtLineStart 34 = .ok (.aload_n 0, 1) := by decide +kernel
theorem dX2_takeAtLineStart_35 : decode cX2_takeAtLineStart 35 = .ok (.iload_n 1, 1) := by decide +kernel
theorem dX2_takeAtLineStart_36 : decode cX2_takeAtLineStart 36 = .ok (.invokestatic 68, 3) := by decide +kernel
theorem dX2_takeAtLineStart_39 : decode cX2_takeAtLineStart 39 = .ok (.invokevirtual 71, 3) := by decide +kernel
theorem dX2_takeAtLineStart_42 : decode cX2_takeAtLineStart 42 = .ok (.ireturn, 1) := by decide +kernel
theorem dX2_takeAtLineStart_43 : decode cX2_takeAtLineStart 43 = .ok (.aload_n 0, 1) := by decide +kernel
theorem dX2_takeAtLineStart_44 : decode cX2_takeAtLineStart 44 = .ok (.iconst 2, 1) := by decide +kernel
theorem dX2_takeAtLineStart_45 : decode cX2_takeAtLineStart 45 = .ok (.invokevirtual 43, 3) := by decide +kernel
theorem dX2_takeAtLineStart_48 : decode cX2_takeAtLineStart 48 = .ok (.ireturn, 1) := by decide +kernel
theorem dX2_openSequence_0 : decode cX2_openSequence 0 = .ok (.aload_n 0, 1) := by decide +kernel
theorem dX2_openSequence_1 : decode cX2_openSequence 1 = .ok (.getfield 15, 3) := by decide +kernel
theorem dX2_openSequence_4 : decode cX2_openSequence 4 = .ok (.getfield 74, 3) := by decide +kernel
theorem dX2_openSequence_7 : decode cX2_openSequence 7 = .ok (.bipush 8, 2) := by decide +kernel
theorem dX2_openSequence_9 : decode cX2_openSequence 9 = .ok (.if_icmp .ne 9, 3) := by decide +kernel
theorem dX2_openSequence_12 : decode cX2_openSequence 12 = .ok (.aload_n 0, 1) := by decide +kernel
theorem dX2_openSequence_13 : decode cX2_openSequence 13 = .ok (.iconst 3, 1) := by decide +kernel
theorem dX2_openSequence_14 : decode cX2_openSequence 14 = .ok (.invokevirtual 43, 3) := by decide +kernel
theorem dX2_openSequence_17 : decode cX2_openSequence 17 = .ok (.ireturn, 1) := by decide +kernel
theorem dX2_openSequence_18 : decode cX2_openSequence 18 = .ok (.aload_n 0, 1) := by decide +kernel
theorem dX2_openSequence_19 : decode cX2_openSequence 19 = .ok (.getfield 15, 3) := by decide +kernel
theorem dX2_openSequence_22 : decode cX2_openSequence 22 = .ok (.invokevirtual 77, 3) := by decide +kernel
theorem dX2_openSequence_25 : decode cX2_openSequence 25 = .ok (.aload_n 0, 1) := by decide +kernel
theorem dX2_openSequence_26 : decode cX2_openSequence 26 = .ok (.iconst 0, 1) := by decide +kernel
theorem dX2_openSequence_27 : decode cX2_openSequence 27 = .ok (.putfield 80, 3) := by decide +kernel
theorem dX2_openSequence_30 : decode cX2_openSequence 30 = .ok (.aload_n 0, 1) := by decide +kernel
theorem dX2_openSequence_31 : decode cX2_openSequence 31 = .ok (.aload_n 0, 1) := by decide +kernel
theorem dX2_openSequence_32 : decode cX2_openSequence 32 = .ok (.getfield 33, 3) := by decide +kernel
theorem dX2_openSequence_35 : decode cX2_openSequence 35 = .ok (.iconst 1, 1) := by decide +kernel
theorem dX2_openSequence_36 : decode cX2_openSequence 36 = .ok (.iadd, 1) := by decide +kernel
theorem dX2_openSequence_37 : decode cX2_openSequence 37 = .ok (.putfield 83, 3) := by decide +kernel
theorem dX2_openSequence_40 : decode cX2_openSequence 40 = .ok (.aload_n 0, 1) := by decide +kernel
theorem dX2_openSequence_41 : decode cX2_openSequence 41 = .ok (.iconst 1, 1) := by decide +kernel
theorem dX2_openSequence_42 : decode cX2_openSequence 42 = .ok (.putfield 19, 3) := by decide +kernel
theorem dX2_openSequence_45 : decode cX2_openSequence 45 = .ok (.iconst 1, 1) := by decide +kernel
theorem dX2_openSequence_46 : decode cX2_openSequence 46 = .ok (.ireturn, 1) := by decide +kernel
theorem dX2_takeInName_0 : decode cX2_takeInName 0 = .ok (.iload_n 1, 1) := by decide +kernel
theorem dX2_takeInName_1 : decode cX2_takeInName 1 = .ok (.invokestatic 86, 3) := by decide +kernel
theorem dX2_takeInName_4 : decode cX2_takeInName 4 = .ok (.ifCond .eq 41, 3) := by decide +kernel
theorem dX2_takeInName_7 : decode cX2_takeInName 7 = .ok (.aload_n 0, 1) := by decide +kernel
theorem dX2_takeInName_8 : decode cX2_takeInName 8 = .ok (.getfield 80, 3) := by decide +kernel
theorem dX2_takeInName_11 : decode cX2_takeInName 11 = .ok (.bipush 20, 2) := by decide +kernel
theorem dX2_takeInName_13 : decode cX2_takeInName 13 = .ok (.if_icmp .ne 9, 3) := by decide +kernel
theorem dX2_takeInName_16 : decode cX2_takeInName 16 = .ok (.aload_n 0, 1) := by decide +kernel
theorem dX2_takeInName_17 : decode cX2_takeInName 17 = .ok (.iconst 3, 1) := by decide +kernel
theorem dX2_takeInName_18 : decode cX2_takeInName 18 = .ok (.invokevirtual 43, 3) := by decide +kernel
theorem dX2_takeInName_21 : decode cX2_takeInName 21 = .ok (.ireturn, 1) := by decide +kernel
theorem dX2_takeInName_22 : decode cX2_takeInName 22 = .ok (.aload_n 0, 1) := by decide +kernel
theorem dX2_takeInName_23 : decode cX2_takeInName 23 = .ok (.getfield 15, 3) := by decide +kernel
theorem dX2_takeInName_26 : decode cX2_takeInName 26 = .ok (.getfield 89, 3) := by decide +kernel
theorem dX2_takeInName_29 : decode cX2_takeInName 29 = .ok (.iload_n 1, 1) := by decide +kernel
theorem dX2_takeInName_30 : decode cX2_takeInName 30 = .ok (.invokevirtual 93, 3) := by decide +kernel
theorem dX2_takeInName_33 : decode cX2_takeInName 33 = .ok (.aload_n 0, 1) := by decide +kernel
theorem dX2_takeInName_34 : decode cX2_takeInName 34 = .ok (.dup, 1) := by decide +kernel
theorem dX2_takeInName_35 : decode cX2_takeInName 35 = .ok (.getfield 80, 3) := by decide +kernel
theorem dX2_takeInName_38 : decode cX2_takeInName 38 = .ok (.iconst 1, 1) := by decide +kernel
theorem dX2_takeInName_39 : decode cX2_takeInName 39 = .ok (.iadd, 1) := by decide +kernel
theorem dX2_takeInName_40 : decode cX2_takeInName 40 = .ok (.putfield 80, 3) := by decide +kernel
theorem dX2_takeInName_43 : decode cX2_takeInName 43 = .ok (.iconst 1, 1) := by decide +kernel
theorem dX2_takeInName_44 : decode cX2_takeInName 44 = .ok (.ireturn, 1) := by decide +kernel
theorem dX2_takeInName_45 : decode cX2_takeInName 45 = .ok (.aload_n 0, 1) := by decide +kernel
theorem dX2_takeInName_46 : decode cX2_takeInName 46 = .ok (.getfield 80, 3) := by decide +kernel
theorem dX2_takeInName_49 : decode cX2_takeInName 49 = .ok (.ifCond .ne 9, 3) := by decide +kernel
theorem dX2_takeInName_52 : decode cX2_takeInName 52 = .ok (.aload_n 0, 1) := by decide +kernel
theorem dX2_takeInName_53 : decode cX2_takeInName 53 = .ok (.iconst 2, 1) := by decide +kernel
theorem dX2_takeInName_54 : decode cX2_takeInName 54 = .ok (.invokevirtual 43, 3) := by decide +kernel
theorem dX2_takeInName_57 : decode cX2_takeInName 57 = .ok (.ireturn, 1) := by decide +kernel
theorem dX2_takeInName_58 : decode cX2_takeInName 58 = .ok (.iload_n 1, 1) := by decide +kernel
theorem dX2_takeInName_59 : decode cX2_takeInName 59 = .ok (.bipush 10, 2) := by decide +kernel
theorem dX2_takeInName_61 : decode cX2_takeInName 61 = .ok (.if_icmp .ne 8, 3) := by decide +kernel
theorem dX2_takeInName_64 : decode cX2_takeInName 64 = .ok (.aload_n 0, 1) := by decide +kernel
theorem dX2_takeInName_65 : decode cX2_takeInName 65 = .ok (.invokevirtual 99, 3) := by decide +kernel
theorem dX2_takeInName_68 : decode cX2_takeInName 68 = .ok (.ireturn, 1) := by decide +kernel
theorem dX2_takeInName_69 : decode cX2_takeInName 69 = .ok (.aload_n 0, 1) := by decide +kernel
theorem dX2_takeInName_70 : decode cX2_takeInName 70 = .ok (.iconst 2, 1) := by decide +kernel
theorem dX2_takeInName_71 : decode cX2_takeInName 71 = .ok (.putfield 19, 3) := by decide +kernel
theorem dX2_takeInName_74 : decode cX2_takeInName 74 = .ok (.iload_n 1, 1) := by decide +kernel
theorem dX2_takeInName_75 : decode cX2_takeInName 75 = .ok (.bipush 32, 2) := by decide +kernel
theorem dX2_takeInName_77 : decode cX2_takeInName 77 = .ok (.if_icmp .eq 11, 3) := by decide +kernel
theorem dX2_takeInName_80 : decode cX2_takeInName 80 = .ok (.aload_n 0, 1) := by decide +kernel
theorem dX2_takeInName_81 : decode cX2_takeInName 81 = .ok (.iconst 2, 1) := by decide +kernel
theorem dX2_takeInName_82 : decode cX2_takeInName 82 = .ok (.invokevirtual 43, 3) := by decide +kernel
theorem dX2_takeInName_85 : decode cX2_takeInName 85 = .ok (.ifCond .eq 7, 3) := by decide +kernel
theorem dX2_takeInName_88 : decode cX2_takeInName 88 = .ok (.iconst 1, 1) := by decide +kernel
theorem dX2_takeInName_89 : decode cX2_takeInName 89 = .ok (.goto 4, 3) := by decide +kernel
theorem dX2_takeInName_92 : decode cX2_takeInName 92 = .ok (.iconst 0, 1) := by decide +kernel
theorem dX2_takeInName_93 : decode cX2_takeInName 93 = .ok (.ireturn, 1) := by decide +kernel
theorem dX2_takeInRemark_0 : decode cX2_takeInRemark 0 = .ok (.iload_n 1, 1) := by decide +kernel
theorem dX2_takeInRemark_1 : decode cX2_takeInRemark 1 = .ok (.bipush 10, 2) := by decide +kernel
theorem dX2_takeInRemark_3 : decode cX2_takeInRemark 3 = .ok (.if_icmp .ne 8, 3) := by decide +kernel
theorem dX2_takeInRemark_6 : decode cX2_takeInRemark 6 = .ok (.aload_n 0, 1) := by decide +kernel
theorem dX2_takeInRemark_7 : decode cX2_takeInRemark 7 = .ok (.invokevirtual 99, 3) := by decide +kernel
theorem dX2_takeInRemark_10 : decode cX2_takeInRemark 10 = .ok (.ireturn, 1) := by decide +kernel
theorem dX2_takeInRemark_11 : decode cX2_takeInRemark 11 = .ok (.iload_n 1, 1) := by decide +kernel
theorem dX2_takeInRemark_12 : decode cX2_takeInRemark 12 = .ok (.bipush 32, 2) := by decide +kernel
theorem dX2_takeInRemark_14 : decode cX2_takeInRemark 14 = .ok (.if_icmp .lt 9, 3) := by decide +kernel
theorem dX2_takeInRemark_17 : decode cX2_takeInRemark 17 = .ok (.iload_n 1, 1) := by decide +kernel
theorem dX2_takeInRemark_18 : decode cX2_takeInRemark 18 = .ok (.bipush 126, 2) := by decide +kernel
theorem dX2_takeInRemark_20 : decode cX2_takeInRemark 20 = .ok (.if_icmp .le 11, 3) := by decide +kernel
theorem dX2_takeInRemark_23 : decode cX2_takeInRemark 23 = .ok (.aload_n 0, 1) := by decide +kernel
theorem dX2_takeInRemark_24 : decode cX2_takeInRemark 24 = .ok (.iconst 2, 1) := by decide +kernel
theorem dX2_takeInRemark_25 : decode cX2_takeInRemark 25 = .ok (.invokevirtual 43, 3) := by decide +kernel
theorem dX2_takeInRemark_28 : decode cX2_takeInRemark 28 = .ok (.ifCond .eq 7, 3) := by decide +kernel
theorem dX2_takeInRemark_31 : decode cX2_takeInRemark 31 = .ok (.iconst 1, 1) := by decide +kernel
theorem dX2_takeInRemark_32 : decode cX2_takeInRemark 32 = .ok (.goto 4, 3) := by decide +kernel
theorem dX2_takeInRemark_35 : decode cX2_takeInRemark 35 = .ok (.iconst 0, 1) := by decide +kernel
theorem dX2_takeInRemark_36 : decode cX2_takeInRemark 36 = .ok (.ireturn, 1) := by decide +kernel
theorem dX2_endNameLine_0 : decode cX2_endNameLine 0 = .ok (.aload_n 0, 1) := by decide +kernel
theorem dX2_endNameLine_1 : decode cX2_endNameLine 1 = .ok (.getfield 15, 3) := by decide +kernel
theorem dX2_endNameLine_4 : decode cX2_endNameLine 4 = .ok (.getfield 74, 3) := by decide +kernel
theorem dX2_endNameLine_7 : decode cX2_endNameLine 7 = .ok (.iconst 1, 1) := by decide +kernel
theorem dX2_endNameLine_8 : decode cX2_endNameLine 8 = .ok (.isub, 1) := by decide +kernel
theorem dX2_endNameLine_9 : decode cX2_endNameLine 9 = .ok (.istore_n 1, 1) := by decide +kernel
theorem dX2_endNameLine_10 : decode cX2_endNameLine 10 = .ok (.aload_n 0, 1) := by decide +kernel
theorem dX2_endNameLine_11 : decode cX2_endNameLine 11 = .ok (.getfield 15, 3) := by decide +kernel
theorem dX2_endNameLine_14 : decode cX2_endNameLine 14 = .ok (.getfield 89, 3) := by decide +kernel
theorem dX2_endNameLine_17 : decode cX2_endNameLine 17 = .ok (.aload_n 0, 1) := by decide +kernel
theorem dX2_endNameLine_18 : decode cX2_endNameLine 18 = .ok (.getfield 15, 3) := by decide +kernel
theorem dX2_endNameLine_21 : decode cX2_endNameLine 21 = .ok (.getfield 89, 3) := by decide +kernel
theorem dX2_endNameLine_24 : decode cX2_endNameLine 24 = .ok (.iload_n 1, 1) := by decide +kernel
theorem dX2_endNameLine_25 : decode cX2_endNameLine 25 = .ok (.invokevirtual 102, 3) := by decide +kernel
theorem dX2_endNameLine_28 : decode cX2_endNameLine 28 = .ok (.iload_n 1, 1) := by decide +kernel
theorem dX2_endNameLine_29 : decode cX2_endNameLine 29 = .ok (.if_icmp .eq 18, 3) := by decide +kernel
theorem dX2_endNameLine_32 : decode cX2_endNameLine 32 = .ok (.aload_n 0, 1) := by decide +kernel
theorem dX2_endNameLine_33 : decode cX2_endNameLine 33 = .ok (.iconst 4, 1) := by decide +kernel
theorem dX2_endNameLine_34 : decode cX2_endNameLine 34 = .ok (.putfield 46, 3) := by decide +kernel
theorem dX2_endNameLine_37 : decode cX2_endNameLine 37 = .ok (.aload_n 0, 1) := by decide +kernel
theorem dX2_endNameLine_38 : decode cX2_endNameLine 38 = .ok (.aload_n 0, 1) := by decide +kernel
theorem dX2_endNameLine_39 : decode cX2_endNameLine 39 = .ok (.getfield 83, 3) := by decide +kernel
theorem dX2_endNameLine_42 : decode cX2_endNameLine 42 = .ok (.putfield 49, 3) := by decide +kernel
theorem dX2_endNameLine_45 : decode cX2_endNameLine 45 = .ok (.iconst 0, 1) := by decide +kernel
theorem dX2_endNameLine_46 : decode cX2_endNameLine 46 = .ok (.ireturn, 1) := by decide +kernel
theorem dX2_endNameLine_47 : decode cX2_endNameLine 47 = .ok (.aload_n 0, 1) := by decide +kernel
theorem dX2_endNameLine_48 : decode cX2_endNameLine 48 = .ok (.iconst 0, 1) := by decide +kernel
theorem dX2_endNameLine_49 : decode cX2_endNameLine 49 = .ok (.putfield 106, 3) := by decide +kernel
theorem dX2_endNameLine_52 : decode cX2_endNameLine 52 = .ok (.aload_n 0, 1) := by decide +kernel
theorem dX2_endNameLine_53 : decode cX2_endNameLine 53 = .ok (.iconst 0, 1) := by decide +kernel
theorem dX2_endNameLine_54 : decode cX2_endNameLine 54 = .ok (.putfield 109, 3) := by decide +kernel
theorem dX2_endNameLine_57 : decode cX2_endNameLine 57 = .ok (.aload_n 0, 1) := by decide +kernel
theorem dX2_endNameLine_58 : decode cX2_endNameLine 58 = .ok (.iconst 0, 1) := by decide +kernel
theorem dX2_endNameLine_59 : decode cX2_endNameLine 59 = .ok (.putfield 112, 3) := by decide +kernel
theorem dX2_endNameLine_62 : decode cX2_endNameLine 62 = .ok (.aload_n 0, 1) := by decide +kernel
theorem dX2_endNameLine_63 : decode cX2_endNameLine 63 = .ok (.iconst 3, 1) := by decide +kernel
theorem dX2_endNameLine_64 : decode cX2_endNameLine 64 = .ok (.putfield 19, 3) := by decide +kernel
theorem dX2_endNameLine_67 : decode cX2_endNameLine 67 = .ok (.iconst 1, 1) := by decide +kernel
theorem dX2_endNameLine_68 : decode cX2_endNameLine 68 = .ok (.ireturn, 1) := by decide +kernel
theorem dX2_takeInLetters_0 : decode cX2_takeInLetters 0 = .ok (.iload_n 1, 1) := by decide +kernel
theorem dX2_takeInLetters_1 : decode cX2_takeInLetters 1 = .ok (.bipush 10, 2) := by decide +kernel
theorem dX2_takeInLetters_3 : decode cX2_takeInLetters 3 = .ok (.if_icmp .ne 9, 3) := by decide +kernel
theorem dX2_takeInLetters_6 : decode cX2_takeInLetters 6 = .ok (.aload_n 0, 1) := by decide +kernel
theorem dX2_takeInLetters_7 : decode cX2_takeInLetters 7 = .ok (.invokevirtual 115, 3) := by decide +kernel
theorem dX2_takeInLetters_10 : decode cX2_takeInLetters 10 = .ok (.iconst 1, 1) := by decide +kernel
theorem dX2_takeInLetters_11 : decode cX2_takeInLetters 11 = .ok (.ireturn, 1) := by decide +kernel
theorem dX2_takeInLetters_12 : decode cX2_takeInLetters 12 = .ok (.iload_n 1, 1) := by decide +kernel
theorem dX2_takeInLetters_13 : decode cX2_takeInLetters 13 = .ok (.invokestatic 68, 3) := by decide +kernel
theorem dX2_takeInLetters_16 : decode cX2_takeInLetters 16 = .ok (.istore_n 2, 1) := by decide +kernel
theorem dX2_takeInLetters_17 : decode cX2_takeInLetters 17 = .ok (.iload_n 2, 1) := by decide +kernel
theorem dX2_takeInLetters_18 : decode cX2_takeInLetters 18 = .ok (.iconst (-1), 1) := by decide +kernel
theorem dX2_takeInLetters_19 : decode cX2_takeInLetters 19 = .ok (.if_icmp .ne 11, 3) := by decide +kernel
theorem dX2_takeInLetters_22 : decode cX2_takeInLetters 22 = .ok (.aload_n 0, 1) := by decide +kernel
theorem dX2_takeInLetters_23 : decode cX2_takeInLetters 23 = .ok (.iconst 2, 1) := by decide +kernel
theorem dX2_takeInLetters_24 : decode cX2_takeInLetters 24 = .ok (.invokevirtual 43, 3) := by decide +kernel
theorem dX2_takeInLetters_27 : decode cX2_takeInLetters 27 = .ok (.goto 8, 3) := by decide +kernel
theorem dX2_takeInLetters_30 : decode cX2_takeInLetters 30 = .ok (.aload_n 0, 1) := by decide +kernel
theorem dX2_takeInLetters_31 : decode cX2_takeInLetters 31 = .ok (.iload_n 2, 1) := by decide +kernel
theorem dX2_takeInLetters_32 : decode cX2_takeInLetters 32 = .ok (.invokevirtual 71, 3) := by decide +kernel
theorem dX2_takeInLetters_35 : decode cX2_takeInLetters 35 = .ok (.ireturn, 1) := by decide +kernel
theorem dX2_endLetterLine_0 : decode cX2_endLetterLine 0 = .ok (.aload_n 0, 1) := by decide +kernel
theorem dX2_endLetterLine_1 : decode cX2_endLetterLine 1 = .ok (.getfield 106, 3) := by decide +kernel
theorem dX2_endLetterLine_4 : decode cX2_endLetterLine 4 = .ok (.ifCond .ne 22, 3) := by decide +kernel
theorem dX2_endLetterLine_7 : decode cX2_endLetterLine 7 = .ok (.aload_n 0, 1) := by decide +kernel
theorem dX2_endLetterLine_8 : decode cX2_endLetterLine 8 = .ok (.aload_n 0, 1) := by decide +kernel
theorem dX2_endLetterLine_9 : decode cX2_endLetterLine 9 = .ok (.getfield 109, 3) := by decide +kernel
theorem dX2_endLetterLine_12 : decode cX2_endLetterLine 12 = .ok (.putfield 106, 3) := by decide +kernel
theorem dX2_endLetterLine_15 : decode cX2_endLetterLine 15 = .ok (.aload_n 0, 1) := by decide +kernel
theorem dX2_endLetterLine_16 : decode cX2_endLetterLine 16 = .ok (.getfield 15, 3) := by decide +kernel
theorem dX2_endLetterLine_19 : decode cX2_endLetterLine 19 = .ok (.aload_n 0, 1) := by decide +kernel
theorem dX2_endLetterLine_20 : decode cX2_endLetterLine 20 = .ok (.getfield 106, 3) := by decide +kernel
theorem dX2_endLetterLine_23 : decode cX2_endLetterLine 23 = .ok (.invokevirtual 118, 3) := by decide +kernel
theorem dX2_endLetterLine_26 : decode cX2_endLetterLine 26 = .ok (.aload_n 0, 1) := by decide +kernel
theorem dX2_endLetterLine_27 : decode cX2_endLetterLine 27 = .ok (.aload_n 0, 1) := by decide +kernel
theorem dX2_endLetterLine_28 : decode cX2_endLetterLine 28 = .ok (.getfield 109, 3) := by decide +kernel
theorem dX2_endLetterLine_31 : decode cX2_endLetterLine 31 = .ok (.putfield 112, 3) := by decide +kernel
theorem dX2_endLetterLine_34 : decode cX2_endLetterLine 34 = .ok (.aload_n 0, 1) := by decide +kernel
theorem dX2_endLetterLine_35 : decode cX2_endLetterLine 35 = .ok (.iconst 0, 1) := by decide +kernel
theorem dX2_endLetterLine_36 : decode cX2_endLetterLine 36 = .ok (.putfield 109, 3) := by decide +kernel
theorem dX2_endLetterLine_39 : decode cX2_endLetterLine 39 = .ok (.aload_n 0, 1) := by decide +kernel
theorem dX2_endLetterLine_40 : decode cX2_endLetterLine 40 = .ok (.iconst 5, 1) := by decide +kernel
theorem dX2_endLetterLine_41 : decode cX2_endLetterLine 41 = .ok (.putfield 19, 3) := by decide +kernel
theorem dX2_endLetterLine_44 : decode cX2_endLetterLine 44 = .ok (.return_, 1) := by decide +kernel
theorem dX2_takeLetter_0 : decode cX2_takeLetter 0 = .ok (.aload_n 0, 1) := by decide +kernel
theorem dX2_takeLetter_1 : decode cX2_takeLetter 1 = .ok (.getfield 15, 3) := by decide +kernel
theorem dX2_takeLetter_4 : decode cX2_takeLetter 4 = .ok (.getfield 121, 3) := by decide +kernel
theorem dX2_takeLetter_7 : decode cX2_takeLetter 7 = .ok (.sipush 3000, 3) := by decide +kernel
theorem dX2_takeLetter_10 : decode cX2_takeLetter 10 = .ok (.if_icmp .ne 9, 3) := by decide +kernel
theorem dX2_takeLetter_13 : decode cX2_takeLetter 13 = .ok (.aload_n 0, 1) := by decide +kernel
theorem dX2_takeLetter_14 : decode cX2_takeLetter 14 = .ok (.iconst 3, 1) := by decide +kernel
theorem dX2_takeLetter_15 : decode cX2_takeLetter 15 = .ok (.invokevirtual 43, 3) := by decide +kernel
theorem dX2_takeLetter_18 : decode cX2_takeLetter 18 = .ok (.ireturn, 1) := by decide +kernel
theorem dX2_takeLetter_19 : decode cX2_takeLetter 19 = .ok (.aload_n 0, 1) := by decide +kernel
theorem dX2_takeLetter_20 : decode cX2_takeLetter 20 = .ok (.getfield 109, 3) := by decide +kernel
theorem dX2_takeLetter_23 : decode cX2_takeLetter 23 = .ok (.ifCond .ne 18, 3) := by decide +kernel
theorem dX2_takeLetter_26 : decode cX2_takeLetter 26 = .ok (.aload_n 0, 1) := by decide +kernel
theorem dX2_takeLetter_27 : decode cX2_takeLetter 27 = .ok (.getfield 112, 3) := by decide +kernel
theorem dX2_takeLetter_30 : decode cX2_takeLetter 30 = .ok (.aload_n 0, 1) := by decide +kernel
theorem dX2_takeLetter_31 : decode cX2_takeLetter 31 = .ok (.getfield 106, 3) := by decide +kernel
theorem dX2_takeLetter_34 : decode cX2_takeLetter 34 = .ok (.if_icmp .ge 7, 3) := by decide +kernel
theorem dX2_takeLetter_37 : decode cX2_takeLetter 37 = .ok (.iconst 1, 1) := by decide +kernel
theorem dX2_takeLetter_38 : decode cX2_takeLetter 38 = .ok (.goto 4, 3) := by decide +kernel
theorem dX2_takeLetter_41 : decode cX2_takeLetter 41 = .ok (.iconst 0, 1) := by decide +kernel
theorem dX2_takeLetter_42 : decode cX2_takeLetter 42 = .ok (.istore_n 2, 1) := by decide +kernel
theorem dX2_takeLetter_43 : decode cX2_takeLetter 43 = .ok (.aload_n 0, 1) := by decide +kernel
theorem dX2_takeLetter_44 : decode cX2_takeLetter 44 = .ok (.getfield 106, 3) := by decide +kernel
theorem dX2_takeLetter_47 : decode cX2_takeLetter 47 = .ok (.ifCond .le 24, 3) := by decide +kernel
theorem dX2_takeLetter_50 : decode cX2_takeLetter 50 = .ok (.aload_n 0, 1) := by decide +kernel
theorem dX2_takeLetter_51 : decode cX2_takeLetter 51 = .ok (.getfield 109, 3) := by decide +kernel
theorem dX2_takeLetter_54 : decode cX2_takeLetter 54 = .ok (.aload_n 0, 1) := by decide +kernel
theorem dX2_takeLetter_55 : decode cX2_takeLetter 55 = .ok (.getfield 106, 3) := by decide +kernel
theorem dX2_takeLetter_58 : decode cX2_takeLetter 58 = .ok (.if_icmp .eq 7, 3) := by decide +kernel
theorem dX2_takeLetter_61 : decode cX2_takeLetter 61 = .ok (.iload_n 2, 1) := by decide +kernel
theorem dX2_takeLetter_62 : decode cX2_takeLetter 62 = .ok (.ifCond .eq 9, 3) := by decide +kernel
theorem dX2_takeLetter_65 : decode cX2_takeLetter 65 = .ok (.aload_n 0, 1) := by decide +kernel
theorem dX2_takeLetter_66 : decode cX2_takeLetter 66 = .ok (.iconst 5, 1) := by decide +kernel
theorem dX2_takeLetter_67 : decode cX2_takeLetter 67 = .ok (.invokevirtual 43, 3) := by decide +kernel
theorem dX2_takeLetter_70 : decode cX2_takeLetter 70 = .ok (.ireturn, 1) := by decide +kernel
theorem dX2_takeLetter_71 : decode cX2_takeLetter 71 = .ok (.aload_n 0, 1) := by decide +kernel
theorem dX2_takeLetter_72 : decode cX2_takeLetter 72 = .ok (.getfield 15, 3) := by decide +kernel
theorem dX2_takeLetter_75 : decode cX2_takeLetter 75 = .ok (.iload_n 1, 1) := by decide +kernel
theorem dX2_takeLetter_76 : decode cX2_takeLetter 76 = .ok (.aload_n 0, 1) := by decide +kernel
theorem dX2_takeLetter_77 : decode cX2_takeLetter 77 = .ok (.getfield 33, 3) := by decide +kernel
theorem dX2_takeLetter_80 : decode cX2_takeLetter 80 = .ok (.invokevirtual 124, 3) := by decide +kernel
theorem dX2_takeLetter_83 : decode cX2_takeLetter 83 = .ok (.aload_n 0, 1) := by decide +kernel
theorem dX2_takeLetter_84 : decode cX2_takeLetter 84 = .ok (.dup, 1) := by decide +kernel
theorem dX2_takeLetter_85 : decode cX2_takeLetter 85 = .ok (.getfield 109, 3) := by decide +kernel
theorem dX2_takeLetter_88 : decode cX2_takeLetter 88 = .ok (.iconst 1, 1) := by decide +kernel
theorem dX2_takeLetter_89 : decode cX2_takeLetter 89 = .ok (.iadd, 1) := by decide +kernel
theorem dX2_takeLetter_90 : decode cX2_takeLetter 90 = .ok (.putfield 109, 3) := by decide +kernel
theorem dX2_takeLetter_93 : decode cX2_takeLetter 93 = .ok (.aload_n 0, 1) := by decide +kernel
theorem dX2_takeLetter_94 : decode cX2_takeLetter 94 = .ok (.iconst 4, 1) := by decide +kernel
theorem dX2_takeLetter_95 : decode cX2_takeLetter 95 = .ok (.putfield 19, 3) := by decide +kernel
theorem dX2_takeLetter_98 : decode cX2_takeLetter 98 = .ok (.iconst 1, 1) := by decide +kernel
theorem dX2_takeLetter_99 : decode cX2_takeLetter 99 = .ok (.ireturn, 1) := by decide +kernel
theorem dX2_isNameOctet_0 : decode cX2_isNameOctet 0 = .ok (.iload_n 0, 1) := by decide +kernel
theorem dX2_isNameOctet_1 : decode cX2_isNameOctet 1 = .ok (.bipush 65, 2) := by decide +kernel
theorem dX2_isNameOctet_3 : decode cX2_isNameOctet 3 = .ok (.if_icmp .lt 9, 3) := by decide +kernel
theorem dX2_isNameOctet_6 : decode cX2_isNameOctet 6 = .ok (.iload_n 0, 1) := by decide +kernel
theorem dX2_isNameOctet_7 : decode cX2_isNameOctet 7 = .ok (.bipush 90, 2) := by decide +kernel
theorem dX2_isNameOctet_9 : decode cX2_isNameOctet 9 = .ok (.if_icmp .le 39, 3) := by decide +kernel
theorem dX2_isNameOctet_12 : decode cX2_isNameOctet 12 = .ok (.iload_n 0, 1) := by decide +kernel
theorem dX2_isNameOctet_13 : decode cX2_isNameOctet 13 = .ok (.bipush 97, 2) := by decide +kernel
theorem dX2_isNameOctet_15 : decode cX2_isNameOctet 15 = .ok (.if_icmp .lt 9, 3) := by decide +kernel
theorem dX2_isNameOctet_18 : decode cX2_isNameOctet 18 = .ok (.iload_n 0, 1) := by decide +kernel
theorem dX2_isNameOctet_19 : decode cX2_isNameOctet 19 = .ok (.bipush 122, 2) := by decide +kernel
theorem dX2_isNameOctet_21 : decode cX2_isNameOctet 21 = .ok (.if_icmp .le 27, 3) := by decide +kernel
theorem dX2_isNameOctet_24 : decode cX2_isNameOctet 24 = .ok (.iload_n 0, 1) := by decide +kernel
theorem dX2_isNameOctet_25 : decode cX2_isNameOctet 25 = .ok (.bipush 48, 2) := by decide +kernel
theorem dX2_isNameOctet_27 : decode cX2_isNameOctet 27 = .ok (.if_icmp .lt 9, 3) := by decide +kernel
theorem dX2_isNameOctet_30 : decode cX2_isNameOctet 30 = .ok (.iload_n 0, 1) := by decide +kernel
theorem dX2_isNameOctet_31 : decode cX2_isNameOctet 31 = .ok (.bipush 57, 2) := by decide +kernel
theorem dX2_isNameOctet_33 : decode cX2_isNameOctet 33 = .ok (.if_icmp .le 15, 3) := by decide +kernel
theorem dX2_isNameOctet_36 : decode cX2_isNameOctet 36 = .ok (.iload_n 0, 1) := by decide +kernel
theorem dX2_isNameOctet_37 : decode cX2_isNameOctet 37 = .ok (.bipush 95, 2) := by decide +kernel
theorem dX2_isNameOctet_39 : decode cX2_isNameOctet 39 = .ok (.if_icmp .eq 9, 3) := by decide +kernel
theorem dX2_isNameOctet_42 : decode cX2_isNameOctet 42 = .ok (.iload_n 0, 1) := by decide +kernel
theorem dX2_isNameOctet_43 : decode cX2_isNameOctet 43 = .ok (.bipush 46, 2) := by decide +kernel
theorem dX2_isNameOctet_45 : decode cX2_isNameOctet 45 = .ok (.if_icmp .ne 7, 3) := by decide +kernel
theorem dX2_isNameOctet_48 : decode cX2_isNameOctet 48 = .ok (.iconst 1, 1) := by decide +kernel
theorem dX2_isNameOctet_49 : decode cX2_isNameOctet 49 = .ok (.goto 4, 3) := by decide +kernel
theorem dX2_isNameOctet_52 : decode cX2_isNameOctet 52 = .ok (.iconst 0, 1) := by decide +kernel
theorem dX2_isNameOctet_53 : decode cX2_isNameOctet 53 = .ok (.ireturn, 1) := by decide +kernel
theorem dX3_init_0 : decode cX3_init 0 = .ok (.aload_n 0, 1) := by decide +kernel
theorem dX3_init_1 : decode cX3_init 1 = .ok (.invokespecial 3, 3) := by decide +kernel
theorem dX3_init_4 : decode cX3_init 4 = .ok (.aload_n 0, 1) := by decide +kernel
theorem dX3_init_5 : decode cX3_init 5 = .ok (.bipush 60, 2) := by decide +kernel
theorem dX3_init_7 : decode cX3_init 7 = .ok (.newarray .int, 2) := by decide +kernel
theorem dX3_init_9 : decode cX3_init 9 = .ok (.putfield 9, 3) := by decide +kernel
theorem dX3_init_12 : decode cX3_init 12 = .ok (.aload_n 0, 1) := by decide +kernel
theorem dX3_init_13 : decode cX3_init 13 = .ok (.bipush 60, 2) := by decide +kernel
theorem dX3_init_15 : decode cX3_init 15 = .ok (.newarray .int, 2) := by decide +kernel
theorem dX3_init_17 : decode cX3_init 17 = .ok (.putfield 15, 3) := by decide +kernel
theorem dX3_init_20 : decode cX3_init 20 = .ok (.aload_n 0, 1) := by decide +kernel
theorem dX3_init_21 : decode cX3_init 21 = .ok (.bipush 60, 2) := by decide +kernel
theorem dX3_init_23 : decode cX3_init 23 = .ok (.newarray .int, 2) := by decide +kernel
theorem dX3_init_25 : decode cX3_init 25 = .ok (.putfield 18, 3) := by decide +kernel
theorem dX3_init_28 : decode cX3_init 28 = .ok (.aload_n 0, 1) := by decide +kernel
theorem dX3_init_29 : decode cX3_init 29 = .ok (.bipush 60, 2) := by decide +kernel
theorem dX3_init_31 : decode cX3_init 31 = .ok (.newarray .int, 2) := by decide +kernel
theorem dX3_init_33 : decode cX3_init 33 = .ok (.putfield 21, 3) := by decide +kernel
theorem dX3_init_36 : decode cX3_init 36 = .ok (.aload_n 0, 1) := by decide +kernel
theorem dX3_init_37 : decode cX3_init 37 = .ok (.bipush 60, 2) := by decide +kernel
theorem dX3_init_39 : decode cX3_init 39 = .ok (.newarray .int, 2) := by decide +kernel
theorem dX3_init_41 : decode cX3_init 41 = .ok (.putfield 24, 3) := by decide +kernel
theorem dX3_init_44 : decode cX3_init 44 = .ok (.return_, 1) := by decide +kernel
theorem dX3_clear_0 : decode cX3_clear 0 = .ok (.aload_n 0, 1) := by decide +kernel
theorem dX3_clear_1 : decode cX3_clear 1 = .ok (.iconst 0, 1) := by decide +kernel
theorem dX3_clear_2 : decode cX3_clear 2 = .ok (.putfield 27, 3) := by decide +kernel
theorem dX3_clear_5 : decode cX3_clear 5 = .ok (.aload_n 0, 1) := by decide +kernel
theorem dX3_clear_6 : decode cX3_clear 6 = .ok (.iconst 0, 1) := by decide +kernel
theorem dX3_clear_7 : decode cX3_clear 7 = .ok (.putfield 31, 3) := by decide +kernel
theorem dX3_clear_10 : decode cX3_clear 10 = .ok (.aload_n 0, 1) := by decide +kernel
theorem dX3_clear_11 : decode cX3_clear 11 = .ok (.iconst 0, 1) := by decide +kernel
theorem dX3_clear_12 : decode cX3_clear 12 = .ok (.putfield 34, 3) := by decide +kernel
theorem dX3_clear_15 : decode cX3_clear 15 = .ok (.return_, 1) := by decide +kernel
theorem dX3_choose_0 : decode cX3_choose 0 = .ok (.aload_n 0, 1) := by decide +kernel
theorem dX3_choose_1 : decode cX3_choose 1 = .ok (.iconst 0, 1) := by decide +kernel
theorem dX3_choose_2 : decode cX3_choose 2 = .ok (.putfield 37, 3) := by decide +kernel
theorem dX3_choose_5 : decode cX3_choose 5 = .ok (.iconst 0, 1) := by decide +kernel
theorem dX3_choose_6 : decode cX3_choose 6 = .ok (.istore 5, 2) := by decide +kernel
theorem dX3_choose_8 : decode cX3_choose 8 = .ok (.iload 5, 2) := by decide +kernel
theorem dX3_choose_10 : decode cX3_choose 10 = .ok (.aload_n 1, 1) := by decide +kernel
theorem dX3_choose_11 : decode cX3_choose 11 = .ok (.getfield 40, 3) := by decide +kernel
theorem dX3_choose_14 : decode cX3_choose 14 = .ok (.if_icmp .ge 45, 3) := by decide +kernel
theorem dX3_choose_17 : decode cX3_choose 17 = .ok (.aload_n 1, 1) := by decide +kernel
theorem dX3_choose_18 : decode cX3_choose 18 = .ok (.getfield 44, 3) := by decide +kernel
theorem dX3_choose_21 : decode cX3_choose 21 = .ok (.iload 5, 2) := by decide +kernel
theorem dX3_choose_23 : decode cX3_choose 23 = .ok (.aaload, 1) := by decide +kernel
theorem dX3_choose_24 : decode cX3_choose 24 = .ok (.astore 6, 2) := by decide +kernel
theorem dX3_choose_26 : decode cX3_choose 26 = .ok (.aload 6, 2) := by decide +kernel
theorem dX3_choose_28 : decode cX3_choose 28 = .ok (.getfield 48, 3) := by decide +kernel
theorem dX3_choose_31 : decode cX3_choose 31 = .ok (.iload 4, 2) := by decide +kernel
theorem dX3_choose_33 : decode cX3_choose 33 = .ok (.if_icmp .ne 20, 3) := by decide +kernel
theorem dX3_choose_36 : decode cX3_choose 36 = .ok (.aload 6, 2) := by decide +kernel
theorem dX3_choose_38 : decode cX3_choose 38 = .ok (.iload_n 2, 1) := by decide +kernel
theorem dX3_choose_39 : decode cX3_choose 39 = .ok (.iload_n 3, 1) := by decide +kernel
theorem dX3_choose_40 : decode cX3_choose 40 = .ok (.invokevirtual 53, 3) := by decide +kernel
theorem dX3_choose_43 : decode cX3_choose 43 = .ok (.ifCond .le 10, 3) := by decide +kernel
theorem dX3_choose_46 : decode cX3_choose 46 = .ok (.aload_n 0, 1) := by decide +kernel
theorem dX3_choose_47 : decode cX3_choose 47 = .ok (.aload_n 1, 1) := by decide +kernel
theorem dX3_choose_48 : decode cX3_choose 48 = .ok (.iload 5, 2) := by decide +kernel
theorem dX3_choose_50 : decode cX3_choose 50 = .ok (.invokevirtual 57, 3) := by decide +kernel
theorem dX3_choose_53 : decode cX3_choose 53 = .ok (.iinc 5 1, 3) := by decide +kernel
theorem dX3_choose_56 : decode cX3_choose 56 = .ok (.goto (-48), 3) := by decide +kernel
theorem dX3_choose_59 : decode cX3_choose 59 = .ok (.return_, 1) := by decide +kernel
theorem dX3_insert_0 : decode cX3_insert 0 = .ok (.aload_n 0, 1) := by decide +kernel
theorem dX3_insert_1 : decode cX3_insert 1 = .ok (.getfield 37, 3) := by decide +kernel
theorem dX3_insert_4 : decode cX3_insert 4 = .ok (.istore_n 3, 1) := by decide +kernel
theorem dX3_insert_5 : decode cX3_insert 5 = .ok (.iload_n 3, 1) := by decide +kernel
theorem dX3_insert_6 : decode cX3_insert 6 = .ok (.ifCond .le 48, 3) := by decide +kernel
theorem dX3_insert_9 : decode cX3_insert 9 = .ok (.aload_n 1, 1) := by decide +kernel
theorem dX3_insert_10 : decode cX3_insert 10 = .ok (.getfield 44, 3) := by decide +kernel
theorem dX3_insert_13 : decode cX3_insert 13 = .ok (.aload_n 0, 1) := by decide +kernel
theorem dX3_insert_14 : decode cX3_insert 14 = .ok (.getfield 9, 3) := by decide +kernel
theorem dX3_insert_17 : decode cX3_insert 17 = .ok (.iload_n 3, 1) := by decide +kernel
theorem dX3_insert_18 : decode cX3_insert 18 = .ok (.iconst 1, 1) := by decide +kernel
theorem dX3_insert_19 : decode cX3_insert 19 = .ok (.isub, 1) := by decide +kernel
theorem dX3_insert_20 : decode cX3_insert 20 = .ok (.iaload, 1) := by decide +kernel
theorem dX3_insert_21 : decode cX3_insert 21 = .ok (.aaload, 1) := by decide +kernel
theorem dX3_insert_22 : decode cX3_insert 22 = .ok (.aload_n 1, 1) := by decide +kernel
theorem dX3_insert_23 : decode cX3_insert 23 = .ok (.getfield 44, 3) := by decide +kernel
theorem dX3_insert_26 : decode cX3_insert 26 = .ok (.iload_n 2, 1) := by decide +kernel
theorem dX3_insert_27 : decode cX3_insert 27 = .ok (.aaload, 1) := by decide +kernel
theorem dX3_insert_28 : decode cX3_insert 28 = .ok (.invokevirtual 61, 3) := by decide +kernel
theorem dX3_insert_31 : decode cX3_insert 31 = .ok (.ifCond .eq 23, 3) := by decide +kernel
theorem dX3_insert_34 : decode cX3_insert 34 = .ok (.aload_n 0, 1) := by decide +kernel
theorem dX3_insert_35 : decode cX3_insert 35 = .ok (.getfield 9, 3) := by decide +kernel
theorem dX3_insert_38 : decode cX3_insert 38 = .ok (.iload_n 3, 1) := by decide +kernel
theorem dX3_insert_39 : decode cX3_insert 39 = .ok (.aload_n 0, 1) := by decide +kernel
theorem dX3_insert_40 : decode cX3_insert 40 = .ok (.getfield 9, 3) := by decide +kernel
theorem dX3_insert_43 : decode cX3_insert 43 = .ok (.iload_n 3, 1) := by decide +kernel
theorem dX3_insert_44 : decode cX3_insert 44 = .ok (.iconst 1, 1) := by decide +kernel
theorem dX3_insert_45 : decode cX3_insert 45 = .ok (.isub, 1) := by decide +kernel
theorem dX3_insert_46 : decode cX3_insert 46 = .ok (.iaload, 1) := by decide +kernel
theorem dX3_insert_47 : decode cX3_insert 47 = .ok (.iastore, 1) := by decide +kernel
theorem dX3_insert_48 : decode cX3_insert 48 = .ok (.iinc 3 (-1), 3) := by decide +kernel
theorem dX3_insert_51 : decode cX3_insert 51 = .ok (.goto (-46), 3) := by decide +kernel
theorem dX3_insert_54 : decode cX3_insert 54 = .ok (.aload_n 0, 1) := by decide +kernel
theorem dX3_insert_55 : decode cX3_insert 55 = .ok (.getfield 9, 3) := by decide +kernel
theorem dX3_insert_58 : decode cX3_insert 58 = .ok (.iload_n 3, 1) := by decide +kernel
theorem dX3_insert_59 : decode cX3_insert 59 = .ok (.iload_n 2, 1) := by decide +kernel
theorem dX3_insert_60 : decode cX3_insert 60 = .ok (.iastore, 1) := by decide +kernel
theorem dX3_insert_61 : decode cX3_insert 61 = .ok (.aload_n 0, 1) := by decide +kernel
theorem dX3_insert_62 : decode cX3_insert 62 = .ok (.dup, 1) := by decide +kernel
theorem dX3_insert_63 : decode cX3_insert 63 = .ok (.getfield 37, 3) := by decide +kernel
theorem dX3_insert_66 : decode cX3_insert 66 = .ok (.iconst 1, 1) := by decide +kernel
theorem dX3_insert_67 : decode cX3_insert 67 = .ok (.iadd, 1) := by decide +kernel
theorem dX3_insert_68 : decode cX3_insert 68 = .ok (.putfield 37, 3) := by decide +kernel
theorem dX3_insert_71 : decode cX3_insert 71 = .ok (.return_, 1) := by decide +kernel
theorem dX3_clashes_0 : decode cX3_clashes 0 = .ok (.iconst 1, 1) := by decide +kernel
theorem dX3_clashes_1 : decode cX3_clashes 1 = .ok (.istore_n 2, 1) := by decide +kernel
theorem dX3_clashes_2 : decode cX3_clashes 2 = .ok (.iload_n 2, 1) := by decide +kernel
theorem dX3_clashes_3 : decode cX3_clashes 3 = .ok (.aload_n 0, 1) := by decide +kernel
theorem dX3_clashes_4 : decode cX3_clashes 4 = .ok (.getfield 37, 3) := by decide +kernel
theorem dX3_clashes_7 : decode cX3_clashes 7 = .ok (.if_icmp .ge 53, 3) := by decide +kernel
theorem dX3_clashes_10 : decode cX3_clashes 10 = .ok (.aload_n 1, 1) := by decide +kernel
theorem dX3_clashes_11 : decode cX3_clashes 11 = .ok (.getfield 44, 3) := by decide +kernel
theorem dX3_clashes_14 : decode cX3_clashes 14 = .ok (.aload_n 0, 1) := by decide +kernel
theorem dX3_clashes_15 : decode cX3_clashes 15 = .ok (.getfield 9, 3) := by decide +kernel
theorem dX3_clashes_18 : decode cX3_clashes 18 = .ok (.iload_n 2, 1) := by decide +kernel
theorem dX3_clashes_19 : decode cX3_clashes 19 = .ok (.iconst 1, 1) := by decide +kernel
theorem dX3_clashes_20 : decode cX3_clashes 20 = .ok (.isub, 1) := by decide +kernel
theorem dX3_clashes_21 : decode cX3_clashes 21 = .ok (.iaload, 1) := by decide +kernel
theorem dX3_clashes_22 : decode cX3_clashes 22 = .ok (.aaload, 1) := by decide +kernel
theorem dX3_clashes_23 : decode cX3_clashes 23 = .ok (.astore_n 3, 1) := by decide +kernel
theorem dX3_clashes_24 : decode cX3_clashes 24 = .ok (.aload_n 1, 1) := by decide +kernel
theorem dX3_clashes_25 : decode cX3_clashes 25 = .ok (.getfield 44, 3) := by decide +kernel
theorem dX3_clashes_28 : decode cX3_clashes 28 = .ok (.aload_n 0, 1) := by decide +kernel
theorem dX3_clashes_29 : decode cX3_clashes 29 = .ok (.getfield 9, 3) := by decide +kernel
theorem dX3_clashes_32 : decode cX3_clashes 32 = .ok (.iload_n 2, 1) := by decide +kernel
theorem dX3_clashes_33 : decode cX3_clashes 33 = .ok (.iaload, 1) := by decide +kernel
theorem dX3_clashes_34 : decode cX3_clashes 34 = .ok (.aaload, 1) := by decide +kernel
theorem dX3_clashes_35 : decode cX3_clashes 35 = .ok (.getfield 65, 3) := by decide +kernel
theorem dX3_clashes_38 : decode cX3_clashes 38 = .ok (.aload_n 3, 1) := by decide +kernel
theorem dX3_clashes_39 : decode cX3_clashes 39 = .ok (.getfield 65, 3) := by decide +kernel
theorem dX3_clashes_42 : decode cX3_clashes 42 = .ok (.aload_n 3, 1) := by decide +kernel
theorem dX3_clashes_43 : decode cX3_clashes 43 = .ok (.getfield 68, 3) := by decide +kernel
theorem dX3_clashes_46 : decode cX3_clashes 46 = .ok (.iconst 0, 1) := by decide +kernel
theorem dX3_clashes_47 : decode cX3_clashes 47 = .ok (.iaload, 1) := by decide +kernel
theorem dX3_clashes_48 : decode cX3_clashes 48 = .ok (.iadd, 1) := by decide +kernel
theorem dX3_clashes_49 : decode cX3_clashes 49 = .ok (.if_icmp .ge 5, 3) := by decide +kernel
theorem dX3_clashes_52 : decode cX3_clashes 52 = .ok (.iconst 1, 1) := by decide +kernel
theorem dX3_clashes_53 : decode cX3_clashes 53 = .ok (.ireturn, 1) := by decide +kernel
theorem dX3_clashes_54 : decode cX3_clashes 54 = .ok (.iinc 2 1, 3) := by decide +kernel
theorem dX3_clashes_57 : decode cX3_clashes 57 = .ok (.goto (-55), 3) := by decide +kernel
theorem dX3_clashes_60 : decode cX3_clashes 60 = .ok (.iconst 0, 1) := by decide +kernel
theorem dX3_clashes_61 : decode cX3_clashes 61 = .ok (.ireturn, 1) := by decide +kernel
theorem dX3_putOn_0 : decode cX3_putOn 0 = .ok (.iconst 1, 1) := by decide +kernel
theorem dX3_putOn_1 : decode cX3_putOn 1 = .ok (.istore 7, 2) := by decide +kernel
theorem dX3_putOn_3 : decode cX3_putOn 3 = .ok (.iconst 0, 1) := by decide +kernel
theorem dX3_putOn_4 : decode cX3_putOn 4 = .ok (.istore 8, 2) := by decide +kernel
theorem dX3_putOn_6 : decode cX3_putOn 6 = .ok (.iload 8, 2) := by decide +kernel
theorem dX3_putOn_8 : decode cX3_putOn 8 = .ok (.aload_n 0, 1) := by decide +kernel
theorem dX3_putOn_9 : decode cX3_putOn 9 = .ok (.getfield 37, 3) := by decide +kernel
theorem dX3_putOn_12 : decode cX3_putOn 12 = .ok (.if_icmp .ge 127, 3) := by decide +kernel
theorem dX3_putOn_15 : decode cX3_putOn 15 = .ok (.aload_n 1, 1) := by decide +kernel
theorem dX3_putOn_16 : decode cX3_putOn 16 = .ok (.getfield 44, 3) := by decide +kernel
theorem dX3_putOn_19 : decode cX3_putOn 19 = .ok (.aload_n 0, 1) := by decide +kernel
theorem dX3_putOn_20 : decode cX3_putOn 20 = .ok (.getfield 9, 3) := by decide +kernel
theorem dX3_putOn_23 : decode cX3_putOn 23 = .ok (.iload 8, 2) := by decide +kernel
theorem dX3_putOn_25 : decode cX3_putOn 25 = .ok (.iaload, 1) := by decide +kernel
theorem dX3_putOn_26 : decode cX3_putOn 26 = .ok (.aaload, 1) := by decide +kernel
theorem dX3_putOn_27 : decode cX3_putOn 27 = .ok (.astore 9, 2) := by decide +kernel
theorem dX3_putOn_29 : decode cX3_putOn 29 = .ok (.aload 9, 2) := by decide +kernel
theorem dX3_putOn_31 : decode cX3_putOn 31 = .ok (.iload_n 2, 1) := by decide +kernel
theorem dX3_putOn_32 : decode cX3_putOn 32 = .ok (.iload_n 3, 1) := by decide +kernel
theorem dX3_putOn_33 : decode cX3_putOn 33 = .ok (.invokevirtual 53, 3) := by decide +kernel
theorem dX3_putOn_36 : decode cX3_putOn 36 = .ok (.istore 10, 2) := by decide +kernel
theorem dX3_putOn_38 : decode cX3_putOn 38 = .ok (.aload 4, 2) := by decide +kernel
theorem dX3_putOn_40 : decode cX3_putOn 40 = .ok (.iload 5, 2) := by decide +kernel
theorem dX3_putOn_42 : decode cX3_putOn 42 = .ok (.iload 7, 2) := by decide +kernel
theorem dX3_putOn_44 : decode cX3_putOn 44 = .ok (.aload 9, 2) := by decide +kernel
theorem dX3_putOn_46 : decode cX3_putOn 46 = .ok (.getfield 65, 3) := by decide +kernel
theorem dX3_putOn_49 : decode cX3_putOn 49 = .ok (.aload 6, 2) := by decide +kernel
theorem dX3_putOn_51 : decode cX3_putOn 51 = .ok (.invokevirtual 71, 3) := by decide +kernel
theorem dX3_putOn_54 : decode cX3_putOn 54 = .ok (.aload_n 0, 1) := by decide +kernel
theorem dX3_putOn_55 : decode cX3_putOn 55 = .ok (.getfield 15, 3) := by decide +kernel
theorem dX3_putOn_58 : decode cX3_putOn 58 = .ok (.iload 8, 2) := by decide +kernel
theorem dX3_putOn_60 : decode cX3_putOn 60 = .ok (.aload 9, 2) := by decide +kernel
theorem dX3_putOn_62 : decode cX3_putOn 62 = .ok (.getfield 65, 3) := by decide +kernel
theorem dX3_putOn_65 : decode cX3_putOn 65 = .ok (.iastore, 1) := by decide +kernel
theorem dX3_putOn_66 : decode cX3_putOn 66 = .ok (.aload_n 0, 1) := by decide +kernel
theorem dX3_putOn_67 : decode cX3_putOn 67 = .ok (.getfield 18, 3) := by decide +kernel
theorem dX3_putOn_70 : decode cX3_putOn 70 = .ok (.iload 8, 2) := by decide +kernel
theorem dX3_putOn_72 : decode cX3_putOn 72 = .ok (.aload 9, 2) := by decide +kernel
theorem dX3_putOn_74 : decode cX3_putOn 74 = .ok (.getfield 68, 3) := by decide +kernel
theorem dX3_putOn_77 : decode cX3_putOn 77 = .ok (.iconst 0, 1) := by decide +kernel
theorem dX3_putOn_78 : decode cX3_putOn 78 = .ok (.iaload, 1) := by decide +kernel
theorem dX3_putOn_79 : decode cX3_putOn 79 = .ok (.iastore, 1) := by decide +kernel
theorem dX3_putOn_80 : decode cX3_putOn 80 = .ok (.aload_n 0, 1) := by decide +kernel
theorem dX3_putOn_81 : decode cX3_putOn 81 = .ok (.getfield 21, 3) := by decide +kernel
theorem dX3_putOn_84 : decode cX3_putOn 84 = .ok (.iload 8, 2) := by decide +kernel
theorem dX3_putOn_86 : decode cX3_putOn 86 = .ok (.aload 6, 2) := by decide +kernel
theorem dX3_putOn_88 : decode cX3_putOn 88 = .ok (.getfield 77, 3) := by decide +kernel
theorem dX3_putOn_91 : decode cX3_putOn 91 = .ok (.iconst 1, 1) := by decide +kernel
theorem dX3_putOn_92 : decode cX3_putOn 92 = .ok (.iadd, 1) := by decide +kernel
theorem dX3_putOn_93 : decode cX3_putOn 93 = .ok (.iastore, 1) := by decide +kernel
theorem dX3_putOn_94 : decode cX3_putOn 94 = .ok (.aload_n 0, 1) := by decide +kernel
theorem dX3_putOn_95 : decode cX3_putOn 95 = .ok (.getfield 24, 3) := by decide +kernel
theorem dX3_putOn_98 : decode cX3_putOn 98 = .ok (.iload 8, 2) := by decide +kernel
theorem dX3_putOn_100 : decode cX3_putOn 100 = .ok (.aload 9, 2) := by decide +kernel
theorem dX3_putOn_102 : decode cX3_putOn 102 = .ok (.getfield 68, 3) := by decide +kernel
theorem dX3_putOn_105 : decode cX3_putOn 105 = .ok (.iload 10, 2) := by decide +kernel
theorem dX3_putOn_107 : decode cX3_putOn 107 = .ok (.iaload, 1) := by decide +kernel
theorem dX3_putOn_108 : decode cX3_putOn 108 = .ok (.iastore, 1) := by decide +kernel
theorem dX3_putOn_109 : decode cX3_putOn 109 = .ok (.aload 9, 2) := by decide +kernel
theorem dX3_putOn_111 : decode cX3_putOn 111 = .ok (.iload 10, 2) := by decide +kernel
theorem dX3_putOn_113 : decode cX3_putOn 113 = .ok (.aload 6, 2) := by decide +kernel
theorem dX3_putOn_115 : decode cX3_putOn 115 = .ok (.invokevirtual 80, 3) := by decide +kernel
theorem dX3_putOn_118 : decode cX3_putOn 118 = .ok (.aload 9, 2) := by decide +kernel
theorem dX3_putOn_120 : decode cX3_putOn 120 = .ok (.getfield 65, 3) := by decide +kernel
theorem dX3_putOn_123 : decode cX3_putOn 123 = .ok (.aload 9, 2) := by decide +kernel
theorem dX3_putOn_125 : decode cX3_putOn 125 = .ok (.getfield 68, 3) := by decide +kernel
theorem dX3_putOn_128 : decode cX3_putOn 128 = .ok (.iconst 0, 1) := by decide +kernel
theorem dX3_putOn_129 : decode cX3_putOn 129 = .ok (.iaload, 1) := by decide +kernel
theorem dX3_putOn_130 : decode cX3_putOn 130 = .ok (.iadd, 1) := by decide +kernel
theorem dX3_putOn_131 : decode cX3_putOn 131 = .ok (.istore 7, 2) := by decide +kernel
theorem dX3_putOn_133 : decode cX3_putOn 133 = .ok (.iinc 8 1, 3) := by decide +kernel
theorem dX3_putOn_136 : decode cX3_putOn 136 = .ok (.goto (-130), 3) := by decide +kernel
theorem dX3_putOn_139 : decode cX3_putOn 139 = .ok (.aload_n 0, 1) := by decide +kernel
theorem dX3_putOn_140 : decode cX3_putOn 140 = .ok (.aload 4, 2) := by decide +kernel
theorem dX3_putOn_142 : decode cX3_putOn 142 = .ok (.iload 5, 2) := by decide +kernel
theorem dX3_putOn_144 : decode cX3_putOn 144 = .ok (.invokevirtual 84, 3) := by decide +kernel
theorem dX3_putOn_147 : decode cX3_putOn 147 = .ok (.putfield 31, 3) := by decide +kernel
theorem dX3_putOn_150 : decode cX3_putOn 150 = .ok (.aload 4, 2) := by decide +kernel
theorem dX3_putOn_152 : decode cX3_putOn 152 = .ok (.iload 5, 2) := by decide +kernel
theorem dX3_putOn_154 : decode cX3_putOn 154 = .ok (.iload 7, 2) := by decide +kernel
theorem dX3_putOn_156 : decode cX3_putOn 156 = .ok (.aload_n 0, 1) := by decide +kernel
theorem dX3_putOn_157 : decode cX3_putOn 157 = .ok (.getfield 31, 3) := by decide +kernel
theorem dX3_putOn_160 : decode cX3_putOn 160 = .ok (.iconst 1, 1) := by decide +kernel
theorem dX3_putOn_161 : decode cX3_putOn 161 = .ok (.iadd, 1) := by decide +kernel
theorem dX3_putOn_162 : decode cX3_putOn 162 = .ok (.aload 6, 2) := by decide +kernel
theorem dX3_putOn_164 : decode cX3_putOn 164 = .ok (.invokevirtual 71, 3) := by decide +kernel
theorem dX3_putOn_167 : decode cX3_putOn 167 = .ok (.aload_n 0, 1) := by decide +kernel
theorem dX3_putOn_168 : decode cX3_putOn 168 = .ok (.aload 6, 2) := by decide +kernel
theorem dX3_putOn_170 : decode cX3_putOn 170 = .ok (.getfield 77, 3) := by decide +kernel
theorem dX3_putOn_173 : decode cX3_putOn 173 = .ok (.putfield 34, 3) := by decide +kernel
theorem dX3_putOn_176 : decode cX3_putOn 176 = .ok (.aload_n 0, 1) := by decide +kernel
theorem dX3_putOn_177 : decode cX3_putOn 177 = .ok (.aload_n 0, 1) := by decide +kernel
theorem dX3_putOn_178 : decode cX3_putOn 178 = .ok (.getfield 37, 3) := by decide +kernel
theorem dX3_putOn_181 : decode cX3_putOn 181 = .ok (.putfield 27, 3) := by decide +kernel
theorem dX3_putOn_184 : decode cX3_putOn 184 = .ok (.return_, 1) := by decide +kernel
theorem dX3_carriedTo_0 : decode cX3_carriedTo 0 = .ok (.iload_n 1, 1) := by decide +kernel
theorem dX3_carriedTo_1 : decode cX3_carriedTo 1 = .ok (.aload_n 0, 1) := by decide +kernel
theorem dX3_carriedTo_2 : decode cX3_carriedTo 2 = .ok (.getfield 31, 3) := by decide +kernel
theorem dX3_carriedTo_5 : decode cX3_carriedTo 5 = .ok (.if_icmp .le 7, 3) := by decide +kernel
theorem dX3_carriedTo_8 : decode cX3_carriedTo 8 = .ok (.iconst (-1), 1) := by decide +kernel
theorem dX3_carriedTo_9 : decode cX3_carriedTo 9 = .ok (.goto 24, 3) := by decide +kernel
theorem dX3_carriedTo_12 : decode cX3_carriedTo 12 = .ok (.aload_n 0, 1) := by decide +kernel
theorem dX3_carriedTo_13 : decode cX3_carriedTo 13 = .ok (.iload_n 1, 1) := by decide +kernel
theorem dX3_carriedTo_14 : decode cX3_carriedTo 14 = .ok (.aload_n 0, 1) := by decide +kernel
theorem dX3_carriedTo_15 : decode cX3_carriedTo 15 = .ok (.getfield 15, 3) := by decide +kernel
theorem dX3_carriedTo_18 : decode cX3_carriedTo 18 = .ok (.aload_n 0, 1) := by decide +kernel
theorem dX3_carriedTo_19 : decode cX3_carriedTo 19 = .ok (.getfield 18, 3) := by decide +kernel
theorem dX3_carriedTo_22 : decode cX3_carriedTo 22 = .ok (.aload_n 0, 1) := by decide +kernel
theorem dX3_carriedTo_23 : decode cX3_carriedTo 23 = .ok (.getfield 21, 3) := by decide +kernel
theorem dX3_carriedTo_26 : decode cX3_carriedTo 26 = .ok (.aload_n 0, 1) := by decide +kernel
theorem dX3_carriedTo_27 : decode cX3_carriedTo 27 = .ok (.getfield 24, 3) := by decide +kernel
theorem dX3_carriedTo_30 : decode cX3_carriedTo 30 = .ok (.invokevirtual 88, 3) := by decide +kernel
theorem dX3_carriedTo_33 : decode cX3_carriedTo 33 = .ok (.ireturn, 1) := by decide +kernel
theorem dX3_backTo_0 : decode cX3_backTo 0 = .ok (.iload_n 1, 1) := by decide +kernel
theorem dX3_backTo_1 : decode cX3_backTo 1 = .ok (.aload_n 0, 1) := by decide +kernel
theorem dX3_backTo_2 : decode cX3_backTo 2 = .ok (.getfield 34, 3) := by decide +kernel
theorem dX3_backTo_5 : decode cX3_backTo 5 = .ok (.if_icmp .le 7, 3) := by decide +kernel
theorem dX3_backTo_8 : decode cX3_backTo 8 = .ok (.iconst (-1), 1) := by decide +kernel
theorem dX3_backTo_9 : decode cX3_backTo 9 = .ok (.goto 24, 3) := by decide +kernel
theorem dX3_backTo_12 : decode cX3_backTo 12 = .ok (.aload_n 0, 1) := by decide +kernel
theorem dX3_backTo_13 : decode cX3_backTo 13 = .ok (.iload_n 1, 1) := by decide +kernel
theorem dX3_backTo_14 : decode cX3_backTo 14 = .ok (.aload_n 0, 1) := by decide +kernel
theorem dX3_backTo_15 : decode cX3_backTo 15 = .ok (.getfield 21, 3) := by decide +kernel
theorem dX3_backTo_18 : decode cX3_backTo 18 = .ok (.aload_n 0, 1) := by decide +kernel
theorem dX3_backTo_19 : decode cX3_backTo 19 = .ok (.getfield 24, 3) := by decide +kernel
theorem dX3_backTo_22 : decode cX3_backTo 22 = .ok (.aload_n 0, 1) := by decide +kernel
theorem dX3_backTo_23 : decode cX3_backTo 23 = .ok (.getfield 15, 3) := by decide +kernel
theorem dX3_backTo_26 : decode cX3_backTo 26 = .ok (.aload_n 0, 1) := by decide +kernel
theorem dX3_backTo_27 : decode cX3_backTo 27 = .ok (.getfield 18, 3) := by decide +kernel
theorem dX3_backTo_30 : decode cX3_backTo 30 = .ok (.invokevirtual 88, 3) := by decide +kernel
theorem dX3_backTo_33 : decode cX3_backTo 33 = .ok (.ireturn, 1) := by decide +kernel
theorem dX3_moved_0 : decode cX3_moved 0 = .ok (.iload_n 1, 1) := by decide +kernel
theorem dX3_moved_1 : decode cX3_moved 1 = .ok (.iconst 1, 1) := by decide +kernel
theorem dX3_moved_2 : decode cX3_moved 2 = .ok (.if_icmp .ge 5, 3) := by decide +kernel
theorem dX3_moved_5 : decode cX3_moved 5 = .ok (.iconst (-1), 1) := by decide +kernel
theorem dX3_moved_6 : decode cX3_moved 6 = .ok (.ireturn, 1) := by decide +kernel
theorem dX3_moved_7 : decode cX3_moved 7 = .ok (.iconst 0, 1) := by decide +kernel
theorem dX3_moved_8 : decode cX3_moved 8 = .ok (.istore 6, 2) := by decide +kernel
theorem dX3_moved_10 : decode cX3_moved 10 = .ok (.iconst 0, 1) := by decide +kernel
theorem dX3_moved_11 : decode cX3_moved 11 = .ok (.istore 7, 2) := by decide +kernel
theorem dX3_moved_13 : decode cX3_moved 13 = .ok (.iload 7, 2) := by decide +kernel
theorem dX3_moved_15 : decode cX3_moved 15 = .ok (.aload_n 0, 1) := by decide +kernel
theorem dX3_moved_16 : decode cX3_moved 16 = .ok (.getfield 27, 3) := by decide +kernel
theorem dX3_moved_19 : decode cX3_moved 19 = .ok (.if_icmp .ge 80, 3) := by decide +kernel
theorem dX3_moved_22 : decode cX3_moved 22 = .ok (.aload_n 2, 1) := by decide +kernel
theorem dX3_moved_23 : decode cX3_moved 23 = .ok (.iload 7, 2) := by decide +kernel
theorem dX3_moved_25 : decode cX3_moved 25 = .ok (.iaload, 1) := by decide +kernel
theorem dX3_moved_26 : decode cX3_moved 26 = .ok (.iload_n 1, 1) := by decide +kernel
theorem dX3_moved_27 : decode cX3_moved 27 = .ok (.if_icmp .gt 72, 3) := by decide +kernel
theorem dX3_moved_30 : decode cX3_moved 30 = .ok (.iload_n 1, 1) := by decide +kernel
theorem dX3_moved_31 : decode cX3_moved 31 = .ok (.aload_n 2, 1) := by decide +kernel
theorem dX3_moved_32 : decode cX3_moved 32 = .ok (.iload 7, 2) := by decide +kernel
theorem dX3_moved_34 : decode cX3_moved 34 = .ok (.iaload, 1) := by decide +kernel
theorem dX3_moved_35 : decode cX3_moved 35 = .ok (.isub, 1) := by decide +kernel
theorem dX3_moved_36 : decode cX3_moved 36 = .ok (.istore 8, 2) := by decide +kernel
theorem dX3_moved_38 : decode cX3_moved 38 = .ok (.iload 8, 2) := by decide +kernel
theorem dX3_moved_40 : decode cX3_moved 40 = .ok (.aload_n 3, 1) := by decide +kernel
theorem dX3_moved_41 : decode cX3_moved 41 = .ok (.iload 7, 2) := by decide +kernel
theorem dX3_moved_43 : decode cX3_moved 43 = .ok (.iaload, 1) := by decide +kernel
theorem dX3_moved_44 : decode cX3_moved 44 = .ok (.if_icmp .ge 26, 3) := by decide +kernel
theorem dX3_moved_47 : decode cX3_moved 47 = .ok (.iload 8, 2) := by decide +kernel
theorem dX3_moved_49 : decode cX3_moved 49 = .ok (.aload 5, 2) := by decide +kernel
theorem dX3_moved_51 : decode cX3_moved 51 = .ok (.iload 7, 2) := by decide +kernel
theorem dX3_moved_53 : decode cX3_moved 53 = .ok (.iaload, 1) := by decide +kernel
theorem dX3_moved_54 : decode cX3_moved 54 = .ok (.if_icmp .ge 14, 3) := by decide +kernel
theorem dX3_moved_57 : decode cX3_moved 57 = .ok (.aload 4, 2) := by decide +kernel
theorem dX3_moved_59 : decode cX3_moved 59 = .ok (.iload 7, 2) := by decide +kernel
theorem dX3_moved_61 : decode cX3_moved 61 = .ok (.iaload, 1) := by decide +kernel
theorem dX3_moved_62 : decode cX3_moved 62 = .ok (.iload 8, 2) := by decide +kernel
theorem dX3_moved_64 : decode cX3_moved 64 = .ok (.iadd, 1) := by decide +kernel
theorem dX3_moved_65 : decode cX3_moved 65 = .ok (.goto 4, 3) := by decide +kernel
theorem dX3_moved_68 : decode cX3_moved 68 = .ok (.iconst (-1), 1) := by decide +kernel
theorem dX3_moved_69 : decode cX3_moved 69 = .ok (.ireturn, 1) := by decide +kernel
theorem dX3_moved_70 : decode cX3_moved 70 = .ok (.aload 4, 2) := by decide +kernel
theorem dX3_moved_72 : decode cX3_moved 72 = .ok (.iload 7, 2) := by decide +kernel
theorem dX3_moved_74 : decode cX3_moved 74 = .ok (.iaload, 1) := by decide +kernel
theorem dX3_moved_75 : decode cX3_moved 75 = .ok (.aload 5, 2) := by decide +kernel
theorem dX3_moved_77 : decode cX3_moved 77 = .ok (.iload 7, 2) := by decide +kernel
theorem dX3_moved_79 : decode cX3_moved 79 = .ok (.iaload, 1) := by decide +kernel
theorem dX3_moved_80 : decode cX3_moved 80 = .ok (.iadd, 1) := by decide +kernel
theorem dX3_moved_81 : decode cX3_moved 81 = .ok (.aload_n 2, 1) := by decide +kernel
theorem dX3_moved_82 : decode cX3_moved 82 = .ok (.iload 7, 2) := by decide +kernel
theorem dX3_moved_84 : decode cX3_moved 84 = .ok (.iaload, 1) := by decide +kernel
theorem dX3_moved_85 : decode cX3_moved 85 = .ok (.isub, 1) := by decide +kernel
theorem dX3_moved_86 : decode cX3_moved 86 = .ok (.aload_n 3, 1) := by decide +kernel
theorem dX3_moved_87 : decode cX3_moved 87 = .ok (.iload 7, 2) := by decide +kernel
theorem dX3_moved_89 : decode cX3_moved 89 = .ok (.iaload, 1) := by decide +kernel
theorem dX3_moved_90 : decode cX3_moved 90 = .ok (.isub, 1) := by decide +kernel
theorem dX3_moved_91 : decode cX3_moved 91 = .ok (.istore 6, 2) := by decide +kernel
theorem dX3_moved_93 : decode cX3_moved 93 = .ok (.iinc 7 1, 3) := by decide +kernel
theorem dX3_moved_96 : decode cX3_moved 96 = .ok (.goto (-83), 3) := by decide +kernel
theorem dX3_moved_99 : decode cX3_moved 99 = .ok (.iload_n 1, 1) := by decide +kernel
theorem dX3_moved_100 : decode cX3_moved 100 = .ok (.iload 6, 2) := by decide +kernel
theorem dX3_moved_102 : decode cX3_moved 102 = .ok (.iadd, 1) := by decide +kernel
theorem dX3_moved_103 : decode cX3_moved 103 = .ok (.ireturn, 1) := by decide +kernel
theorem dX4_init_0 : decode cX4_init 0 = .ok (.aload_n 0, 1) := by decide +kernel
theorem dX4_init_1 : decode cX4_init 1 = .ok (.invokespecial 3, 3) := by decide +kernel
theorem dX4_init_4 : decode cX4_init 4 = .ok (.aload_n 0, 1) := by decide +kernel
theorem dX4_init_5 : decode cX4_init 5 = .ok (.new 9, 3) := by decide +kernel
theorem dX4_init_8 : decode cX4_init 8 = .ok (.dup, 1) := by decide +kernel
theorem dX4_init_9 : decode cX4_init 9 = .ok (.invokespecial 11, 3) := by decide +kernel
theorem dX4_init_12 : decode cX4_init 12 = .ok (.putfield 12, 3) := by decide +kernel
theorem dX4_init_15 : decode cX4_init 15 = .ok (.aload_n 0, 1) := by decide +kernel
theorem dX4_init_16 : decode cX4_init 16 = .ok (.new 9, 3) := by decide +kernel
theorem dX4_init_19 : decode cX4_init 19 = .ok (.dup, 1) := by decide +kernel
theorem dX4_init_20 : decode cX4_init 20 = .ok (.invokespecial 11, 3) := by decide +kernel
theorem dX4_init_23 : decode cX4_init 23 = .ok (.putfield 18, 3) := by decide +kernel
theorem dX4_init_26 : decode cX4_init 26 = .ok (.aload_n 0, 1) := by decide +kernel
theorem dX4_init_27 : decode cX4_init 27 = .ok (.iconst 4, 1) := by decide +kernel
theorem dX4_init_28 : decode cX4_init 28 = .ok (.newarray .int, 2) := by decide +kernel
theorem dX4_init_30 : decode cX4_init 30 = .ok (.putfield 21, 3) := by decide +kernel
theorem dX4_init_33 : decode cX4_init 33 = .ok (.return_, 1) := by decide +kernel
theorem dX4_joins_0 : decode cX4_joins 0 = .ok (.aload_n 1, 1) := by decide +kernel
theorem dX4_joins_1 : decode cX4_joins 1 = .ok (.invokevirtual 25, 3) := by decide +kernel
theorem dX4_joins_4 : decode cX4_joins 4 = .ok (.ifCond .eq 18, 3) := by decide +kernel
theorem dX4_joins_7 : decode cX4_joins 7 = .ok (.aload_n 2, 1) := by decide +kernel
theorem dX4_joins_8 : decode cX4_joins 8 = .ok (.invokevirtual 25, 3) := by decide +kernel
theorem dX4_joins_11 : decode cX4_joins 11 = .ok (.ifCond .eq 11, 3) := by decide +kernel
theorem dX4_joins_14 : decode cX4_joins 14 = .ok (.aload_n 1, 1) := by decide +kernel
theorem dX4_joins_15 : decode cX4_joins 15 = .ok (.aload_n 2, 1) := by decide +kernel
theorem dX4_joins_16 : decode cX4_joins 16 = .ok (.invokevirtual 29, 3) := by decide +kernel
theorem dX4_joins_19 : decode cX4_joins 19 = .ok (.ifCond .ne 5, 3) := by decide +kernel
theorem dX4_joins_22 : decode cX4_joins 22 = .ok (.iconst 0, 1) := by decide +kernel
theorem dX4_joins_23 : decode cX4_joins 23 = .ok (.ireturn, 1) := by decide +kernel
theorem dX4_joins_24 : decode cX4_joins 24 = .ok (.aload_n 1, 1) := by decide +kernel
theorem dX4_joins_25 : decode cX4_joins 25 = .ok (.getfield 33, 3) := by decide +kernel
theorem dX4_joins_28 : decode cX4_joins 28 = .ok (.iconst 0, 1) := by decide +kernel
theorem dX4_joins_29 : decode cX4_joins 29 = .ok (.iaload, 1) := by decide +kernel
theorem dX4_joins_30 : decode cX4_joins 30 = .ok (.aload_n 2, 1) := by decide +kernel
theorem dX4_joins_31 : decode cX4_joins 31 = .ok (.getfield 33, 3) := by decide +kernel
theorem dX4_joins_34 : decode cX4_joins 34 = .ok (.iconst 0, 1) := by decide +kernel
theorem dX4_joins_35 : decode cX4_joins 35 = .ok (.iaload, 1) := by decide +kernel
theorem dX4_joins_36 : decode cX4_joins 36 = .ok (.invokestatic 36, 3) := by decide +kernel
theorem dX4_joins_39 : decode cX4_joins 39 = .ok (.istore 4, 2) := by decide +kernel
theorem dX4_joins_41 : decode cX4_joins 41 = .ok (.aload_n 1, 1) := by decide +kernel
theorem dX4_joins_42 : decode cX4_joins 42 = .ok (.iload 4, 2) := by decide +kernel
theorem dX4_joins_44 : decode cX4_joins 44 = .ok (.invokevirtual 42, 3) := by decide +kernel
theorem dX4_joins_47 : decode cX4_joins 47 = .ok (.ifCond .eq 12, 3) := by decide +kernel
theorem dX4_joins_50 : decode cX4_joins 50 = .ok (.aload_n 2, 1) := by decide +kernel
theorem dX4_joins_51 : decode cX4_joins 51 = .ok (.iload 4, 2) := by decide +kernel
theorem dX4_joins_53 : decode cX4_joins 53 = .ok (.invokevirtual 42, 3) := by decide +kernel
theorem dX4_joins_56 : decode cX4_joins 56 = .ok (.ifCond .ne 5, 3) := by decide +kernel
theorem dX4_joins_59 : decode cX4_joins 59 = .ok (.iconst 0, 1) := by decide +kernel
theorem dX4_joins_60 : decode cX4_joins 60 = .ok (.ireturn, 1) := by decide +kernel
theorem dX4_joins_61 : decode cX4_joins 61 = .ok (.aload_n 0, 1) := by decide +kernel
theorem dX4_joins_62 : decode cX4_joins 62 = .ok (.getfield 12, 3) := by decide +kernel
theorem dX4_joins_65 : decode cX4_joins 65 = .ok (.aload_n 1, 1) := by decide +kernel
theorem dX4_joins_66 : decode cX4_joins 66 = .ok (.invokevirtual 46, 3) := by decide +kernel
theorem dX4_joins_69 : decode cX4_joins 69 = .ok (.aload_n 0, 1) := by decide +kernel
theorem dX4_joins_70 : decode cX4_joins 70 = .ok (.getfield 18, 3) := by decide +kernel
theorem dX4_joins_73 : decode cX4_joins 73 = .ok (.aload_n 2, 1) := by decide +kernel
theorem dX4_joins_74 : decode cX4_joins 74 = .ok (.invokevirtual 46, 3) := by decide +kernel
theorem dX4_joins_77 : decode cX4_joins 77 = .ok (.aload_n 0, 1) := by decide +kernel
theorem dX4_joins_78 : decode cX4_joins 78 = .ok (.getfield 12, 3) := by decide +kernel
theorem dX4_joins_81 : decode cX4_joins 81 = .ok (.aload_n 2, 1) := by decide +kernel
theorem dX4_joins_82 : decode cX4_joins 82 = .ok (.invokevirtual 50, 3) := by decide +kernel
theorem dX4_joins_85 : decode cX4_joins 85 = .ok (.aload_n 0, 1) := by decide +kernel
theorem dX4_joins_86 : decode cX4_joins 86 = .ok (.getfield 18, 3) := by decide +kernel
theorem dX4_joins_89 : decode cX4_joins 89 = .ok (.aload_n 1, 1) := by decide +kernel
theorem dX4_joins_90 : decode cX4_joins 90 = .ok (.invokevirtual 50, 3) := by decide +kernel
theorem dX4_joins_93 : decode cX4_joins 93 = .ok (.aload_n 0, 1) := by decide +kernel
theorem dX4_joins_94 : decode cX4_joins 94 = .ok (.invokevirtual 53, 3) := by decide +kernel
theorem dX4_joins_97 : decode cX4_joins 97 = .ok (.ifCond .ne 5, 3) := by decide +kernel
theorem dX4_joins_100 : decode cX4_joins 100 = .ok (.iconst 0, 1) := by decide +kernel
theorem dX4_joins_101 : decode cX4_joins 101 = .ok (.ireturn, 1) := by decide +kernel
theorem dX4_joins_102 : decode cX4_joins 102 = .ok (.iconst 0, 1) := by decide +kernel
theorem dX4_joins_103 : decode cX4_joins 103 = .ok (.istore 5, 2) := by decide +kernel
theorem dX4_joins_105 : decode cX4_joins 105 = .ok (.iload 5, 2) := by decide +kernel
theorem dX4_joins_107 : decode cX4_joins 107 = .ok (.iload_n 3, 1) := by decide +kernel
theorem dX4_joins_108 : decode cX4_joins 108 = .ok (.if_icmp .ge 15, 3) := by decide +kernel
theorem dX4_joins_111 : decode cX4_joins 111 = .ok (.aload_n 0, 1) := by decide +kernel
theorem dX4_joins_112 : decode cX4_joins 112 = .ok (.iload 5, 2) := by decide +kernel
theorem dX4_joins_114 : decode cX4_joins 114 = .ok (.invokevirtual 56, 3) := by decide +kernel
theorem dX4_joins_117 : decode cX4_joins 117 = .ok (.iinc 5 1, 3) := by decide +kernel
theorem dX4_joins_120 : decode cX4_joins 120 = .ok (.goto (-15), 3) := by decide +kernel
theorem dX4_joins_123 : decode cX4_joins 123 = .ok (.aload_n 1, 1) := by decide +kernel
theorem dX4_joins_124 : decode cX4_joins 124 = .ok (.aload_n 0, 1) := by decide +kernel
theorem dX4_joins_125 : decode cX4_joins 125 = .ok (.getfield 12, 3) := by decide +kernel
theorem dX4_joins_128 : decode cX4_joins 128 = .ok (.invokevirtual 46, 3) := by decide +kernel
theorem dX4_joins_131 : decode cX4_joins 131 = .ok (.iconst 1, 1) := by decide +kernel
theorem dX4_joins_132 : decode cX4_joins 132 = .ok (.ireturn, 1) := by decide +kernel
theorem dX4_takeAlts_0 : decode cX4_takeAlts 0 = .ok (.iconst 1, 1) := by decide +kernel
theorem dX4_takeAlts_1 : decode cX4_takeAlts 1 = .ok (.istore_n 1, 1) := by decide +kernel
theorem dX4_takeAlts_2 : decode cX4_takeAlts 2 = .ok (.iload_n 1, 1) := by decide +kernel
theorem dX4_takeAlts_3 : decode cX4_takeAlts 3 = .ok (.aload_n 0, 1) := by decide +kernel
theorem dX4_takeAlts_4 : decode cX4_takeAlts 4 = .ok (.getfield 18, 3) := by decide +kernel
theorem dX4_takeAlts_7 : decode cX4_takeAlts 7 = .ok (.getfield 60, 3) := by decide +kernel
theorem dX4_takeAlts_10 : decode cX4_takeAlts 10 = .ok (.if_icmp .ge 75, 3) := by decide +kernel
theorem dX4_takeAlts_13 : decode cX4_takeAlts 13 = .ok (.aload_n 0, 1) := by decide +kernel
theorem dX4_takeAlts_14 : decode cX4_takeAlts 14 = .ok (.getfield 12, 3) := by decide +kernel
theorem dX4_takeAlts_17 : decode cX4_takeAlts 17 = .ok (.aload_n 0, 1) := by decide +kernel
theorem dX4_takeAlts_18 : decode cX4_takeAlts 18 = .ok (.getfield 18, 3) := by decide +kernel
theorem dX4_takeAlts_21 : decode cX4_takeAlts 21 = .ok (.iload_n 1, 1) := by decide +kernel
theorem dX4_takeAlts_22 : decode cX4_takeAlts 22 = .ok (.invokevirtual 64, 3) := by decide +kernel
theorem dX4_takeAlts_25 : decode cX4_takeAlts 25 = .ok (.istore_n 2, 1) := by decide +kernel
theorem dX4_takeAlts_26 : decode cX4_takeAlts 26 = .ok (.iload_n 2, 1) := by decide +kernel
theorem dX4_takeAlts_27 : decode cX4_takeAlts 27 = .ok (.iconst (-1), 1) := by decide +kernel
theorem dX4_takeAlts_28 : decode cX4_takeAlts 28 = .ok (.if_icmp .ne 44, 3) := by decide +kernel
theorem dX4_takeAlts_31 : decode cX4_takeAlts 31 = .ok (.aload_n 0, 1) := by decide +kernel
theorem dX4_takeAlts_32 : decode cX4_takeAlts 32 = .ok (.getfield 12, 3) := by decide +kernel
theorem dX4_takeAlts_35 : decode cX4_takeAlts 35 = .ok (.getfield 60, 3) := by decide +kernel
theorem dX4_takeAlts_38 : decode cX4_takeAlts 38 = .ok (.istore_n 2, 1) := by decide +kernel
theorem dX4_takeAlts_39 : decode cX4_takeAlts 39 = .ok (.iload_n 2, 1) := by decide +kernel
theorem dX4_takeAlts_40 : decode cX4_takeAlts 40 = .ok (.iconst 4, 1) := by decide +kernel
theorem dX4_takeAlts_41 : decode cX4_takeAlts 41 = .ok (.if_icmp .ne 5, 3) := by decide +kernel
theorem dX4_takeAlts_44 : decode cX4_takeAlts 44 = .ok (.iconst 0, 1) := by decide +kernel
theorem dX4_takeAlts_45 : decode cX4_takeAlts 45 = .ok (.ireturn, 1) := by decide +kernel
theorem dX4_takeAlts_46 : decode cX4_takeAlts 46 = .ok (.aload_n 0, 1) := by decide +kernel
theorem dX4_takeAlts_47 : decode cX4_takeAlts 47 = .ok (.getfield 12, 3) := by decide +kernel
theorem dX4_takeAlts_50 : decode cX4_takeAlts 50 = .ok (.iload_n 2, 1) := by decide +kernel
theorem dX4_takeAlts_51 : decode cX4_takeAlts 51 = .ok (.aload_n 0, 1) := by decide +kernel
theorem dX4_takeAlts_52 : decode cX4_takeAlts 52 = .ok (.getfield 18, 3) := by decide +kernel
theorem dX4_takeAlts_55 : decode cX4_takeAlts 55 = .ok (.iload_n 1, 1) := by decide +kernel
theorem dX4_takeAlts_56 : decode cX4_takeAlts 56 = .ok (.invokevirtual 68, 3) := by decide +kernel
theorem dX4_takeAlts_59 : decode cX4_takeAlts 59 = .ok (.aload_n 0, 1) := by decide +kernel
theorem dX4_takeAlts_60 : decode cX4_takeAlts 60 = .ok (.getfield 12, 3) := by decide +kernel
theorem dX4_takeAlts_63 : decode cX4_takeAlts 63 = .ok (.dup, 1) := by decide +kernel
theorem dX4_takeAlts_64 : decode cX4_takeAlts 64 = .ok (.getfield 60, 3) := by decide +kernel
theorem dX4_takeAlts_67 : decode cX4_takeAlts 67 = .ok (.iconst 1, 1) := by decide +kernel
theorem dX4_takeAlts_68 : decode cX4_takeAlts 68 = .ok (.iadd, 1) := by decide +kernel
theorem dX4_takeAlts_69 : decode cX4_takeAlts 69 = .ok (.putfield 60, 3) := by decide +kernel
theorem dX4_takeAlts_72 : decode cX4_takeAlts 72 = .ok (.aload_n 0, 1) := by decide +kernel
theorem dX4_takeAlts_73 : decode cX4_takeAlts 73 = .ok (.getfield 21, 3) := by decide +kernel
theorem dX4_takeAlts_76 : decode cX4_takeAlts 76 = .ok (.iload_n 1, 1) := by decide +kernel
theorem dX4_takeAlts_77 : decode cX4_takeAlts 77 = .ok (.iload_n 2, 1) := by decide +kernel
theorem dX4_takeAlts_78 : decode cX4_takeAlts 78 = .ok (.iastore, 1) := by decide +kernel
theorem dX4_takeAlts_79 : decode cX4_takeAlts 79 = .ok (.iinc 1 1, 3) := by decide +kernel
theorem dX4_takeAlts_82 : decode cX4_takeAlts 82 = .ok (.goto (-80), 3) := by decide +kernel
theorem dX4_takeAlts_85 : decode cX4_takeAlts 85 = .ok (.iconst 1, 1) := by decide +kernel
theorem dX4_takeAlts_86 : decode cX4_takeAlts 86 = .ok (.ireturn, 1) := by decide +kernel
theorem dX4_joinCalls_0 : decode cX4_joinCalls 0 = .ok (.aload_n 0, 1) := by decide +kernel
theorem dX4_joinCalls_1 : decode cX4_joinCalls 1 = .ok (.getfield 12, 3) := by decide +kernel
theorem dX4_joinCalls_4 : decode cX4_joinCalls 4 = .ok (.getfield 72, 3) := by decide +kernel
theorem dX4_joinCalls_7 : decode cX4_joinCalls 7 = .ok (.iload_n 1, 1) := by decide +kernel
theorem dX4_joinCalls_8 : decode cX4_joinCalls 8 = .ok (.iaload, 1) := by decide +kernel
theorem dX4_joinCalls_9 : decode cX4_joinCalls 9 = .ok (.aload_n 0, 1) := by decide +kernel
theorem dX4_joinCalls_10 : decode cX4_joinCalls 10 = .ok (.getfield 18, 3) := by decide +kernel
theorem dX4_joinCalls_13 : decode cX4_joinCalls 13 = .ok (.getfield 72, 3) := by decide +kernel
theorem dX4_joinCalls_16 : decode cX4_joinCalls 16 = .ok (.iload_n 1, 1) := by decide +kernel
theorem dX4_joinCalls_17 : decode cX4_joinCalls 17 = .ok (.iaload, 1) := by decide +kernel
theorem dX4_joinCalls_18 : decode cX4_joinCalls 18 = .ok (.invokestatic 36, 3) := by decide +kernel
theorem dX4_joinCalls_21 : decode cX4_joinCalls 21 = .ok (.istore_n 2, 1) := by decide +kernel
theorem dX4_joinCalls_22 : decode cX4_joinCalls 22 = .ok (.aload_n 0, 1) := by decide +kernel
theorem dX4_joinCalls_23 : decode cX4_joinCalls 23 = .ok (.iload_n 1, 1) := by decide +kernel
theorem dX4_joinCalls_24 : decode cX4_joinCalls 24 = .ok (.invokevirtual 75, 3) := by decide +kernel
theorem dX4_joinCalls_27 : decode cX4_joinCalls 27 = .ok (.istore_n 3, 1) := by decide +kernel
theorem dX4_joinCalls_28 : decode cX4_joinCalls 28 = .ok (.iconst 0, 1) := by decide +kernel
theorem dX4_joinCalls_29 : decode cX4_joinCalls 29 = .ok (.istore 4, 2) := by decide +kernel
theorem dX4_joinCalls_31 : decode cX4_joinCalls 31 = .ok (.iload 4, 2) := by decide +kernel
theorem dX4_joinCalls_33 : decode cX4_joinCalls 33 = .ok (.iload_n 2, 1) := by decide +kernel
theorem dX4_joinCalls_34 : decode cX4_joinCalls 34 = .ok (.if_icmp .ge 43, 3) := by decide +kernel
theorem dX4_joinCalls_37 : decode cX4_joinCalls 37 = .ok (.aload_n 0, 1) := by decide +kernel
theorem dX4_joinCalls_38 : decode cX4_joinCalls 38 = .ok (.getfield 12, 3) := by decide +kernel
theorem dX4_joinCalls_41 : decode cX4_joinCalls 41 = .ok (.iload_n 1, 1) := by decide +kernel
theorem dX4_joinCalls_42 : decode cX4_joinCalls 42 = .ok (.iload 4, 2) := by decide +kernel
theorem dX4_joinCalls_44 : decode cX4_joinCalls 44 = .ok (.aload_n 0, 1) := by decide +kernel
theorem dX4_joinCalls_45 : decode cX4_joinCalls 45 = .ok (.aload_n 0, 1) := by decide +kernel
theorem dX4_joinCalls_46 : decode cX4_joinCalls 46 = .ok (.getfield 12, 3) := by decide +kernel
theorem dX4_joinCalls_49 : decode cX4_joinCalls 49 = .ok (.iload_n 1, 1) := by decide +kernel
theorem dX4_joinCalls_50 : decode cX4_joinCalls 50 = .ok (.iload 4, 2) := by decide +kernel
theorem dX4_joinCalls_52 : decode cX4_joinCalls 52 = .ok (.invokevirtual 78, 3) := by decide +kernel
theorem dX4_joinCalls_55 : decode cX4_joinCalls 55 = .ok (.aload_n 0, 1) := by decide +kernel
theorem dX4_joinCalls_56 : decode cX4_joinCalls 56 = .ok (.getfield 18, 3) := by decide +kernel
theorem dX4_joinCalls_59 : decode cX4_joinCalls 59 = .ok (.iload_n 1, 1) := by decide +kernel
theorem dX4_joinCalls_60 : decode cX4_joinCalls 60 = .ok (.iload 4, 2) := by decide +kernel
theorem dX4_joinCalls_62 : decode cX4_joinCalls 62 = .ok (.invokevirtual 78, 3) := by decide +kernel
theorem dX4_joinCalls_65 : decode cX4_joinCalls 65 = .ok (.invokevirtual 81, 3) := by decide +kernel
theorem dX4_joinCalls_68 : decode cX4_joinCalls 68 = .ok (.invokevirtual 84, 3) := by decide +kernel
theorem dX4_joinCalls_71 : decode cX4_joinCalls 71 = .ok (.iinc 4 1, 3) := by decide +kernel
theorem dX4_joinCalls_74 : decode cX4_joinCalls 74 = .ok (.goto (-43), 3) := by decide +kernel
theorem dX4_joinCalls_77 : decode cX4_joinCalls 77 = .ok (.aload_n 0, 1) := by decide +kernel
theorem dX4_joinCalls_78 : decode cX4_joinCalls 78 = .ok (.getfield 12, 3) := by decide +kernel
theorem dX4_joinCalls_81 : decode cX4_joinCalls 81 = .ok (.getfield 72, 3) := by decide +kernel
theorem dX4_joinCalls_84 : decode cX4_joinCalls 84 = .ok (.iload_n 1, 1) := by decide +kernel
theorem dX4_joinCalls_85 : decode cX4_joinCalls 85 = .ok (.iload_n 2, 1) := by decide +kernel
theorem dX4_joinCalls_86 : decode cX4_joinCalls 86 = .ok (.iastore, 1) := by decide +kernel
theorem dX4_joinCalls_87 : decode cX4_joinCalls 87 = .ok (.aload_n 0, 1) := by decide +kernel
theorem dX4_joinCalls_88 : decode cX4_joinCalls 88 = .ok (.getfield 12, 3) := by decide +kernel
theorem dX4_joinCalls_91 : decode cX4_joinCalls 91 = .ok (.getfield 88, 3) := by decide +kernel
theorem dX4_joinCalls_94 : decode cX4_joinCalls 94 = .ok (.iload_n 1, 1) := by decide +kernel
theorem dX4_joinCalls_95 : decode cX4_joinCalls 95 = .ok (.iload_n 3, 1) := by decide +kernel
theorem dX4_joinCalls_96 : decode cX4_joinCalls 96 = .ok (.bastore, 1) := by decide +kernel
theorem dX4_joinCalls_97 : decode cX4_joinCalls 97 = .ok (.return_, 1) := by decide +kernel
theorem dX4_joinedPhase_0 : decode cX4_joinedPhase 0 = .ok (.aload_n 0, 1) := by decide +kernel
theorem dX4_joinedPhase_1 : decode cX4_joinedPhase 1 = .ok (.getfield 12, 3) := by decide +kernel
theorem dX4_joinedPhase_4 : decode cX4_joinedPhase 4 = .ok (.getfield 72, 3) := by decide +kernel
theorem dX4_joinedPhase_7 : decode cX4_joinedPhase 7 = .ok (.iload_n 1, 1) := by decide +kernel
theorem dX4_joinedPhase_8 : decode cX4_joinedPhase 8 = .ok (.iaload, 1) := by decide +kernel
theorem dX4_joinedPhase_9 : decode cX4_joinedPhase 9 = .ok (.iconst 1, 1) := by decide +kernel
theorem dX4_joinedPhase_10 : decode cX4_joinedPhase 10 = .ok (.if_icmp .ne 13, 3) := by decide +kernel
theorem dX4_joinedPhase_13 : decode cX4_joinedPhase 13 = .ok (.aload_n 0, 1) := by decide +kernel
theorem dX4_joinedPhase_14 : decode cX4_joinedPhase 14 = .ok (.getfield 18, 3) := by decide +kernel
theorem dX4_joinedPhase_17 : decode cX4_joinedPhase 17 = .ok (.getfield 88, 3) := by decide +kernel
theorem dX4_joinedPhase_20 : decode cX4_joinedPhase 20 = .ok (.iload_n 1, 1) := by decide +kernel
theorem dX4_joinedPhase_21 : decode cX4_joinedPhase 21 = .ok (.baload, 1) := by decide +kernel
theorem dX4_joinedPhase_22 : decode cX4_joinedPhase 22 = .ok (.ireturn, 1) := by decide +kernel
theorem dX4_joinedPhase_23 : decode cX4_joinedPhase 23 = .ok (.aload_n 0, 1) := by decide +kernel
theorem dX4_joinedPhase_24 : decode cX4_joinedPhase 24 = .ok (.getfield 12, 3) := by decide +kernel
theorem dX4_joinedPhase_27 : decode cX4_joinedPhase 27 = .ok (.getfield 88, 3) := by decide +kernel
theorem dX4_joinedPhase_30 : decode cX4_joinedPhase 30 = .ok (.iload_n 1, 1) := by decide +kernel
theorem dX4_joinedPhase_31 : decode cX4_joinedPhase 31 = .ok (.baload, 1) := by decide +kernel
theorem dX4_joinedPhase_32 : decode cX4_joinedPhase 32 = .ok (.ifCond .eq 32, 3) := by decide +kernel
theorem dX4_joinedPhase_35 : decode cX4_joinedPhase 35 = .ok (.aload_n 0, 1) := by decide +kernel
theorem dX4_joinedPhase_36 : decode cX4_joinedPhase 36 = .ok (.getfield 18, 3) := by decide +kernel
theorem dX4_joinedPhase_39 : decode cX4_joinedPhase 39 = .ok (.getfield 72, 3) := by decide +kernel
theorem dX4_joinedPhase_42 : decode cX4_joinedPhase 42 = .ok (.iload_n 1, 1) := by decide +kernel
theorem dX4_joinedPhase_43 : decode cX4_joinedPhase 43 = .ok (.iaload, 1) := by decide +kernel
theorem dX4_joinedPhase_44 : decode cX4_joinedPhase 44 = .ok (.iconst 1, 1) := by decide +kernel
theorem dX4_joinedPhase_45 : decode cX4_joinedPhase 45 = .ok (.if_icmp .eq 15, 3) := by decide +kernel
theorem dX4_joinedPhase_48 : decode cX4_joinedPhase 48 = .ok (.aload_n 0, 1) := by decide +kernel
theorem dX4_joinedPhase_49 : decode cX4_joinedPhase 49 = .ok (.getfield 18, 3) := by decide +kernel
theorem dX4_joinedPhase_52 : decode cX4_joinedPhase 52 = .ok (.getfield 88, 3) := by decide +kernel
theorem dX4_joinedPhase_55 : decode cX4_joinedPhase 55 = .ok (.iload_n 1, 1) := by decide +kernel
theorem dX4_joinedPhase_56 : decode cX4_joinedPhase 56 = .ok (.baload, 1) := by decide +kernel
theorem dX4_joinedPhase_57 : decode cX4_joinedPhase 57 = .ok (.ifCond .eq 7, 3) := by decide +kernel
theorem dX4_joinedPhase_60 : decode cX4_joinedPhase 60 = .ok (.iconst 1, 1) := by decide +kernel
theorem dX4_joinedPhase_61 : decode cX4_joinedPhase 61 = .ok (.goto 4, 3) := by decide +kernel
theorem dX4_joinedPhase_64 : decode cX4_joinedPhase 64 = .ok (.iconst 0, 1) := by decide +kernel
theorem dX4_joinedPhase_65 : decode cX4_joinedPhase 65 = .ok (.ireturn, 1) := by decide +kernel
theorem dX4_joinedCall_0 : decode cX4_joinedCall 0 = .ok (.iload_n 1, 1) := by decide +kernel
theorem dX4_joinedCall_1 : decode cX4_joinedCall 1 = .ok (.ifCond .le 5, 3) := by decide +kernel
theorem dX4_joinedCall_4 : decode cX4_joinedCall 4 = .ok (.iload_n 1, 1) := by decide +kernel
theorem dX4_joinedCall_5 : decode cX4_joinedCall 5 = .ok (.ireturn, 1) := by decide +kernel
theorem dX4_joinedCall_6 : decode cX4_joinedCall 6 = .ok (.iload_n 2, 1) := by decide +kernel
theorem dX4_joinedCall_7 : decode cX4_joinedCall 7 = .ok (.ifCond .le 15, 3) := by decide +kernel
theorem dX4_joinedCall_10 : decode cX4_joinedCall 10 = .ok (.iload_n 2, 1) := by decide +kernel
theorem dX4_joinedCall_11 : decode cX4_joinedCall 11 = .ok (.iconst 4, 1) := by decide +kernel
theorem dX4_joinedCall_12 : decode cX4_joinedCall 12 = .ok (.if_icmp .ge 10, 3) := by decide +kernel
theorem dX4_joinedCall_15 : decode cX4_joinedCall 15 = .ok (.aload_n 0, 1) := by decide +kernel
theorem dX4_joinedCall_16 : decode cX4_joinedCall 16 = .ok (.getfield 21, 3) := by decide +kernel
theorem dX4_joinedCall_19 : decode cX4_joinedCall 19 = .ok (.iload_n 2, 1) := by decide +kernel
theorem dX4_joinedCall_20 : decode cX4_joinedCall 20 = .ok (.iaload, 1) := by decide +kernel
theorem dX4_joinedCall_21 : decode cX4_joinedCall 21 = .ok (.ireturn, 1) := by decide +kernel
theorem dX4_joinedCall_22 : decode cX4_joinedCall 22 = .ok (.iload_n 1, 1) := by decide +kernel
theorem dX4_joinedCall_23 : decode cX4_joinedCall 23 = .ok (.ifCond .eq 7, 3) := by decide +kernel
theorem dX4_joinedCall_26 : decode cX4_joinedCall 26 = .ok (.iload_n 2, 1) := by decide +kernel
theorem dX4_joinedCall_27 : decode cX4_joinedCall 27 = .ok (.ifCond .ne 7, 3) := by decide +kernel
theorem dX4_joinedCall_30 : decode cX4_joinedCall 30 = .ok (.iconst 0, 1) := by decide +kernel
theorem dX4_joinedCall_31 : decode cX4_joinedCall 31 = .ok (.goto 4, 3) := by decide +kernel
theorem dX4_joinedCall_34 : decode cX4_joinedCall 34 = .ok (.iconst (-1), 1) := by decide +kernel
theorem dX4_joinedCall_35 : decode cX4_joinedCall 35 = .ok (.ireturn, 1) := by decide +kernel
theorem dX5_init_0 : decode cX5_init 0 = .ok (.aload_n 0, 1) := by decide +kernel
theorem dX5_init_1 : decode cX5_init 1 = .ok (.invokespecial 3, 3) := by decide +kernel
theorem dX5_init_4 : decode cX5_init 4 = .ok (.aload_n 0, 1) := by decide +kernel
theorem dX5_init_5 : decode cX5_init 5 = .ok (.iconst 0, 1) := by decide +kernel
theorem dX5_init_6 : decode cX5_init 6 = .ok (.iload_n 1, 1) := by decide +kernel
theorem dX5_init_7 : decode cX5_init 7 = .ok (.invokestatic 9, 3) := by decide +kernel
theorem dX5_init_10 : decode cX5_init 10 = .ok (.putfield 15, 3) := by decide +kernel
theorem dX5_init_13 : decode cX5_init 13 = .ok (.aload_n 0, 1) := by decide +kernel
theorem dX5_init_14 : decode cX5_init 14 = .ok (.aload_n 0, 1) := by decide +kernel
theorem dX5_init_15 : decode cX5_init 15 = .ok (.getfield 15, 3) := by decide +kernel
theorem dX5_init_18 : decode cX5_init 18 = .ok (.bipush 20, 2) := by decide +kernel
theorem dX5_init_20 : decode cX5_init 20 = .ok (.imul, 1) := by decide +kernel
theorem dX5_init_21 : decode cX5_init 21 = .ok (.newarray .int, 2) := by decide +kernel
theorem dX5_init_23 : decode cX5_init 23 = .ok (.putfield 21, 3) := by decide +kernel
theorem dX5_init_26 : decode cX5_init 26 = .ok (.aload_n 0, 1) := by decide +kernel
theorem dX5_init_27 : decode cX5_init 27 = .ok (.aload_n 0, 1) := by decide +kernel
theorem dX5_init_28 : decode cX5_init 28 = .ok (.getfield 15, 3) := by decide +kernel
theorem dX5_init_31 : decode cX5_init 31 = .ok (.newarray .int, 2) := by decide +kernel
theorem dX5_init_33 : decode cX5_init 33 = .ok (.putfield 25, 3) := by decide +kernel
theorem dX5_init_36 : decode cX5_init 36 = .ok (.return_, 1) := by decide +kernel
theorem dX5_clear_0 : decode cX5_clear 0 = .ok (.aload_n 0, 1) := by decide +kernel
theorem dX5_clear_1 : decode cX5_clear 1 = .ok (.iconst 0, 1) := by decide +kernel
theorem dX5_clear_2 : decode cX5_clear 2 = .ok (.putfield 28, 3) := by decide +kernel
theorem dX5_clear_5 : decode cX5_clear 5 = .ok (.return_, 1) := by decide +kernel
theorem dX5_open_0 : decode cX5_open 0 = .ok (.aload_n 0, 1) := by decide +kernel
theorem dX5_open_1 : decode cX5_open 1 = .ok (.getfield 28, 3) := by decide +kernel
theorem dX5_open_4 : decode cX5_open 4 = .ok (.aload_n 0, 1) := by decide +kernel
theorem dX5_open_5 : decode cX5_open 5 = .ok (.getfield 15, 3) := by decide +kernel
theorem dX5_open_8 : decode cX5_open 8 = .ok (.if_icmp .ge 23, 3) := by decide +kernel
theorem dX5_open_11 : decode cX5_open 11 = .ok (.aload_n 0, 1) := by decide +kernel
theorem dX5_open_12 : decode cX5_open 12 = .ok (.getfield 25, 3) := by decide +kernel
theorem dX5_open_15 : decode cX5_open 15 = .ok (.aload_n 0, 1) := by decide +kernel
theorem dX5_open_16 : decode cX5_open 16 = .ok (.getfield 28, 3) := by decide +kernel
theorem dX5_open_19 : decode cX5_open 19 = .ok (.iconst 0, 1) := by decide +kernel
theorem dX5_open_20 : decode cX5_open 20 = .ok (.iastore, 1) := by decide +kernel
theorem dX5_open_21 : decode cX5_open 21 = .ok (.aload_n 0, 1) := by decide +kernel
theorem dX5_open_22 : decode cX5_open 22 = .ok (.dup, 1) := by decide +kernel
theorem dX5_open_23 : decode cX5_open 23 = .ok (.getfield 28, 3) := by decide +kernel
theorem dX5_open_26 : decode cX5_open 26 = .ok (.iconst 1, 1) := by decide +kernel
theorem dX5_open_27 : decode cX5_open 27 = .ok (.iadd, 1) := by decide +kernel
theorem dX5_open_28 : decode cX5_open 28 = .ok (.putfield 28, 3) := by decide +kernel
theorem dX5_open_31 : decode cX5_open 31 = .ok (.return_, 1) := by decide +kernel
theorem dX5_add_0 : decode cX5_add 0 = .ok (.aload_n 0, 1) := by decide +kernel
theorem dX5_add_1 : decode cX5_add 1 = .ok (.getfield 28, 3) := by decide +kernel
theorem dX5_add_4 : decode cX5_add 4 = .ok (.iconst 1, 1) := by decide +kernel
theorem dX5_add_5 : decode cX5_add 5 = .ok (.isub, 1) := by decide +kernel
theorem dX5_add_6 : decode cX5_add 6 = .ok (.istore_n 2, 1) := by decide +kernel
theorem dX5_add_7 : decode cX5_add 7 = .ok (.iload_n 2, 1) := by decide +kernel
theorem dX5_add_8 : decode cX5_add 8 = .ok (.ifCond .lt 41, 3) := by decide +kernel
theorem dX5_add_11 : decode cX5_add 11 = .ok (.aload_n 0, 1) := by decide +kernel
theorem dX5_add_12 : decode cX5_add 12 = .ok (.getfield 25, 3) := by decide +kernel
theorem dX5_add_15 : decode cX5_add 15 = .ok (.iload_n 2, 1) := by decide +kernel
theorem dX5_add_16 : decode cX5_add 16 = .ok (.iaload, 1) := by decide +kernel
theorem dX5_add_17 : decode cX5_add 17 = .ok (.bipush 20, 2) := by decide +kernel
theorem dX5_add_19 : decode cX5_add 19 = .ok (.if_icmp .ge 30, 3) := by decide +kernel
theorem dX5_add_22 : decode cX5_add 22 = .ok (.aload_n 0, 1) := by decide +kernel
theorem dX5_add_23 : decode cX5_add 23 = .ok (.getfield 21, 3) := by decide +kernel
theorem dX5_add_26 : decode cX5_add 26 = .ok (.iload_n 2, 1) := by decide +kernel
theorem dX5_add_27 : decode cX5_add 27 = .ok (.bipush 20, 2) := by decide +kernel
theorem dX5_add_29 : decode cX5_add 29 = .ok (.imul, 1) := by decide +kernel
theorem dX5_add_30 : decode cX5_add 30 = .ok (.aload_n 0, 1) := by decide +kernel
theorem dX5_add_31 : decode cX5_add 31 = .ok (.getfield 25, 3) := by decide +kernel
theorem dX5_add_34 : decode cX5_add 34 = .ok (.iload_n 2, 1) := by decide +kernel
theorem dX5_add_35 : decode cX5_add 35 = .ok (.iaload, 1) := by decide +kernel
theorem dX5_add_36 : decode cX5_add 36 = .ok (.iadd, 1) := by decide +kernel
theorem dX5_add_37 : decode cX5_add 37 = .ok (.iload_n 1, 1) := by decide +kernel
theorem dX5_add_38 : decode cX5_add 38 = .ok (.iastore, 1) := by decide +kernel
theorem dX5_add_39 : decode cX5_add 39 = .ok (.aload_n 0, 1) := by decide +kernel
theorem dX5_add_40 : decode cX5_add 40 = .ok (.getfield 25, 3) := by decide +kernel
theorem dX5_add_43 : decode cX5_add 43 = .ok (.iload_n 2, 1) := by decide +kernel
theorem dX5_add_44 : decode cX5_add 44 = .ok (.dup2, 1) := by decide +kernel
theorem dX5_add_45 : decode cX5_add 45 = .ok (.iaload, 1) := by decide +kernel
theorem dX5_add_46 : decode cX5_add 46 = .ok (.iconst 1, 1) := by decide +kernel
theorem dX5_add_47 : decode cX5_add 47 = .ok (.iadd, 1) := by decide +kernel
theorem dX5_add_48 : decode cX5_add 48 = .ok (.iastore, 1) := by decide +kernel
theorem dX5_add_49 : decode cX5_add 49 = .ok (.return_, 1) := by decide +kernel
theorem dX5_addAll_0 : decode cX5_addAll 0 = .ok (.iconst 0, 1) := by decide +kernel
theorem dX5_addAll_1 : decode cX5_addAll 1 = .ok (.istore_n 2, 1) := by decide +kernel
theorem dX5_addAll_2 : decode cX5_addAll 2 = .ok (.iload_n 2, 1) := by decide +kernel
theorem dX5_addAll_3 : decode cX5_addAll 3 = .ok (.aload_n 1, 1) := by decide +kernel
theorem dX5_addAll_4 : decode cX5_addAll 4 = .ok (.getfield 28, 3) := by decide +kernel
theorem dX5_addAll_7 : decode cX5_addAll 7 = .ok (.if_icmp .ge 46, 3) := by decide +kernel
theorem dX5_addAll_10 : decode cX5_addAll 10 = .ok (.aload_n 0, 1) := by decide +kernel
theorem dX5_addAll_11 : decode cX5_addAll 11 = .ok (.invokevirtual 31, 3) := by decide +kernel
theorem dX5_addAll_14 : decode cX5_addAll 14 = .ok (.iconst 0, 1) := by decide +kernel
theorem dX5_addAll_15 : decode cX5_addAll 15 = .ok (.istore_n 3, 1) := by decide +kernel
theorem dX5_addAll_16 : decode cX5_addAll 16 = .ok (.iload_n 3, 1) := by decide +kernel
theorem dX5_addAll_17 : decode cX5_addAll 17 = .ok (.aload_n 1, 1) := by decide +kernel
theorem dX5_addAll_18 : decode cX5_addAll 18 = .ok (.getfield 25, 3) := by decide +kernel
theorem dX5_addAll_21 : decode cX5_addAll 21 = .ok (.iload_n 2, 1) := by decide +kernel
theorem dX5_addAll_22 : decode cX5_addAll 22 = .ok (.iaload, 1) := by decide +kernel
theorem dX5_addAll_23 : decode cX5_addAll 23 = .ok (.if_icmp .ge 24, 3) := by decide +kernel
theorem dX5_addAll_26 : decode cX5_addAll 26 = .ok (.aload_n 0, 1) := by decide +kernel
theorem dX5_addAll_27 : decode cX5_addAll 27 = .ok (.aload_n 1, 1) := by decide +kernel
theorem dX5_addAll_28 : decode cX5_addAll 28 = .ok (.getfield 21, 3) := by decide +kernel
theorem dX5_addAll_31 : decode cX5_addAll 31 = .ok (.iload_n 2, 1) := by decide +kernel
theorem dX5_addAll_32 : decode cX5_addAll 32 = .ok (.bipush 20, 2) := by decide +kernel
theorem dX5_addAll_34 : decode cX5_addAll 34 = .ok (.imul, 1) := by decide +kernel
theorem dX5_addAll_35 : decode cX5_addAll 35 = .ok (.iload_n 3, 1) := by decide +kernel
theorem dX5_addAll_36 : decode cX5_addAll 36 = .ok (.iadd, 1) := by decide +kernel
theorem dX5_addAll_37 : decode cX5_addAll 37 = .ok (.iaload, 1) := by decide +kernel
theorem dX5_addAll_38 : decode cX5_addAll 38 = .ok (.invokevirtual 34, 3) := by decide +kernel
theorem dX5_addAll_41 : decode cX5_addAll 41 = .ok (.iinc 3 1, 3) := by decide +kernel
theorem dX5_addAll_44 : decode cX5_addAll 44 = .ok (.goto (-28), 3) := by decide +kernel
theorem dX5_addAll_47 : decode cX5_addAll 47 = .ok (.iinc 2 1, 3) := by decide +kernel
theorem dX5_addAll_50 : decode cX5_addAll 50 = .ok (.goto (-48), 3) := by decide +kernel
theorem dX5_addAll_53 : decode cX5_addAll 53 = .ok (.return_, 1) := by decide +kernel
theorem dX5_sizeOf_0 : decode cX5_sizeOf 0 = .ok (.iload_n 1, 1) := by decide +kernel
theorem dX5_sizeOf_1 : decode cX5_sizeOf 1 = .ok (.ifCond .lt 20, 3) := by decide +kernel
theorem dX5_sizeOf_4 : decode cX5_sizeOf 4 = .ok (.iload_n 1, 1) := by decide +kernel
theorem dX5_sizeOf_5 : decode cX5_sizeOf 5 = .ok (.aload_n 0, 1) := by decide +kernel
theorem dX5_sizeOf_6 : decode cX5_sizeOf 6 = .ok (.getfield 28, 3) := by decide +kernel
theorem dX5_sizeOf_9 : decode cX5_sizeOf 9 = .ok (.if_icmp .ge 12, 3) := by decide +kernel
theorem dX5_sizeOf_12 : decode cX5_sizeOf 12 = .ok (.aload_n 0, 1) := by decide +kernel
theorem dX5_sizeOf_13 : decode cX5_sizeOf 13 = .ok (.getfield 25, 3) := by decide +kernel
theorem dX5_sizeOf_16 : decode cX5_sizeOf 16 = .ok (.iload_n 1, 1) := by decide +kernel
theorem dX5_sizeOf_17 : decode cX5_sizeOf 17 = .ok (.iaload, 1) := by decide +kernel
theorem dX5_sizeOf_18 : decode cX5_sizeOf 18 = .ok (.goto 4, 3) := by decide +kernel
theorem dX5_sizeOf_21 : decode cX5_sizeOf 21 = .ok (.iconst (-1), 1) := by decide +kernel
theorem dX5_sizeOf_22 : decode cX5_sizeOf 22 = .ok (.ireturn, 1) := by decide +kernel
theorem dX5_octetAt_0 : decode cX5_octetAt 0 = .ok (.iload_n 2, 1) := by decide +kernel
theorem dX5_octetAt_1 : decode cX5_octetAt 1 = .ok (.ifCond .lt 26, 3) := by decide +kernel
theorem dX5_octetAt_4 : decode cX5_octetAt 4 = .ok (.iload_n 2, 1) := by decide +kernel
theorem dX5_octetAt_5 : decode cX5_octetAt 5 = .ok (.aload_n 0, 1) := by decide +kernel
theorem dX5_octetAt_6 : decode cX5_octetAt 6 = .ok (.iload_n 1, 1) := by decide +kernel
theorem dX5_octetAt_7 : decode cX5_octetAt 7 = .ok (.invokevirtual 38, 3) := by decide +kernel
theorem dX5_octetAt_10 : decode cX5_octetAt 10 = .ok (.if_icmp .ge 17, 3) := by decide +kernel
theorem dX5_octetAt_13 : decode cX5_octetAt 13 = .ok (.aload_n 0, 1) := by decide +kernel
theorem dX5_octetAt_14 : decode cX5_octetAt 14 = .ok (.getfield 21, 3) := by decide +kernel
theorem dX5_octetAt_17 : decode cX5_octetAt 17 = .ok (.iload_n 1, 1) := by decide +kernel
theorem dX5_octetAt_18 : decode cX5_octetAt 18 = .ok (.bipush 20, 2) := by decide +kernel
theorem dX5_octetAt_20 : decode cX5_octetAt 20 = .ok (.imul, 1) := by decide +kernel
theorem dX5_octetAt_21 : decode cX5_octetAt 21 = .ok (.iload_n 2, 1) := by decide +kernel
theorem dX5_octetAt_22 : decode cX5_octetAt 22 = .ok (.iadd, 1) := by decide +kernel
theorem dX5_octetAt_23 : decode cX5_octetAt 23 = .ok (.iaload, 1) := by decide +kernel
theorem dX5_octetAt_24 : decode cX5_octetAt 24 = .ok (.goto 4, 3) := by decide +kernel
theorem dX5_octetAt_27 : decode cX5_octetAt 27 = .ok (.iconst (-1), 1) := by decide +kernel
theorem dX5_octetAt_28 : decode cX5_octetAt 28 = .ok (.ireturn, 1) := by decide +kernel
theorem dX5_indexOf_0 : decode cX5_indexOf 0 = .ok (.iconst 0, 1) := by decide +kernel
theorem dX5_indexOf_1 : decode cX5_indexOf 1 = .ok (.istore_n 3, 1) := by decide +kernel
theorem dX5_indexOf_2 : decode cX5_indexOf 2 = .ok (.iload_n 3, 1) := by decide +kernel
theorem dX5_indexOf_3 : decode cX5_indexOf 3 = .ok (.aload_n 0, 1) := by decide +kernel
theorem dX5_indexOf_4 : decode cX5_indexOf 4 = .ok (.getfield 28, 3) := by decide +kernel
theorem dX5_indexOf_7 : decode cX5_indexOf 7 = .ok (.if_icmp .ge 33, 3) := by decide +kernel
theorem dX5_indexOf_10 : decode cX5_indexOf 10 = .ok (.iload_n 2, 1) := by decide +kernel
theorem dX5_indexOf_11 : decode cX5_indexOf 11 = .ok (.ifCond .lt 29, 3) := by decide +kernel
theorem dX5_indexOf_14 : decode cX5_indexOf 14 = .ok (.iload_n 2, 1) := by decide +kernel
theorem dX5_indexOf_15 : decode cX5_indexOf 15 = .ok (.aload_n 1, 1) := by decide +kernel
theorem dX5_indexOf_16 : decode cX5_indexOf 16 = .ok (.getfield 28, 3) := by decide +kernel
theorem dX5_indexOf_19 : decode cX5_indexOf 19 = .ok (.if_icmp .ge 21, 3) := by decide +kernel
theorem dX5_indexOf_22 : decode cX5_indexOf 22 = .ok (.aload_n 0, 1) := by decide +kernel
theorem dX5_indexOf_23 : decode cX5_indexOf 23 = .ok (.iload_n 3, 1) := by decide +kernel
theorem dX5_indexOf_24 : decode cX5_indexOf 24 = .ok (.aload_n 1, 1) := by decide +kernel
theorem dX5_indexOf_25 : decode cX5_indexOf 25 = .ok (.iload_n 2, 1) := by decide +kernel
theorem dX5_indexOf_26 : decode cX5_indexOf 26 = .ok (.invokevirtual 42, 3) := by decide +kernel
theorem dX5_indexOf_29 : decode cX5_indexOf 29 = .ok (.ifCond .eq 5, 3) := by decide +kernel
theorem dX5_indexOf_32 : decode cX5_indexOf 32 = .ok (.iload_n 3, 1) := by decide +kernel
theorem dX5_indexOf_33 : decode cX5_indexOf 33 = .ok (.ireturn, 1) := by decide +kernel
theorem dX5_indexOf_34 : decode cX5_indexOf 34 = .ok (.iinc 3 1, 3) := by decide +kernel
theorem dX5_indexOf_37 : decode cX5_indexOf 37 = .ok (.goto (-35), 3) := by decide +kernel
theorem dX5_indexOf_40 : decode cX5_indexOf 40 = .ok (.iconst (-1), 1) := by decide +kernel
theorem dX5_indexOf_41 : decode cX5_indexOf 41 = .ok (.ireturn, 1) := by decide +kernel
theorem dX5_isName_0 : decode cX5_isName 0 = .ok (.aload_n 0, 1) := by decide +kernel
theorem dX5_isName_1 : decode cX5_isName 1 = .ok (.getfield 25, 3) := by decide +kernel
theorem dX5_isName_4 : decode cX5_isName 4 = .ok (.iload_n 1, 1) := by decide +kernel
theorem dX5_isName_5 : decode cX5_isName 5 = .ok (.iaload, 1) := by decide +kernel
theorem dX5_isName_6 : decode cX5_isName 6 = .ok (.aload_n 2, 1) := by decide +kernel
theorem dX5_isName_7 : decode cX5_isName 7 = .ok (.getfield 25, 3) := by decide +kernel
theorem dX5_isName_10 : decode cX5_isName 10 = .ok (.iload_n 3, 1) := by decide +kernel
theorem dX5_isName_11 : decode cX5_isName 11 = .ok (.iaload, 1) := by decide +kernel
theorem dX5_isName_12 : decode cX5_isName 12 = .ok (.if_icmp .eq 5, 3) := by decide +kernel
theorem dX5_isName_15 : decode cX5_isName 15 = .ok (.iconst 0, 1) := by decide +kernel
theorem dX5_isName_16 : decode cX5_isName 16 = .ok (.ireturn, 1) := by decide +kernel
theorem dX5_isName_17 : decode cX5_isName 17 = .ok (.iconst 0, 1) := by decide +kernel
theorem dX5_isName_18 : decode cX5_isName 18 = .ok (.istore 4, 2) := by decide +kernel
theorem dX5_isName_20 : decode cX5_isName 20 = .ok (.iload 4, 2) := by decide +kernel
theorem dX5_isName_22 : decode cX5_isName 22 = .ok (.aload_n 0, 1) := by decide +kernel
theorem dX5_isName_23 : decode cX5_isName 23 = .ok (.getfield 25, 3) := by decide +kernel
theorem dX5_isName_26 : decode cX5_isName 26 = .ok (.iload_n 1, 1) := by decide +kernel
theorem dX5_isName_27 : decode cX5_isName 27 = .ok (.iaload, 1) := by decide +kernel
theorem dX5_isName_28 : decode cX5_isName 28 = .ok (.if_icmp .ge 38, 3) := by decide +kernel
theorem dX5_isName_31 : decode cX5_isName 31 = .ok (.aload_n 0, 1) := by decide +kernel
theorem dX5_isName_32 : decode cX5_isName 32 = .ok (.getfield 21, 3) := by decide +kernel
theorem dX5_isName_35 : decode cX5_isName 35 = .ok (.iload_n 1, 1) := by decide +kernel
theorem dX5_isName_36 : decode cX5_isName 36 = .ok (.bipush 20, 2) := by decide +kernel
theorem dX5_isName_38 : decode cX5_isName 38 = .ok (.imul, 1) := by decide +kernel
theorem dX5_isName_39 : decode cX5_isName 39 = .ok (.iload 4, 2) := by decide +kernel
theorem dX5_isName_41 : decode cX5_isName 41 = .ok (.iadd, 1) := by decide +kernel
theorem dX5_isName_42 : decode cX5_isName 42 = .ok (.iaload, 1) := by decide +kernel
theorem dX5_isName_43 : decode cX5_isName 43 = .ok (.aload_n 2, 1) := by decide +kernel
theorem dX5_isName_44 : decode cX5_isName 44 = .ok (.getfield 21, 3) := by decide +kernel
theorem dX5_isName_47 : decode cX5_isName 47 = .ok (.iload_n 3, 1) := by decide +kernel
theorem dX5_isName_48 : decode cX5_isName 48 = .ok (.bipush 20, 2) := by decide +kernel
theorem dX5_isName_50 : decode cX5_isName 50 = .ok (.imul, 1) := by decide +kernel
theorem dX5_isName_51 : decode cX5_isName 51 = .ok (.iload 4, 2) := by decide +kernel
theorem dX5_isName_53 : decode cX5_isName 53 = .ok (.iadd, 1) := by decide +kernel
theorem dX5_isName_54 : decode cX5_isName 54 = .ok (.iaload, 1) := by decide +kernel
theorem dX5_isName_55 : decode cX5_isName 55 = .ok (.if_icmp .eq 5, 3) := by decide +kernel
theorem dX5_isName_58 : decode cX5_isName 58 = .ok (.iconst 0, 1) := by decide +kernel
theorem dX5_isName_59 : decode cX5_isName 59 = .ok (.ireturn, 1) := by decide +kernel
theorem dX5_isName_60 : decode cX5_isName 60 = .ok (.iinc 4 1, 3) := by decide +kernel
theorem dX5_isName_63 : decode cX5_isName 63 = .ok (.goto (-43), 3) := by decide +kernel
theorem dX5_isName_66 : decode cX5_isName 66 = .ok (.iconst 1, 1) := by decide +kernel
theorem dX5_isName_67 : decode cX5_isName 67 = .ok (.ireturn, 1) := by decide +kernel
theorem dX5_indexIn_0 : decode cX5_indexIn 0 = .ok (.iconst 0, 1) := by decide +kernel
theorem dX5_indexIn_1 : decode cX5_indexIn 1 = .ok (.istore 4, 2) := by decide +kernel
theorem dX5_indexIn_3 : decode cX5_indexIn 3 = .ok (.iload 4, 2) := by decide +kernel
theorem dX5_indexIn_5 : decode cX5_indexIn 5 = .ok (.aload_n 0, 1) := by decide +kernel
theorem dX5_indexIn_6 : decode cX5_indexIn 6 = .ok (.getfield 28, 3) := by decide +kernel
theorem dX5_indexIn_9 : decode cX5_indexIn 9 = .ok (.if_icmp .ge 37, 3) := by decide +kernel
theorem dX5_indexIn_12 : decode cX5_indexIn 12 = .ok (.aload_n 1, 1) := by decide +kernel
theorem dX5_indexIn_13 : decode cX5_indexIn 13 = .ok (.iload_n 2, 1) := by decide +kernel
theorem dX5_indexIn_14 : decode cX5_indexIn 14 = .ok (.iload_n 3, 1) := by decide +kernel
theorem dX5_indexIn_15 : decode cX5_indexIn 15 = .ok (.aload_n 0, 1) := by decide +kernel
theorem dX5_indexIn_16 : decode cX5_indexIn 16 = .ok (.getfield 21, 3) := by decide +kernel
theorem dX5_indexIn_19 : decode cX5_indexIn 19 = .ok (.iload 4, 2) := by decide +kernel
theorem dX5_indexIn_21 : decode cX5_indexIn 21 = .ok (.bipush 20, 2) := by decide +kernel
theorem dX5_indexIn_23 : decode cX5_indexIn 23 = .ok (.imul, 1) := by decide +kernel
theorem dX5_indexIn_24 : decode cX5_indexIn 24 = .ok (.aload_n 0, 1) := by decide +kernel
theorem dX5_indexIn_25 : decode cX5_indexIn 25 = .ok (.getfield 25, 3) := by decide +kernel
theorem dX5_indexIn_28 : decode cX5_indexIn 28 = .ok (.iload 4, 2) := by decide +kernel
theorem dX5_indexIn_30 : decode cX5_indexIn 30 = .ok (.iaload, 1) := by decide +kernel
theorem dX5_indexIn_31 : decode cX5_indexIn 31 = .ok (.invokevirtual 46, 3) := by decide +kernel
theorem dX5_indexIn_34 : decode cX5_indexIn 34 = .ok (.ifCond .eq 6, 3) := by decide +kernel
theorem dX5_indexIn_37 : decode cX5_indexIn 37 = .ok (.iload 4, 2) := by decide +kernel
theorem dX5_indexIn_39 : decode cX5_indexIn 39 = .ok (.ireturn, 1) := by decide +kernel
theorem dX5_indexIn_40 : decode cX5_indexIn 40 = .ok (.iinc 4 1, 3) := by decide +kernel
theorem dX5_indexIn_43 : decode cX5_indexIn 43 = .ok (.goto (-40), 3) := by decide +kernel
theorem dX5_indexIn_46 : decode cX5_indexIn 46 = .ok (.iconst (-1), 1) := by decide +kernel
theorem dX5_indexIn_47 : decode cX5_indexIn 47 = .ok (.ireturn, 1) := by decide +kernel
theorem dX5_writeName_0 : decode cX5_writeName 0 = .ok (.aload_n 2, 1) := by decide +kernel
theorem dX5_writeName_1 : decode cX5_writeName 1 = .ok (.aload_n 0, 1) := by decide +kernel
theorem dX5_writeName_2 : decode cX5_writeName 2 = .ok (.getfield 21, 3) := by decide +kernel
theorem dX5_writeName_5 : decode cX5_writeName 5 = .ok (.iload_n 1, 1) := by decide +kernel
theorem dX5_writeName_6 : decode cX5_writeName 6 = .ok (.bipush 20, 2) := by decide +kernel
theorem dX5_writeName_8 : decode cX5_writeName 8 = .ok (.imul, 1) := by decide +kernel
theorem dX5_writeName_9 : decode cX5_writeName 9 = .ok (.aload_n 0, 1) := by decide +kernel
theorem dX5_writeName_10 : decode cX5_writeName 10 = .ok (.iload_n 1, 1) := by decide +kernel
theorem dX5_writeName_11 : decode cX5_writeName 11 = .ok (.invokevirtual 38, 3) := by decide +kernel
theorem dX5_writeName_14 : decode cX5_writeName 14 = .ok (.invokevirtual 52, 3) := by decide +kernel
theorem dX5_writeName_17 : decode cX5_writeName 17 = .ok (.return_, 1) := by decide +kernel
theorem dX6_init_0 : decode cX6_init 0 = .ok (.aload_n 0, 1) := by decide +kernel
theorem dX6_init_1 : decode cX6_init 1 = .ok (.invokespecial 3, 3) := by decide +kernel
theorem dX6_init_4 : decode cX6_init 4 = .ok (.aload_n 0, 1) := by decide +kernel
theorem dX6_init_5 : decode cX6_init 5 = .ok (.sipush 8000, 3) := by decide +kernel
theorem dX6_init_8 : decode cX6_init 8 = .ok (.newarray .int, 2) := by decide +kernel
theorem dX6_init_10 : decode cX6_init 10 = .ok (.putfield 9, 3) := by decide +kernel
theorem dX6_init_13 : decode cX6_init 13 = .ok (.return_, 1) := by decide +kernel
theorem dX6_clear_0 : decode cX6_clear 0 = .ok (.aload_n 0, 1) := by decide +kernel
theorem dX6_clear_1 : decode cX6_clear 1 = .ok (.iconst 0, 1) := by decide +kernel
theorem dX6_clear_2 : decode cX6_clear 2 = .ok (.putfield 15, 3) := by decide +kernel
theorem dX6_clear_5 : decode cX6_clear 5 = .ok (.aload_n 0, 1) := by decide +kernel
theorem dX6_clear_6 : decode cX6_clear 6 = .ok (.iconst 0, 1) := by decide +kernel
theorem dX6_clear_7 : decode cX6_clear 7 = .ok (.putfield 19, 3) := by decide +kernel
theorem dX6_clear_10 : decode cX6_clear 10 = .ok (.return_, 1) := by decide +kernel
theorem dX6_add_0 : decode cX6_add 0 = .ok (.aload_n 0, 1) := by decide +kernel
theorem dX6_add_1 : decode cX6_add 1 = .ok (.getfield 15, 3) := by decide +kernel
theorem dX6_add_4 : decode cX6_add 4 = .ok (.sipush 8000, 3) := by decide +kernel
theorem dX6_add_7 : decode cX6_add 7 = .ok (.if_icmp .ge 26, 3) := by decide +kernel
theorem dX6_add_10 : decode cX6_add 10 = .ok (.aload_n 0, 1) := by decide +kernel
theorem dX6_add_11 : decode cX6_add 11 = .ok (.getfield 9, 3) := by decide +kernel
theorem dX6_add_14 : decode cX6_add 14 = .ok (.aload_n 0, 1) := by decide +kernel
theorem dX6_add_15 : decode cX6_add 15 = .ok (.getfield 15, 3) := by decide +kernel
theorem dX6_add_18 : decode cX6_add 18 = .ok (.iload_n 1, 1) := by decide +kernel
theorem dX6_add_19 : decode cX6_add 19 = .ok (.iastore, 1) := by decide +kernel
theorem dX6_add_20 : decode cX6_add 20 = .ok (.aload_n 0, 1) := by decide +kernel
theorem dX6_add_21 : decode cX6_add 21 = .ok (.dup, 1) := by decide +kernel
theorem dX6_add_22 : decode cX6_add 22 = .ok (.getfield 15, 3) := by decide +kernel
theorem dX6_add_25 : decode cX6_add 25 = .ok (.iconst 1, 1) := by decide +kernel
theorem dX6_add_26 : decode cX6_add 26 = .ok (.iadd, 1) := by decide +kernel
theorem dX6_add_27 : decode cX6_add 27 = .ok (.putfield 15, 3) := by decide +kernel
theorem dX6_add_30 : decode cX6_add 30 = .ok (.goto 8, 3) := by decide +kernel
theorem dX6_add_33 : decode cX6_add 33 = .ok (.aload_n 0, 1) := by decide +kernel
theorem dX6_add_34 : decode cX6_add 34 = .ok (.iconst 1, 1) := by decide +kernel
theorem dX6_add_35 : decode cX6_add 35 = .ok (.putfield 19, 3) := by decide +kernel
theorem dX6_add_38 : decode cX6_add 38 = .ok (.return_, 1) := by decide +kernel
theorem dX6_addText_0 : decode cX6_addText 0 = .ok (.iconst 0, 1) := by decide +kernel
theorem dX6_addText_1 : decode cX6_addText 1 = .ok (.istore_n 2, 1) := by decide +kernel
theorem dX6_addText_2 : decode cX6_addText 2 = .ok (.iload_n 2, 1) := by decide +kernel
theorem dX6_addText_3 : decode cX6_addText 3 = .ok (.aload_n 1, 1) := by decide +kernel
theorem dX6_addText_4 : decode cX6_addText 4 = .ok (.invokevirtual 23, 3) := by decide +kernel
theorem dX6_addText_7 : decode cX6_addText 7 = .ok (.if_icmp .ge 18, 3) := by decide +kernel
theorem dX6_addText_10 : decode cX6_addText 10 = .ok (.aload_n 0, 1) := by decide +kernel
theorem dX6_addText_11 : decode cX6_addText 11 = .ok (.aload_n 1, 1) := by decide +kernel
theorem dX6_addText_12 : decode cX6_addText 12 = .ok (.iload_n 2, 1) := by decide +kernel
theorem dX6_addText_13 : decode cX6_addText 13 = .ok (.invokevirtual 29, 3) := by decide +kernel
theorem dX6_addText_16 : decode cX6_addText 16 = .ok (.invokevirtual 33, 3) := by decide +kernel
theorem dX6_addText_19 : decode cX6_addText 19 = .ok (.iinc 2 1, 3) := by decide +kernel
theorem dX6_addText_22 : decode cX6_addText 22 = .ok (.goto (-20), 3) := by decide +kernel
theorem dX6_addText_25 : decode cX6_addText 25 = .ok (.return_, 1) := by decide +kernel
theorem dX6_addPart_0 : decode cX6_addPart 0 = .ok (.iconst 0, 1) := by decide +kernel
theorem dX6_addPart_1 : decode cX6_addPart 1 = .ok (.iload_n 2, 1) := by decide +kernel
theorem dX6_addPart_2 : decode cX6_addPart 2 = .ok (.invokestatic 37, 3) := by decide +kernel
theorem dX6_addPart_5 : decode cX6_addPart 5 = .ok (.istore 4, 2) := by decide +kernel
theorem dX6_addPart_7 : decode cX6_addPart 7 = .ok (.iload 4, 2) := by decide +kernel
theorem dX6_addPart_9 : decode cX6_addPart 9 = .ok (.iload_n 2, 1) := by decide +kernel
theorem dX6_addPart_10 : decode cX6_addPart 10 = .ok (.iload_n 3, 1) := by decide +kernel
theorem dX6_addPart_11 : decode cX6_addPart 11 = .ok (.iadd, 1) := by decide +kernel
theorem dX6_addPart_12 : decode cX6_addPart 12 = .ok (.if_icmp .ge 24, 3) := by decide +kernel
theorem dX6_addPart_15 : decode cX6_addPart 15 = .ok (.iload 4, 2) := by decide +kernel
theorem dX6_addPart_17 : decode cX6_addPart 17 = .ok (.aload_n 1, 1) := by decide +kernel
theorem dX6_addPart_18 : decode cX6_addPart 18 = .ok (.arraylength, 1) := by decide +kernel
theorem dX6_addPart_19 : decode cX6_addPart 19 = .ok (.if_icmp .ge 17, 3) := by decide +kernel
theorem dX6_addPart_22 : decode cX6_addPart 22 = .ok (.aload_n 0, 1) := by decide +kernel
theorem dX6_addPart_23 : decode cX6_addPart 23 = .ok (.aload_n 1, 1) := by decide +kernel
theorem dX6_addPart_24 : decode cX6_addPart 24 = .ok (.iload 4, 2) := by decide +kernel
theorem dX6_addPart_26 : decode cX6_addPart 26 = .ok (.iaload, 1) := by decide +kernel
theorem dX6_addPart_27 : decode cX6_addPart 27 = .ok (.invokevirtual 33, 3) := by decide +kernel
theorem dX6_addPart_30 : decode cX6_addPart 30 = .ok (.iinc 4 1, 3) := by decide +kernel
theorem dX6_addPart_33 : decode cX6_addPart 33 = .ok (.goto (-26), 3) := by decide +kernel
theorem dX6_addPart_36 : decode cX6_addPart 36 = .ok (.return_, 1) := by decide +kernel
theorem dX6_addNumber_0 : decode cX6_addNumber 0 = .ok (.ldc 43, 2) := by decide +kernel
theorem dX6_addNumber_2 : decode cX6_addNumber 2 = .ok (.istore_n 2, 1) := by decide +kernel
theorem dX6_addNumber_3 : decode cX6_addNumber 3 = .ok (.iload_n 2, 1) := by decide +kernel
theorem dX6_addNumber_4 : decode cX6_addNumber 4 = .ok (.ifCond .le 34, 3) := by decide +kernel
theorem dX6_addNumber_7 : decode cX6_addNumber 7 = .ok (.iload_n 1, 1) := by decide +kernel
theorem dX6_addNumber_8 : decode cX6_addNumber 8 = .ok (.iload_n 2, 1) := by decide +kernel
theorem dX6_addNumber_9 : decode cX6_addNumber 9 = .ok (.if_icmp .ge 8, 3) := by decide +kernel
theorem dX6_addNumber_12 : decode cX6_addNumber 12 = .ok (.iload_n 2, 1) := by decide +kernel
theorem dX6_addNumber_13 : decode cX6_addNumber 13 = .ok (.iconst 1, 1) := by decide +kernel
theorem dX6_addNumber_14 : decode cX6_addNumber 14 = .ok (.if_icmp .ne 16, 3) := by decide +kernel
theorem dX6_addNumber_17 : decode cX6_addNumber 17 = .ok (.aload_n 0, 1) := by decide +kernel
theorem dX6_addNumber_18 : decode cX6_addNumber 18 = .ok (.bipush 48, 2) := by decide +kernel
theorem dX6_addNumber_20 : decode cX6_addNumber 20 = .ok (.iload_n 1, 1) := by decide +kernel
theorem dX6_addNumber_21 : decode cX6_addNumber 21 = .ok (.iload_n 2, 1) := by decide +kernel
theorem dX6_addNumber_22 : decode cX6_addNumber 22 = .ok (.idiv, 1) := by decide +kernel
theorem dX6_addNumber_23 : decode cX6_addNumber 23 = .ok (.bipush 10, 2) := by decide +kernel
theorem dX6_addNumber_25 : decode cX6_addNumber 25 = .ok (.irem, 1) := by decide +kernel
theorem dX6_addNumber_26 : decode cX6_addNumber 26 = .ok (.iadd, 1) := by decide +kernel
theorem dX6_addNumber_27 : decode cX6_addNumber 27 = .ok (.invokevirtual 33, 3) := by decide +kernel
theorem dX6_addNumber_30 : decode cX6_addNumber 30 = .ok (.iload_n 2, 1) := by decide +kernel
theorem dX6_addNumber_31 : decode cX6_addNumber 31 = .ok (.bipush 10, 2) := by decide +kernel
theorem dX6_addNumber_33 : decode cX6_addNumber 33 = .ok (.idiv, 1) := by decide +kernel
theorem dX6_addNumber_34 : decode cX6_addNumber 34 = .ok (.istore_n 2, 1) := by decide +kernel
theorem dX6_addNumber_35 : decode cX6_addNumber 35 = .ok (.goto (-32), 3) := by decide +kernel
theorem dX6_addNumber_38 : decode cX6_addNumber 38 = .ok (.return_, 1) := by decide +kernel
theorem dX6_addNumberOrPoint_0 : decode cX6_addNumberOrPoint 0 = .ok (.iload_n 1, 1) := by decide +kernel
theorem dX6_addNumberOrPoint_1 : decode cX6_addNumberOrPoint 1 = .ok (.iconst (-1), 1) := by decide +kernel
theorem dX6_addNumberOrPoint_2 : decode cX6_addNumberOrPoint 2 = .ok (.if_icmp .ne 12, 3) := by decide +kernel
theorem dX6_addNumberOrPoint_5 : decode cX6_addNumberOrPoint 5 = .ok (.aload_n 0, 1) := by decide +kernel
theorem dX6_addNumberOrPoint_6 : decode cX6_addNumberOrPoint 6 = .ok (.bipush 46, 2) := by decide +kernel
theorem dX6_addNumberOrPoint_8 : decode cX6_addNumberOrPoint 8 = .ok (.invokevirtual 33, 3) := by decide +kernel
theorem dX6_addNumberOrPoint_11 : decode cX6_addNumberOrPoint 11 = .ok (.goto 8, 3) := by decide +kernel
theorem dX6_addNumberOrPoint_14 : decode cX6_addNumberOrPoint 14 = .ok (.aload_n 0, 1) := by decide +kernel
theorem dX6_addNumberOrPoint_15 : decode cX6_addNumberOrPoint 15 = .ok (.iload_n 1, 1) := by decide +kernel
theorem dX6_addNumberOrPoint_16 : decode cX6_addNumberOrPoint 16 = .ok (.invokevirtual 44, 3) := by decide +kernel
theorem dX6_addNumberOrPoint_19 : decode cX6_addNumberOrPoint 19 = .ok (.return_, 1) := by decide +kernel
theorem dX6_at_0 : decode cX6_at 0 = .ok (.iload_n 1, 1) := by decide +kernel
theorem dX6_at_1 : decode cX6_at 1 = .ok (.ifCond .lt 20, 3) := by decide +kernel
theorem dX6_at_4 : decode cX6_at 4 = .ok (.iload_n 1, 1) := by decide +kernel
theorem dX6_at_5 : decode cX6_at 5 = .ok (.aload_n 0, 1) := by decide +kernel
theorem dX6_at_6 : decode cX6_at 6 = .ok (.getfield 15, 3) := by decide +kernel
theorem dX6_at_9 : decode cX6_at 9 = .ok (.if_icmp .ge 12, 3) := by decide +kernel
theorem dX6_at_12 : decode cX6_at 12 = .ok (.aload_n 0, 1) := by decide +kernel
theorem dX6_at_13 : decode cX6_at 13 = .ok (.getfield 9, 3) := by decide +kernel
theorem dX6_at_16 : decode cX6_at 16 = .ok (.iload_n 1, 1) := by decide +kernel
theorem dX6_at_17 : decode cX6_at 17 = .ok (.iaload, 1) := by decide +kernel
theorem dX6_at_18 : decode cX6_at 18 = .ok (.goto 4, 3) := by decide +kernel
theorem dX6_at_21 : decode cX6_at 21 = .ok (.iconst (-1), 1) := by decide +kernel
theorem dX6_at_22 : decode cX6_at 22 = .ok (.ireturn, 1) := by decide +kernel
theorem dX6_find_0 : decode cX6_find 0 = .ok (.iconst 0, 1) := by decide +kernel
theorem dX6_find_1 : decode cX6_find 1 = .ok (.iload_n 2, 1) := by decide +kernel
theorem dX6_find_2 : decode cX6_find 2 = .ok (.invokestatic 37, 3) := by decide +kernel
theorem dX6_find_5 : decode cX6_find 5 = .ok (.istore_n 3, 1) := by decide +kernel
theorem dX6_find_6 : decode cX6_find 6 = .ok (.iload_n 3, 1) := by decide +kernel
theorem dX6_find_7 : decode cX6_find 7 = .ok (.aload_n 0, 1) := by decide +kernel
theorem dX6_find_8 : decode cX6_find 8 = .ok (.getfield 15, 3) := by decide +kernel
theorem dX6_find_11 : decode cX6_find 11 = .ok (.if_icmp .ge 21, 3) := by decide +kernel
theorem dX6_find_14 : decode cX6_find 14 = .ok (.aload_n 0, 1) := by decide +kernel
theorem dX6_find_15 : decode cX6_find 15 = .ok (.getfield 9, 3) := by decide +kernel
theorem dX6_find_18 : decode cX6_find 18 = .ok (.iload_n 3, 1) := by decide +kernel
theorem dX6_find_19 : decode cX6_find 19 = .ok (.iaload, 1) := by decide +kernel
theorem dX6_find_20 : decode cX6_find 20 = .ok (.iload_n 1, 1) := by decide +kernel
theorem dX6_find_21 : decode cX6_find 21 = .ok (.if_icmp .ne 5, 3) := by decide +kernel
theorem dX6_find_24 : decode cX6_find 24 = .ok (.iload_n 3, 1) := by decide +kernel
theorem dX6_find_25 : decode cX6_find 25 = .ok (.ireturn, 1) := by decide +kernel
theorem dX6_find_26 : decode cX6_find 26 = .ok (.iinc 3 1, 3) := by decide +kernel
theorem dX6_find_29 : decode cX6_find 29 = .ok (.goto (-23), 3) := by decide +kernel
theorem dX6_find_32 : decode cX6_find 32 = .ok (.iconst (-1), 1) := by decide +kernel
theorem dX6_find_33 : decode cX6_find 33 = .ok (.ireturn, 1) := by decide +kernel
theorem dX6_isText_0 : decode cX6_isText 0 = .ok (.iload_n 2, 1) := by decide +kernel
theorem dX6_isText_1 : decode cX6_isText 1 = .ok (.iload_n 1, 1) := by decide +kernel
theorem dX6_isText_2 : decode cX6_isText 2 = .ok (.isub, 1) := by decide +kernel
theorem dX6_isText_3 : decode cX6_isText 3 = .ok (.aload_n 3, 1) := by decide +kernel
theorem dX6_isText_4 : decode cX6_isText 4 = .ok (.invokevirtual 23, 3) := by decide +kernel
theorem dX6_isText_7 : decode cX6_isText 7 = .ok (.if_icmp .ne 16, 3) := by decide +kernel
theorem dX6_isText_10 : decode cX6_isText 10 = .ok (.aload_n 0, 1) := by decide +kernel
theorem dX6_isText_11 : decode cX6_isText 11 = .ok (.iload_n 1, 1) := by decide +kernel
theorem dX6_isText_12 : decode cX6_isText 12 = .ok (.aload_n 3, 1) := by decide +kernel
theorem dX6_isText_13 : decode cX6_isText 13 = .ok (.invokevirtual 47, 3) := by decide +kernel
theorem dX6_isText_16 : decode cX6_isText 16 = .ok (.ifCond .eq 7, 3) := by decide +kernel
theorem dX6_isText_19 : decode cX6_isText 19 = .ok (.iconst 1, 1) := by decide +kernel
theorem dX6_isText_20 : decode cX6_isText 20 = .ok (.goto 4, 3) := by decide +kernel
theorem dX6_isText_23 : decode cX6_isText 23 = .ok (.iconst 0, 1) := by decide +kernel
theorem dX6_isText_24 : decode cX6_isText 24 = .ok (.ireturn, 1) := by decide +kernel
theorem dX6_beginsWith_0 : decode cX6_beginsWith 0 = .ok (.iload_n 1, 1) := by decide +kernel
theorem dX6_beginsWith_1 : decode cX6_beginsWith 1 = .ok (.ifCond .lt 16, 3) := by decide +kernel
theorem dX6_beginsWith_4 : decode cX6_beginsWith 4 = .ok (.iload_n 1, 1) := by decide +kernel
theorem dX6_beginsWith_5 : decode cX6_beginsWith 5 = .ok (.aload_n 2, 1) := by decide +kernel
theorem dX6_beginsWith_6 : decode cX6_beginsWith 6 = .ok (.invokevirtual 23, 3) := by decide +kernel
theorem dX6_beginsWith_9 : decode cX6_beginsWith 9 = .ok (.iadd, 1) := by decide +kernel
theorem dX6_beginsWith_10 : decode cX6_beginsWith 10 = .ok (.aload_n 0, 1) := by decide +kernel
theorem dX6_beginsWith_11 : decode cX6_beginsWith 11 = .ok (.getfield 15, 3) := by decide +kernel
theorem dX6_beginsWith_14 : decode cX6_beginsWith 14 = .ok (.if_icmp .le 5, 3) := by decide +kernel
theorem dX6_beginsWith_17 : decode cX6_beginsWith 17 = .ok (.iconst 0, 1) := by decide +kernel
theorem dX6_beginsWith_18 : decode cX6_beginsWith 18 = .ok (.ireturn, 1) := by decide +kernel
theorem dX6_beginsWith_19 : decode cX6_beginsWith 19 = .ok (.iconst 0, 1) := by decide +kernel
theorem dX6_beginsWith_20 : decode cX6_beginsWith 20 = .ok (.istore_n 3, 1) := by decide +kernel
theorem dX6_beginsWith_21 : decode cX6_beginsWith 21 = .ok (.iload_n 3, 1) := by decide +kernel
theorem dX6_beginsWith_22 : decode cX6_beginsWith 22 = .ok (.aload_n 2, 1) := by decide +kernel
theorem dX6_beginsWith_23 : decode cX6_beginsWith 23 = .ok (.invokevirtual 23, 3) := by decide +kernel
theorem dX6_beginsWith_26 : decode cX6_beginsWith 26 = .ok (.if_icmp .ge 27, 3) := by decide +kernel
theorem dX6_beginsWith_29 : decode cX6_beginsWith 29 = .ok (.aload_n 0, 1) := by decide +kernel
theorem dX6_beginsWith_30 : decode cX6_beginsWith 30 = .ok (.getfield 9, 3) := by decide +kernel
theorem dX6_beginsWith_33 : decode cX6_beginsWith 33 = .ok (.iload_n 1, 1) := by decide +kernel
theorem dX6_beginsWith_34 : decode cX6_beginsWith 34 = .ok (.iload_n 3, 1) := by decide +kernel
theorem dX6_beginsWith_35 : decode cX6_beginsWith 35 = .ok (.iadd, 1) := by decide +kernel
theorem dX6_beginsWith_36 : decode cX6_beginsWith 36 = .ok (.iaload, 1) := by decide +kernel
theorem dX6_beginsWith_37 : decode cX6_beginsWith 37 = .ok (.aload_n 2, 1) := by decide +kernel
theorem dX6_beginsWith_38 : decode cX6_beginsWith 38 = .ok (.iload_n 3, 1) := by decide +kernel
theorem dX6_beginsWith_39 : decode cX6_beginsWith 39 = .ok (.invokevirtual 29, 3) := by decide +kernel
theorem dX6_beginsWith_42 : decode cX6_beginsWith 42 = .ok (.if_icmp .eq 5, 3) := by decide +kernel
theorem dX6_beginsWith_45 : decode cX6_beginsWith 45 = .ok (.iconst 0, 1) := by decide +kernel
theorem dX6_beginsWith_46 : decode cX6_beginsWith 46 = .ok (.ireturn, 1) := by decide +kernel
theorem dX6_beginsWith_47 : decode cX6_beginsWith 47 = .ok (.iinc 3 1, 3) := by decide +kernel
theorem dX6_beginsWith_50 : decode cX6_beginsWith 50 = .ok (.goto (-29), 3) := by decide +kernel
theorem dX6_beginsWith_53 : decode cX6_beginsWith 53 = .ok (.iconst 1, 1) := by decide +kernel
theorem dX6_beginsWith_54 : decode cX6_beginsWith 54 = .ok (.ireturn, 1) := by decide +kernel
theorem dX6_isPart_0 : decode cX6_isPart 0 = .ok (.iload_n 1, 1) := by decide +kernel
theorem dX6_isPart_1 : decode cX6_isPart 1 = .ok (.ifCond .lt 29, 3) := by decide +kernel
theorem dX6_isPart_4 : decode cX6_isPart 4 = .ok (.iload_n 2, 1) := by decide +kernel
theorem dX6_isPart_5 : decode cX6_isPart 5 = .ok (.aload_n 0, 1) := by decide +kernel
theorem dX6_isPart_6 : decode cX6_isPart 6 = .ok (.getfield 15, 3) := by decide +kernel
theorem dX6_isPart_9 : decode cX6_isPart 9 = .ok (.if_icmp .gt 21, 3) := by decide +kernel
theorem dX6_isPart_12 : decode cX6_isPart 12 = .ok (.iload_n 2, 1) := by decide +kernel
theorem dX6_isPart_13 : decode cX6_isPart 13 = .ok (.iload_n 1, 1) := by decide +kernel
theorem dX6_isPart_14 : decode cX6_isPart 14 = .ok (.isub, 1) := by decide +kernel
theorem dX6_isPart_15 : decode cX6_isPart 15 = .ok (.iload 5, 2) := by decide +kernel
theorem dX6_isPart_17 : decode cX6_isPart 17 = .ok (.if_icmp .ne 13, 3) := by decide +kernel
theorem dX6_isPart_20 : decode cX6_isPart 20 = .ok (.iload 4, 2) := by decide +kernel
theorem dX6_isPart_22 : decode cX6_isPart 22 = .ok (.iload 5, 2) := by decide +kernel
theorem dX6_isPart_24 : decode cX6_isPart 24 = .ok (.iadd, 1) := by decide +kernel
theorem dX6_isPart_25 : decode cX6_isPart 25 = .ok (.aload_n 3, 1) := by decide +kernel
theorem dX6_isPart_26 : decode cX6_isPart 26 = .ok (.arraylength, 1) := by decide +kernel
theorem dX6_isPart_27 : decode cX6_isPart 27 = .ok (.if_icmp .le 5, 3) := by decide +kernel
theorem dX6_isPart_30 : decode cX6_isPart 30 = .ok (.iconst 0, 1) := by decide +kernel
theorem dX6_isPart_31 : decode cX6_isPart 31 = .ok (.ireturn, 1) := by decide +kernel
theorem dX6_isPart_32 : decode cX6_isPart 32 = .ok (.iconst 0, 1) := by decide +kernel
theorem dX6_isPart_33 : decode cX6_isPart 33 = .ok (.istore 6, 2) := by decide +kernel
theorem dX6_isPart_35 : decode cX6_isPart 35 = .ok (.iload 6, 2) := by decide +kernel
theorem dX6_isPart_37 : decode cX6_isPart 37 = .ok (.iload 5, 2) := by decide +kernel
theorem dX6_isPart_39 : decode cX6_isPart 39 = .ok (.if_icmp .ge 30, 3) := by decide +kernel
theorem dX6_isPart_42 : decode cX6_isPart 42 = .ok (.aload_n 0, 1) := by decide +kernel
theorem dX6_isPart_43 : decode cX6_isPart 43 = .ok (.getfield 9, 3) := by decide +kernel
theorem dX6_isPart_46 : decode cX6_isPart 46 = .ok (.iload_n 1, 1) := by decide +kernel
theorem dX6_isPart_47 : decode cX6_isPart 47 = .ok (.iload 6, 2) := by decide +kernel
theorem dX6_isPart_49 : decode cX6_isPart 49 = .ok (.iadd, 1) := by decide +kernel
theorem dX6_isPart_50 : decode cX6_isPart 50 = .ok (.iaload, 1) := by decide +kernel
theorem dX6_isPart_51 : decode cX6_isPart 51 = .ok (.aload_n 3, 1) := by decide +kernel
theorem dX6_isPart_52 : decode cX6_isPart 52 = .ok (.iload 4, 2) := by decide +kernel
theorem dX6_isPart_54 : decode cX6_isPart 54 = .ok (.iload 6, 2) := by decide +kernel
theorem dX6_isPart_56 : decode cX6_isPart 56 = .ok (.iadd, 1) := by decide +kernel
theorem dX6_isPart_57 : decode cX6_isPart 57 = .ok (.iaload, 1) := by decide +kernel
theorem dX6_isPart_58 : decode cX6_isPart 58 = .ok (.if_icmp .eq 5, 3) := by decide +kernel
theorem dX6_isPart_61 : decode cX6_isPart 61 = .ok (.iconst 0, 1) := by decide +kernel
theorem dX6_isPart_62 : decode cX6_isPart 62 = .ok (.ireturn, 1) := by decide +kernel
theorem dX6_isPart_63 : decode cX6_isPart 63 = .ok (.iinc 6 1, 3) := by decide +kernel
theorem dX6_isPart_66 : decode cX6_isPart 66 = .ok (.goto (-31), 3) := by decide +kernel
theorem dX6_isPart_69 : decode cX6_isPart 69 = .ok (.iconst 1, 1) := by decide +kernel
theorem dX6_isPart_70 : decode cX6_isPart 70 = .ok (.ireturn, 1) := by decide +kernel
theorem dX6_isWord_0 : decode cX6_isWord 0 = .ok (.iload_n 2, 1) := by decide +kernel
theorem dX6_isWord_1 : decode cX6_isWord 1 = .ok (.iload_n 1, 1) := by decide +kernel
theorem dX6_isWord_2 : decode cX6_isWord 2 = .ok (.if_icmp .le 11, 3) := by decide +kernel
theorem dX6_isWord_5 : decode cX6_isWord 5 = .ok (.iload_n 2, 1) := by decide +kernel
theorem dX6_isWord_6 : decode cX6_isWord 6 = .ok (.iload_n 1, 1) := by decide +kernel
theorem dX6_isWord_7 : decode cX6_isWord 7 = .ok (.isub, 1) := by decide +kernel
theorem dX6_isWord_8 : decode cX6_isWord 8 = .ok (.bipush 20, 2) := by decide +kernel
theorem dX6_isWord_10 : decode cX6_isWord 10 = .ok (.if_icmp .le 5, 3) := by decide +kernel
theorem dX6_isWord_13 : decode cX6_isWord 13 = .ok (.iconst 0, 1) := by decide +kernel
theorem dX6_isWord_14 : decode cX6_isWord 14 = .ok (.ireturn, 1) := by decide +kernel
theorem dX6_isWord_15 : decode cX6_isWord 15 = .ok (.iload_n 1, 1) := by decide +kernel
theorem dX6_isWord_16 : decode cX6_isWord 16 = .ok (.istore_n 3, 1) := by decide +kernel
theorem dX6_isWord_17 : decode cX6_isWord 17 = .ok (.iload_n 3, 1) := by decide +kernel
theorem dX6_isWord_18 : decode cX6_isWord 18 = .ok (.iload_n 2, 1) := by decide +kernel
theorem dX6_isWord_19 : decode cX6_isWord 19 = .ok (.if_icmp .ge 31, 3) := by decide +kernel
theorem dX6_isWord_22 : decode cX6_isWord 22 = .ok (.aload_n 0, 1) := by decide +kernel
theorem dX6_isWord_23 : decode cX6_isWord 23 = .ok (.iload_n 3, 1) := by decide +kernel
theorem dX6_isWord_24 : decode cX6_isWord 24 = .ok (.invokevirtual 51, 3) := by decide +kernel
theorem dX6_isWord_27 : decode cX6_isWord 27 = .ok (.bipush 32, 2) := by decide +kernel
theorem dX6_isWord_29 : decode cX6_isWord 29 = .ok (.if_icmp .le 13, 3) := by decide +kernel
theorem dX6_isWord_32 : decode cX6_isWord 32 = .ok (.aload_n 0, 1) := by decide +kernel
theorem dX6_isWord_33 : decode cX6_isWord 33 = .ok (.iload_n 3, 1) := by decide +kernel
theorem dX6_isWord_34 : decode cX6_isWord 34 = .ok (.invokevirtual 51, 3) := by decide +kernel
theorem dX6_isWord_37 : decode cX6_isWord 37 = .ok (.bipush 126, 2) := by decide +kernel
theorem dX6_isWord_39 : decode cX6_isWord 39 = .ok (.if_icmp .le 5, 3) := by decide +kernel
theorem dX6_isWord_42 : decode cX6_isWord 42 = .ok (.iconst 0, 1) := by decide +kernel
theorem dX6_isWord_43 : decode cX6_isWord 43 = .ok (.ireturn, 1) := by decide +kernel
theorem dX6_isWord_44 : decode cX6_isWord 44 = .ok (.iinc 3 1, 3) := by decide +kernel
theorem dX6_isWord_47 : decode cX6_isWord 47 = .ok (.goto (-30), 3) := by decide +kernel
theorem dX6_isWord_50 : decode cX6_isWord 50 = .ok (.iconst 1, 1) := by decide +kernel
theorem dX6_isWord_51 : decode cX6_isWord 51 = .ok (.ireturn, 1) := by decide +kernel
theorem dX6_numberAt_0 : decode cX6_numberAt 0 = .ok (.iload_n 2, 1) := by decide +kernel
theorem dX6_numberAt_1 : decode cX6_numberAt 1 = .ok (.iload_n 1, 1) := by decide +kernel
theorem dX6_numberAt_2 : decode cX6_numberAt 2 = .ok (.if_icmp .le 20, 3) := by decide +kernel
theorem dX6_numberAt_5 : decode cX6_numberAt 5 = .ok (.iload_n 2, 1) := by decide +kernel
theorem dX6_numberAt_6 : decode cX6_numberAt 6 = .ok (.iload_n 1, 1) := by decide +kernel
theorem dX6_numberAt_7 : decode cX6_numberAt 7 = .ok (.isub, 1) := by decide +kernel
theorem dX6_numberAt_8 : decode cX6_numberAt 8 = .ok (.iconst 1, 1) := by decide +kernel
theorem dX6_numberAt_9 : decode cX6_numberAt 9 = .ok (.if_icmp .le 15, 3) := by decide +kernel
theorem dX6_numberAt_12 : decode cX6_numberAt 12 = .ok (.aload_n 0, 1) := by decide +kernel
theorem dX6_numberAt_13 : decode cX6_numberAt 13 = .ok (.iload_n 1, 1) := by decide +kernel
theorem dX6_numberAt_14 : decode cX6_numberAt 14 = .ok (.invokevirtual 51, 3) := by decide +kernel
theorem dX6_numberAt_17 : decode cX6_numberAt 17 = .ok (.bipush 48, 2) := by decide +kernel
theorem dX6_numberAt_19 : decode cX6_numberAt 19 = .ok (.if_icmp .ne 5, 3) := by decide +kernel
theorem dX6_numberAt_22 : decode cX6_numberAt 22 = .ok (.iconst (-1), 1) := by decide +kernel
theorem dX6_numberAt_23 : decode cX6_numberAt 23 = .ok (.ireturn, 1) := by decide +kernel
theorem dX6_numberAt_24 : decode cX6_numberAt 24 = .ok (.iconst 0, 1) := by decide +kernel
theorem dX6_numberAt_25 : decode cX6_numberAt 25 = .ok (.istore 4, 2) := by decide +kernel
theorem dX6_numberAt_27 : decode cX6_numberAt 27 = .ok (.iload_n 1, 1) := by decide +kernel
theorem dX6_numberAt_28 : decode cX6_numberAt 28 = .ok (.istore 5, 2) := by decide +kernel
theorem dX6_numberAt_30 : decode cX6_numberAt 30 = .ok (.iload 5, 2) := by decide +kernel
theorem dX6_numberAt_32 : decode cX6_numberAt 32 = .ok (.iload_n 2, 1) := by decide +kernel
theorem dX6_numberAt_33 : decode cX6_numberAt 33 = .ok (.if_icmp .ge 54, 3) := by decide +kernel
theorem dX6_numberAt_36 : decode cX6_numberAt 36 = .ok (.aload_n 0, 1) := by decide +kernel
theorem dX6_numberAt_37 : decode cX6_numberAt 37 = .ok (.iload 5, 2) := by decide +kernel
theorem dX6_numberAt_39 : decode cX6_numberAt 39 = .ok (.invokevirtual 51, 3) := by decide +kernel
theorem dX6_numberAt_42 : decode cX6_numberAt 42 = .ok (.istore 6, 2) := by decide +kernel
theorem dX6_numberAt_44 : decode cX6_numberAt 44 = .ok (.iload 6, 2) := by decide +kernel
theorem dX6_numberAt_46 : decode cX6_numberAt 46 = .ok (.bipush 48, 2) := by decide +kernel
theorem dX6_numberAt_48 : decode cX6_numberAt 48 = .ok (.if_icmp .lt 10, 3) := by decide +kernel
theorem dX6_numberAt_51 : decode cX6_numberAt 51 = .ok (.iload 6, 2) := by decide +kernel
theorem dX6_numberAt_53 : decode cX6_numberAt 53 = .ok (.bipush 57, 2) := by decide +kernel
theorem dX6_numberAt_55 : decode cX6_numberAt 55 = .ok (.if_icmp .le 5, 3) := by decide +kernel
theorem dX6_numberAt_58 : decode cX6_numberAt 58 = .ok (.iconst (-1), 1) := by decide +kernel
theorem dX6_numberAt_59 : decode cX6_numberAt 59 = .ok (.ireturn, 1) := by decide +kernel
theorem dX6_numberAt_60 : decode cX6_numberAt 60 = .ok (.iload 4, 2) := by decide +kernel
theorem dX6_numberAt_62 : decode cX6_numberAt 62 = .ok (.bipush 10, 2) := by decide +kernel
theorem dX6_numberAt_64 : decode cX6_numberAt 64 = .ok (.imul, 1) := by decide +kernel
theorem dX6_numberAt_65 : decode cX6_numberAt 65 = .ok (.iload 6, 2) := by decide +kernel
theorem dX6_numberAt_67 : decode cX6_numberAt 67 = .ok (.iadd, 1) := by decide +kernel
theorem dX6_numberAt_68 : decode cX6_numberAt 68 = .ok (.bipush 48, 2) := by decide +kernel
theorem dX6_numberAt_70 : decode cX6_numberAt 70 = .ok (.isub, 1) := by decide +kernel
theorem dX6_numberAt_71 : decode cX6_numberAt 71 = .ok (.istore 4, 2) := by decide +kernel
theorem dX6_numberAt_73 : decode cX6_numberAt 73 = .ok (.iload 4, 2) := by decide +kernel
theorem dX6_numberAt_75 : decode cX6_numberAt 75 = .ok (.iload_n 3, 1) := by decide +kernel
theorem dX6_numberAt_76 : decode cX6_numberAt 76 = .ok (.if_icmp .le 5, 3) := by decide +kernel
theorem dX6_numberAt_79 : decode cX6_numberAt 79 = .ok (.iconst (-1), 1) := by decide +kernel
theorem dX6_numberAt_80 : decode cX6_numberAt 80 = .ok (.ireturn, 1) := by decide +kernel
theorem dX6_numberAt_81 : decode cX6_numberAt 81 = .ok (.iinc 5 1, 3) := by decide +kernel
theorem dX6_numberAt_84 : decode cX6_numberAt 84 = .ok (.goto (-54), 3) := by decide +kernel
theorem dX6_numberAt_87 : decode cX6_numberAt 87 = .ok (.iload 4, 2) := by decide +kernel
theorem dX6_numberAt_89 : decode cX6_numberAt 89 = .ok (.ireturn, 1) := by decide +kernel
theorem dX6_copyFrom_0 : decode cX6_copyFrom 0 = .ok (.aload_n 0, 1) := by decide +kernel
theorem dX6_copyFrom_1 : decode cX6_copyFrom 1 = .ok (.aload_n 1, 1) := by decide +kernel
theorem dX6_copyFrom_2 : decode cX6_copyFrom 2 = .ok (.getfield 15, 3) := by decide +kernel
theorem dX6_copyFrom_5 : decode cX6_copyFrom 5 = .ok (.putfield 15, 3) := by decide +kernel
theorem dX6_copyFrom_8 : decode cX6_copyFrom 8 = .ok (.aload_n 0, 1) := by decide +kernel
theorem dX6_copyFrom_9 : decode cX6_copyFrom 9 = .ok (.iconst 0, 1) := by decide +kernel
theorem dX6_copyFrom_10 : decode cX6_copyFrom 10 = .ok (.putfield 19, 3) := by decide +kernel
theorem dX6_copyFrom_13 : decode cX6_copyFrom 13 = .ok (.aload_n 1, 1) := by decide +kernel
theorem dX6_copyFrom_14 : decode cX6_copyFrom 14 = .ok (.getfield 9, 3) := by decide +kernel
theorem dX6_copyFrom_17 : decode cX6_copyFrom 17 = .ok (.iconst 0, 1) := by decide +kernel
theorem dX6_copyFrom_18 : decode cX6_copyFrom 18 = .ok (.aload_n 0, 1) := by decide +kernel
theorem dX6_copyFrom_19 : decode cX6_copyFrom 19 = .ok (.getfield 9, 3) := by decide +kernel
theorem dX6_copyFrom_22 : decode cX6_copyFrom 22 = .ok (.iconst 0, 1) := by decide +kernel
theorem dX6_copyFrom_23 : decode cX6_copyFrom 23 = .ok (.aload_n 0, 1) := by decide +kernel
theorem dX6_copyFrom_24 : decode cX6_copyFrom 24 = .ok (.getfield 15, 3) := by decide +kernel
theorem dX6_copyFrom_27 : decode cX6_copyFrom 27 = .ok (.invokestatic 55, 3) := by decide +kernel
theorem dX6_copyFrom_30 : decode cX6_copyFrom 30 = .ok (.return_, 1) := by decide +kernel
theorem dX7_init_0 : decode cX7_init 0 = .ok (.aload_n 0, 1) := by decide +kernel
theorem dX7_init_1 : decode cX7_init 1 = .ok (.invokespecial 3, 3) := by decide +kernel
theorem dX7_init_4 : decode cX7_init 4 = .ok (.aload_n 0, 1) := by decide +kernel
theorem dX7_init_5 : decode cX7_init 5 = .ok (.bipush 60, 2) := by decide +kernel
theorem dX7_init_7 : decode cX7_init 7 = .ok (.anewarray 9, 3) := by decide +kernel
theorem dX7_init_10 : decode cX7_init 10 = .ok (.putfield 11, 3) := by decide +kernel
theorem dX7_init_13 : decode cX7_init 13 = .ok (.aload_n 0, 1) := by decide +kernel
theorem dX7_init_14 : decode cX7_init 14 = .ok (.new 17, 3) := by decide +kernel
theorem dX7_init_17 : decode cX7_init 17 = .ok (.dup, 1) := by decide +kernel
theorem dX7_init_18 : decode cX7_init 18 = .ok (.iconst 3, 1) := by decide +kernel
theorem dX7_init_19 : decode cX7_init 19 = .ok (.invokespecial 19, 3) := by decide +kernel
theorem dX7_init_22 : decode cX7_init 22 = .ok (.putfield 22, 3) := by decide +kernel
theorem dX7_init_25 : decode cX7_init 25 = .ok (.iconst 0, 1) := by decide +kernel
theorem dX7_init_26 : decode cX7_init 26 = .ok (.istore_n 1, 1) := by decide +kernel
theorem dX7_init_27 : decode cX7_init 27 = .ok (.iload_n 1, 1) := by decide +kernel
theorem dX7_init_28 : decode cX7_init 28 = .ok (.bipush 60, 2) := by decide +kernel
theorem dX7_init_30 : decode cX7_init 30 = .ok (.if_icmp .ge 22, 3) := by decide +kernel
theorem dX7_init_33 : decode cX7_init 33 = .ok (.aload_n 0, 1) := by decide +kernel
theorem dX7_init_34 : decode cX7_init 34 = .ok (.getfield 11, 3) := by decide +kernel
theorem dX7_init_37 : decode cX7_init 37 = .ok (.iload_n 1, 1) := by decide +kernel
theorem dX7_init_38 : decode cX7_init 38 = .ok (.new 9, 3) := by decide +kernel
theorem dX7_init_41 : decode cX7_init 41 = .ok (.dup, 1) := by decide +kernel
theorem dX7_init_42 : decode cX7_init 42 = .ok (.invokespecial 26, 3) := by decide +kernel
theorem dX7_init_45 : decode cX7_init 45 = .ok (.aastore, 1) := by decide +kernel
theorem dX7_init_46 : decode cX7_init 46 = .ok (.iinc 1 1, 3) := by decide +kernel
theorem dX7_init_49 : decode cX7_init 49 = .ok (.goto (-22), 3) := by decide +kernel
theorem dX7_init_52 : decode cX7_init 52 = .ok (.return_, 1) := by decide +kernel
theorem dX7_clear_0 : decode cX7_clear 0 = .ok (.aload_n 0, 1) := by decide +kernel
theorem dX7_clear_1 : decode cX7_clear 1 = .ok (.iconst 0, 1) := by decide +kernel
theorem dX7_clear_2 : decode cX7_clear 2 = .ok (.putfield 27, 3) := by decide +kernel
theorem dX7_clear_5 : decode cX7_clear 5 = .ok (.aload_n 0, 1) := by decide +kernel
theorem dX7_clear_6 : decode cX7_clear 6 = .ok (.getfield 22, 3) := by decide +kernel
theorem dX7_clear_9 : decode cX7_clear 9 = .ok (.invokevirtual 31, 3) := by decide +kernel
theorem dX7_clear_12 : decode cX7_clear 12 = .ok (.return_, 1) := by decide +kernel
theorem dX7_canTakeSamples_0 : decode cX7_canTakeSamples 0 = .ok (.aload_n 0, 1) := by decide +kernel
theorem dX7_canTakeSamples_1 : decode cX7_canTakeSamples 1 = .ok (.getfield 22, 3) := by decide +kernel
theorem dX7_canTakeSamples_4 : decode cX7_canTakeSamples 4 = .ok (.getfield 34, 3) := by decide +kernel
theorem dX7_canTakeSamples_7 : decode cX7_canTakeSamples 7 = .ok (.aload_n 1, 1) := by decide +kernel
theorem dX7_canTakeSamples_8 : decode cX7_canTakeSamples 8 = .ok (.getfield 22, 3) := by decide +kernel
theorem dX7_canTakeSamples_11 : decode cX7_canTakeSamples 11 = .ok (.getfield 34, 3) := by decide +kernel
theorem dX7_canTakeSamples_14 : decode cX7_canTakeSamples 14 = .ok (.iadd, 1) := by decide +kernel
theorem dX7_canTakeSamples_15 : decode cX7_canTakeSamples 15 = .ok (.iconst 3, 1) := by decide +kernel
theorem dX7_canTakeSamples_16 : decode cX7_canTakeSamples 16 = .ok (.if_icmp .le 5, 3) := by decide +kernel
theorem dX7_canTakeSamples_19 : decode cX7_canTakeSamples 19 = .ok (.iconst 0, 1) := by decide +kernel
theorem dX7_canTakeSamples_20 : decode cX7_canTakeSamples 20 = .ok (.ireturn, 1) := by decide +kernel
theorem dX7_canTakeSamples_21 : decode cX7_canTakeSamples 21 = .ok (.iconst 0, 1) := by decide +kernel
theorem dX7_canTakeSamples_22 : decode cX7_canTakeSamples 22 = .ok (.istore_n 2, 1) := by decide +kernel
theorem dX7_canTakeSamples_23 : decode cX7_canTakeSamples 23 = .ok (.iload_n 2, 1) := by decide +kernel
theorem dX7_canTakeSamples_24 : decode cX7_canTakeSamples 24 = .ok (.aload_n 1, 1) := by decide +kernel
theorem dX7_canTakeSamples_25 : decode cX7_canTakeSamples 25 = .ok (.getfield 22, 3) := by decide +kernel
theorem dX7_canTakeSamples_28 : decode cX7_canTakeSamples 28 = .ok (.getfield 34, 3) := by decide +kernel
theorem dX7_canTakeSamples_31 : decode cX7_canTakeSamples 31 = .ok (.if_icmp .ge 27, 3) := by decide +kernel
theorem dX7_canTakeSamples_34 : decode cX7_canTakeSamples 34 = .ok (.aload_n 0, 1) := by decide +kernel
theorem dX7_canTakeSamples_35 : decode cX7_canTakeSamples 35 = .ok (.getfield 22, 3) := by decide +kernel
theorem dX7_canTakeSamples_38 : decode cX7_canTakeSamples 38 = .ok (.aload_n 1, 1) := by decide +kernel
theorem dX7_canTakeSamples_39 : decode cX7_canTakeSamples 39 = .ok (.getfield 22, 3) := by decide +kernel
theorem dX7_canTakeSamples_42 : decode cX7_canTakeSamples 42 = .ok (.iload_n 2, 1) := by decide +kernel
theorem dX7_canTakeSamples_43 : decode cX7_canTakeSamples 43 = .ok (.invokevirtual 37, 3) := by decide +kernel
theorem dX7_canTakeSamples_46 : decode cX7_canTakeSamples 46 = .ok (.iconst (-1), 1) := by decide +kernel
theorem dX7_canTakeSamples_47 : decode cX7_canTakeSamples 47 = .ok (.if_icmp .eq 5, 3) := by decide +kernel
theorem dX7_canTakeSamples_50 : decode cX7_canTakeSamples 50 = .ok (.iconst 0, 1) := by decide +kernel
theorem dX7_canTakeSamples_51 : decode cX7_canTakeSamples 51 = .ok (.ireturn, 1) := by decide +kernel
theorem dX7_canTakeSamples_52 : decode cX7_canTakeSamples 52 = .ok (.iinc 2 1, 3) := by decide +kernel
theorem dX7_canTakeSamples_55 : decode cX7_canTakeSamples 55 = .ok (.goto (-32), 3) := by decide +kernel
theorem dX7_canTakeSamples_58 : decode cX7_canTakeSamples 58 = .ok (.iconst 1, 1) := by decide +kernel
theorem dX7_canTakeSamples_59 : decode cX7_canTakeSamples 59 = .ok (.ireturn, 1) := by decide +kernel
theorem dX7_sizeWhenSplit_0 : decode cX7_sizeWhenSplit 0 = .ok (.iconst 0, 1) := by decide +kernel
theorem dX7_sizeWhenSplit_1 : decode cX7_sizeWhenSplit 1 = .ok (.istore_n 1, 1) := by decide +kernel
theorem dX7_sizeWhenSplit_2 : decode cX7_sizeWhenSplit 2 = .ok (.iconst 0, 1) := by decide +kernel
theorem dX7_sizeWhenSplit_3 : decode cX7_sizeWhenSplit 3 = .ok (.istore_n 2, 1) := by decide +kernel
theorem dX7_sizeWhenSplit_4 : decode cX7_sizeWhenSplit 4 = .ok (.iload_n 2, 1) := by decide +kernel
theorem dX7_sizeWhenSplit_5 : decode cX7_sizeWhenSplit 5 = .ok (.aload_n 0, 1) := by decide +kernel
theorem dX7_sizeWhenSplit_6 : decode cX7_sizeWhenSplit 6 = .ok (.getfield 27, 3) := by decide +kernel
theorem dX7_sizeWhenSplit_9 : decode cX7_sizeWhenSplit 9 = .ok (.if_icmp .ge 27, 3) := by decide +kernel
theorem dX7_sizeWhenSplit_12 : decode cX7_sizeWhenSplit 12 = .ok (.iload_n 1, 1) := by decide +kernel
theorem dX7_sizeWhenSplit_13 : decode cX7_sizeWhenSplit 13 = .ok (.iconst 1, 1) := by decide +kernel
theorem dX7_sizeWhenSplit_14 : decode cX7_sizeWhenSplit 14 = .ok (.aload_n 0, 1) := by decide +kernel
theorem dX7_sizeWhenSplit_15 : decode cX7_sizeWhenSplit 15 = .ok (.getfield 11, 3) := by decide +kernel
theorem dX7_sizeWhenSplit_18 : decode cX7_sizeWhenSplit 18 = .ok (.iload_n 2, 1) := by decide +kernel
theorem dX7_sizeWhenSplit_19 : decode cX7_sizeWhenSplit 19 = .ok (.aaload, 1) := by decide +kernel
theorem dX7_sizeWhenSplit_20 : decode cX7_sizeWhenSplit 20 = .ok (.getfield 41, 3) := by decide +kernel
theorem dX7_sizeWhenSplit_23 : decode cX7_sizeWhenSplit 23 = .ok (.iconst 1, 1) := by decide +kernel
theorem dX7_sizeWhenSplit_24 : decode cX7_sizeWhenSplit 24 = .ok (.isub, 1) := by decide +kernel
theorem dX7_sizeWhenSplit_25 : decode cX7_sizeWhenSplit 25 = .ok (.invokestatic 44, 3) := by decide +kernel
theorem dX7_sizeWhenSplit_28 : decode cX7_sizeWhenSplit 28 = .ok (.iadd, 1) := by decide +kernel
theorem dX7_sizeWhenSplit_29 : decode cX7_sizeWhenSplit 29 = .ok (.istore_n 1, 1) := by decide +kernel
theorem dX7_sizeWhenSplit_30 : decode cX7_sizeWhenSplit 30 = .ok (.iinc 2 1, 3) := by decide +kernel
theorem dX7_sizeWhenSplit_33 : decode cX7_sizeWhenSplit 33 = .ok (.goto (-29), 3) := by decide +kernel
theorem dX7_sizeWhenSplit_36 : decode cX7_sizeWhenSplit 36 = .ok (.iload_n 1, 1) := by decide +kernel
theorem dX7_sizeWhenSplit_37 : decode cX7_sizeWhenSplit 37 = .ok (.ireturn, 1) := by decide +kernel
theorem dX7_takeSplit_0 : decode cX7_takeSplit 0 = .ok (.aload_n 0, 1) := by decide +kernel
theorem dX7_takeSplit_1 : decode cX7_takeSplit 1 = .ok (.invokevirtual 50, 3) := by decide +kernel
theorem dX7_takeSplit_4 : decode cX7_takeSplit 4 = .ok (.aload_n 0, 1) := by decide +kernel
theorem dX7_takeSplit_5 : decode cX7_takeSplit 5 = .ok (.getfield 22, 3) := by decide +kernel
theorem dX7_takeSplit_8 : decode cX7_takeSplit 8 = .ok (.aload_n 1, 1) := by decide +kernel
theorem dX7_takeSplit_9 : decode cX7_takeSplit 9 = .ok (.getfield 22, 3) := by decide +kernel
theorem dX7_takeSplit_12 : decode cX7_takeSplit 12 = .ok (.invokevirtual 51, 3) := by decide +kernel
theorem dX7_takeSplit_15 : decode cX7_takeSplit 15 = .ok (.iconst 0, 1) := by decide +kernel
theorem dX7_takeSplit_16 : decode cX7_takeSplit 16 = .ok (.istore_n 2, 1) := by decide +kernel
theorem dX7_takeSplit_17 : decode cX7_takeSplit 17 = .ok (.iload_n 2, 1) := by decide +kernel
theorem dX7_takeSplit_18 : decode cX7_takeSplit 18 = .ok (.aload_n 1, 1) := by decide +kernel
theorem dX7_takeSplit_19 : decode cX7_takeSplit 19 = .ok (.getfield 27, 3) := by decide +kernel
theorem dX7_takeSplit_22 : decode cX7_takeSplit 22 = .ok (.if_icmp .ge 19, 3) := by decide +kernel
theorem dX7_takeSplit_25 : decode cX7_takeSplit 25 = .ok (.aload_n 0, 1) := by decide +kernel
theorem dX7_takeSplit_26 : decode cX7_takeSplit 26 = .ok (.aload_n 1, 1) := by decide +kernel
theorem dX7_takeSplit_27 : decode cX7_takeSplit 27 = .ok (.getfield 11, 3) := by decide +kernel
theorem dX7_takeSplit_30 : decode cX7_takeSplit 30 = .ok (.iload_n 2, 1) := by decide +kernel
theorem dX7_takeSplit_31 : decode cX7_takeSplit 31 = .ok (.aaload, 1) := by decide +kernel
theorem dX7_takeSplit_32 : decode cX7_takeSplit 32 = .ok (.invokevirtual 55, 3) := by decide +kernel
theorem dX7_takeSplit_35 : decode cX7_takeSplit 35 = .ok (.iinc 2 1, 3) := by decide +kernel
theorem dX7_takeSplit_38 : decode cX7_takeSplit 38 = .ok (.goto (-21), 3) := by decide +kernel
theorem dX7_takeSplit_41 : decode cX7_takeSplit 41 = .ok (.return_, 1) := by decide +kernel
theorem dX7_takeSplitEntry_0 : decode cX7_takeSplitEntry 0 = .ok (.aload_n 1, 1) := by decide +kernel
theorem dX7_takeSplitEntry_1 : decode cX7_takeSplitEntry 1 = .ok (.invokevirtual 59, 3) := by decide +kernel
theorem dX7_takeSplitEntry_4 : decode cX7_takeSplitEntry 4 = .ok (.ifCond .ne 35, 3) := by decide +kernel
theorem dX7_takeSplitEntry_7 : decode cX7_takeSplitEntry 7 = .ok (.aload_n 0, 1) := by decide +kernel
theorem dX7_takeSplitEntry_8 : decode cX7_takeSplitEntry 8 = .ok (.getfield 27, 3) := by decide +kernel
theorem dX7_takeSplitEntry_11 : decode cX7_takeSplitEntry 11 = .ok (.bipush 60, 2) := by decide +kernel
theorem dX7_takeSplitEntry_13 : decode cX7_takeSplitEntry 13 = .ok (.if_icmp .ge 26, 3) := by decide +kernel
theorem dX7_takeSplitEntry_16 : decode cX7_takeSplitEntry 16 = .ok (.aload_n 0, 1) := by decide +kernel
theorem dX7_takeSplitEntry_17 : decode cX7_takeSplitEntry 17 = .ok (.getfield 11, 3) := by decide +kernel
theorem dX7_takeSplitEntry_20 : decode cX7_takeSplitEntry 20 = .ok (.aload_n 0, 1) := by decide +kernel
theorem dX7_takeSplitEntry_21 : decode cX7_takeSplitEntry 21 = .ok (.getfield 27, 3) := by decide +kernel
theorem dX7_takeSplitEntry_24 : decode cX7_takeSplitEntry 24 = .ok (.aaload, 1) := by decide +kernel
theorem dX7_takeSplitEntry_25 : decode cX7_takeSplitEntry 25 = .ok (.aload_n 1, 1) := by decide +kernel
theorem dX7_takeSplitEntry_26 : decode cX7_takeSplitEntry 26 = .ok (.invokevirtual 63, 3) := by decide +kernel
theorem dX7_takeSplitEntry_29 : decode cX7_takeSplitEntry 29 = .ok (.aload_n 0, 1) := by decide +kernel
theorem dX7_takeSplitEntry_30 : decode cX7_takeSplitEntry 30 = .ok (.dup, 1) := by decide +kernel
theorem dX7_takeSplitEntry_31 : decode cX7_takeSplitEntry 31 = .ok (.getfield 27, 3) := by decide +kernel
theorem dX7_takeSplitEntry_34 : decode cX7_takeSplitEntry 34 = .ok (.iconst 1, 1) := by decide +kernel
theorem dX7_takeSplitEntry_35 : decode cX7_takeSplitEntry 35 = .ok (.iadd, 1) := by decide +kernel
theorem dX7_takeSplitEntry_36 : decode cX7_takeSplitEntry 36 = .ok (.putfield 27, 3) := by decide +kernel
theorem dX7_takeSplitEntry_39 : decode cX7_takeSplitEntry 39 = .ok (.iconst 1, 1) := by decide +kernel
theorem dX7_takeSplitEntry_40 : decode cX7_takeSplitEntry 40 = .ok (.istore_n 2, 1) := by decide +kernel
theorem dX7_takeSplitEntry_41 : decode cX7_takeSplitEntry 41 = .ok (.iload_n 2, 1) := by decide +kernel
theorem dX7_takeSplitEntry_42 : decode cX7_takeSplitEntry 42 = .ok (.aload_n 1, 1) := by decide +kernel
theorem dX7_takeSplitEntry_43 : decode cX7_takeSplitEntry 43 = .ok (.getfield 41, 3) := by decide +kernel
theorem dX7_takeSplitEntry_46 : decode cX7_takeSplitEntry 46 = .ok (.if_icmp .ge 49, 3) := by decide +kernel
theorem dX7_takeSplitEntry_49 : decode cX7_takeSplitEntry 49 = .ok (.aload_n 0, 1) := by decide +kernel
theorem dX7_takeSplitEntry_50 : decode cX7_takeSplitEntry 50 = .ok (.getfield 27, 3) := by decide +kernel
theorem dX7_takeSplitEntry_53 : decode cX7_takeSplitEntry 53 = .ok (.bipush 60, 2) := by decide +kernel
theorem dX7_takeSplitEntry_55 : decode cX7_takeSplitEntry 55 = .ok (.if_icmp .ge 40, 3) := by decide +kernel
theorem dX7_takeSplitEntry_58 : decode cX7_takeSplitEntry 58 = .ok (.aload_n 0, 1) := by decide +kernel
theorem dX7_takeSplitEntry_59 : decode cX7_takeSplitEntry 59 = .ok (.getfield 11, 3) := by decide +kernel
theorem dX7_takeSplitEntry_62 : decode cX7_takeSplitEntry 62 = .ok (.aload_n 0, 1) := by decide +kernel
theorem dX7_takeSplitEntry_63 : decode cX7_takeSplitEntry 63 = .ok (.getfield 27, 3) := by decide +kernel
theorem dX7_takeSplitEntry_66 : decode cX7_takeSplitEntry 66 = .ok (.aaload, 1) := by decide +kernel
theorem dX7_takeSplitEntry_67 : decode cX7_takeSplitEntry 67 = .ok (.aload_n 1, 1) := by decide +kernel
theorem dX7_takeSplitEntry_68 : decode cX7_takeSplitEntry 68 = .ok (.iload_n 2, 1) := by decide +kernel
theorem dX7_takeSplitEntry_69 : decode cX7_takeSplitEntry 69 = .ok (.aload_n 0, 1) := by decide +kernel
theorem dX7_takeSplitEntry_70 : decode cX7_takeSplitEntry 70 = .ok (.getfield 22, 3) := by decide +kernel
theorem dX7_takeSplitEntry_73 : decode cX7_takeSplitEntry 73 = .ok (.getfield 34, 3) := by decide +kernel
theorem dX7_takeSplitEntry_76 : decode cX7_takeSplitEntry 76 = .ok (.invokevirtual 66, 3) := by decide +kernel
theorem dX7_takeSplitEntry_79 : decode cX7_takeSplitEntry 79 = .ok (.aload_n 0, 1) := by decide +kernel
theorem dX7_takeSplitEntry_80 : decode cX7_takeSplitEntry 80 = .ok (.dup, 1) := by decide +kernel
theorem dX7_takeSplitEntry_81 : decode cX7_takeSplitEntry 81 = .ok (.getfield 27, 3) := by decide +kernel
theorem dX7_takeSplitEntry_84 : decode cX7_takeSplitEntry 84 = .ok (.iconst 1, 1) := by decide +kernel
theorem dX7_takeSplitEntry_85 : decode cX7_takeSplitEntry 85 = .ok (.iadd, 1) := by decide +kernel
theorem dX7_takeSplitEntry_86 : decode cX7_takeSplitEntry 86 = .ok (.putfield 27, 3) := by decide +kernel
theorem dX7_takeSplitEntry_89 : decode cX7_takeSplitEntry 89 = .ok (.iinc 2 1, 3) := by decide +kernel
theorem dX7_takeSplitEntry_92 : decode cX7_takeSplitEntry 92 = .ok (.goto (-51), 3) := by decide +kernel
theorem dX7_takeSplitEntry_95 : decode cX7_takeSplitEntry 95 = .ok (.return_, 1) := by decide +kernel
theorem dX7_joinAll_0 : decode cX7_joinAll 0 = .ok (.iconst 0, 1) := by decide +kernel
theorem dX7_joinAll_1 : decode cX7_joinAll 1 = .ok (.istore_n 2, 1) := by decide +kernel
theorem dX7_joinAll_2 : decode cX7_joinAll 2 = .ok (.iconst 1, 1) := by decide +kernel
theorem dX7_joinAll_3 : decode cX7_joinAll 3 = .ok (.istore_n 3, 1) := by decide +kernel
theorem dX7_joinAll_4 : decode cX7_joinAll 4 = .ok (.iload_n 3, 1) := by decide +kernel
theorem dX7_joinAll_5 : decode cX7_joinAll 5 = .ok (.aload_n 0, 1) := by decide +kernel
theorem dX7_joinAll_6 : decode cX7_joinAll 6 = .ok (.getfield 27, 3) := by decide +kernel
theorem dX7_joinAll_9 : decode cX7_joinAll 9 = .ok (.if_icmp .ge 51, 3) := by decide +kernel
theorem dX7_joinAll_12 : decode cX7_joinAll 12 = .ok (.aload_n 1, 1) := by decide +kernel
theorem dX7_joinAll_13 : decode cX7_joinAll 13 = .ok (.aload_n 0, 1) := by decide +kernel
theorem dX7_joinAll_14 : decode cX7_joinAll 14 = .ok (.getfield 11, 3) := by decide +kernel
theorem dX7_joinAll_17 : decode cX7_joinAll 17 = .ok (.iload_n 2, 1) := by decide +kernel
theorem dX7_joinAll_18 : decode cX7_joinAll 18 = .ok (.aaload, 1) := by decide +kernel
theorem dX7_joinAll_19 : decode cX7_joinAll 19 = .ok (.aload_n 0, 1) := by decide +kernel
theorem dX7_joinAll_20 : decode cX7_joinAll 20 = .ok (.getfield 11, 3) := by decide +kernel
theorem dX7_joinAll_23 : decode cX7_joinAll 23 = .ok (.iload_n 3, 1) := by decide +kernel
theorem dX7_joinAll_24 : decode cX7_joinAll 24 = .ok (.aaload, 1) := by decide +kernel
theorem dX7_joinAll_25 : decode cX7_joinAll 25 = .ok (.aload_n 0, 1) := by decide +kernel
theorem dX7_joinAll_26 : decode cX7_joinAll 26 = .ok (.getfield 22, 3) := by decide +kernel
theorem dX7_joinAll_29 : decode cX7_joinAll 29 = .ok (.getfield 34, 3) := by decide +kernel
theorem dX7_joinAll_32 : decode cX7_joinAll 32 = .ok (.invokevirtual 70, 3) := by decide +kernel
theorem dX7_joinAll_35 : decode cX7_joinAll 35 = .ok (.ifCond .ne 19, 3) := by decide +kernel
theorem dX7_joinAll_38 : decode cX7_joinAll 38 = .ok (.iinc 2 1, 3) := by decide +kernel
theorem dX7_joinAll_41 : decode cX7_joinAll 41 = .ok (.aload_n 0, 1) := by decide +kernel
theorem dX7_joinAll_42 : decode cX7_joinAll 42 = .ok (.getfield 11, 3) := by decide +kernel
theorem dX7_joinAll_45 : decode cX7_joinAll 45 = .ok (.iload_n 2, 1) := by decide +kernel
theorem dX7_joinAll_46 : decode cX7_joinAll 46 = .ok (.aload_n 0, 1) := by decide +kernel
theorem dX7_joinAll_47 : decode cX7_joinAll 47 = .ok (.getfield 11, 3) := by decide +kernel
theorem dX7_joinAll_50 : decode cX7_joinAll 50 = .ok (.iload_n 3, 1) := by decide +kernel
theorem dX7_joinAll_51 : decode cX7_joinAll 51 = .ok (.invokestatic 76, 3) := by decide +kernel
theorem dX7_joinAll_54 : decode cX7_joinAll 54 = .ok (.iinc 3 1, 3) := by decide +kernel
theorem dX7_joinAll_57 : decode cX7_joinAll 57 = .ok (.goto (-53), 3) := by decide +kernel
theorem dX7_joinAll_60 : decode cX7_joinAll 60 = .ok (.aload_n 0, 1) := by decide +kernel
theorem dX7_joinAll_61 : decode cX7_joinAll 61 = .ok (.aload_n 0, 1) := by decide +kernel
theorem dX7_joinAll_62 : decode cX7_joinAll 62 = .ok (.getfield 27, 3) := by decide +kernel
theorem dX7_joinAll_65 : decode cX7_joinAll 65 = .ok (.iload_n 2, 1) := by decide +kernel
theorem dX7_joinAll_66 : decode cX7_joinAll 66 = .ok (.iconst 1, 1) := by decide +kernel
theorem dX7_joinAll_67 : decode cX7_joinAll 67 = .ok (.iadd, 1) := by decide +kernel
theorem dX7_joinAll_68 : decode cX7_joinAll 68 = .ok (.invokestatic 80, 3) := by decide +kernel
theorem dX7_joinAll_71 : decode cX7_joinAll 71 = .ok (.putfield 27, 3) := by decide +kernel
theorem dX7_joinAll_74 : decode cX7_joinAll 74 = .ok (.return_, 1) := by decide +kernel
theorem dX7_putInOrder_0 : decode cX7_putInOrder 0 = .ok (.iconst 0, 1) := by decide +kernel
theorem dX7_putInOrder_1 : decode cX7_putInOrder 1 = .ok (.istore_n 1, 1) := by decide +kernel
theorem dX7_putInOrder_2 : decode cX7_putInOrder 2 = .ok (.iload_n 1, 1) := by decide +kernel
theorem dX7_putInOrder_3 : decode cX7_putInOrder 3 = .ok (.aload_n 0, 1) := by decide +kernel
theorem dX7_putInOrder_4 : decode cX7_putInOrder 4 = .ok (.getfield 27, 3) := by decide +kernel
theorem dX7_putInOrder_7 : decode cX7_putInOrder 7 = .ok (.if_icmp .ge 24, 3) := by decide +kernel
theorem dX7_putInOrder_10 : decode cX7_putInOrder 10 = .ok (.aload_n 0, 1) := by decide +kernel
theorem dX7_putInOrder_11 : decode cX7_putInOrder 11 = .ok (.getfield 11, 3) := by decide +kernel
theorem dX7_putInOrder_14 : decode cX7_putInOrder 14 = .ok (.iload_n 1, 1) := by decide +kernel
theorem dX7_putInOrder_15 : decode cX7_putInOrder 15 = .ok (.aaload, 1) := by decide +kernel
theorem dX7_putInOrder_16 : decode cX7_putInOrder 16 = .ok (.iload_n 1, 1) := by decide +kernel
theorem dX7_putInOrder_17 : decode cX7_putInOrder 17 = .ok (.putfield 83, 3) := by decide +kernel
theorem dX7_putInOrder_20 : decode cX7_putInOrder 20 = .ok (.aload_n 0, 1) := by decide +kernel
theorem dX7_putInOrder_21 : decode cX7_putInOrder 21 = .ok (.iload_n 1, 1) := by decide +kernel
theorem dX7_putInOrder_22 : decode cX7_putInOrder 22 = .ok (.invokevirtual 86, 3) := by decide +kernel
theorem dX7_putInOrder_25 : decode cX7_putInOrder 25 = .ok (.iinc 1 1, 3) := by decide +kernel
theorem dX7_putInOrder_28 : decode cX7_putInOrder 28 = .ok (.goto (-26), 3) := by decide +kernel
theorem dX7_putInOrder_31 : decode cX7_putInOrder 31 = .ok (.iconst 0, 1) := by decide +kernel
theorem dX7_putInOrder_32 : decode cX7_putInOrder 32 = .ok (.istore_n 1, 1) := by decide +kernel
theorem dX7_putInOrder_33 : decode cX7_putInOrder 33 = .ok (.iconst 0, 1) := by decide +kernel
theorem dX7_putInOrder_34 : decode cX7_putInOrder 34 = .ok (.istore_n 2, 1) := by decide +kernel
theorem dX7_putInOrder_35 : decode cX7_putInOrder 35 = .ok (.iload_n 2, 1) := by decide +kernel
theorem dX7_putInOrder_36 : decode cX7_putInOrder 36 = .ok (.aload_n 0, 1) := by decide +kernel
theorem dX7_putInOrder_37 : decode cX7_putInOrder 37 = .ok (.getfield 27, 3) := by decide +kernel
theorem dX7_putInOrder_40 : decode cX7_putInOrder 40 = .ok (.if_icmp .ge 25, 3) := by decide +kernel
theorem dX7_putInOrder_43 : decode cX7_putInOrder 43 = .ok (.aload_n 0, 1) := by decide +kernel
theorem dX7_putInOrder_44 : decode cX7_putInOrder 44 = .ok (.getfield 11, 3) := by decide +kernel
theorem dX7_putInOrder_47 : decode cX7_putInOrder 47 = .ok (.iload_n 2, 1) := by decide +kernel
theorem dX7_putInOrder_48 : decode cX7_putInOrder 48 = .ok (.aaload, 1) := by decide +kernel
theorem dX7_putInOrder_49 : decode cX7_putInOrder 49 = .ok (.getfield 83, 3) := by decide +kernel
theorem dX7_putInOrder_52 : decode cX7_putInOrder 52 = .ok (.iload_n 2, 1) := by decide +kernel
theorem dX7_putInOrder_53 : decode cX7_putInOrder 53 = .ok (.if_icmp .eq 6, 3) := by decide +kernel
theorem dX7_putInOrder_56 : decode cX7_putInOrder 56 = .ok (.iinc 1 1, 3) := by decide +kernel
theorem dX7_putInOrder_59 : decode cX7_putInOrder 59 = .ok (.iinc 2 1, 3) := by decide +kernel
theorem dX7_putInOrder_62 : decode cX7_putInOrder 62 = .ok (.goto (-27), 3) := by decide +kernel
theorem dX7_putInOrder_65 : decode cX7_putInOrder 65 = .ok (.iload_n 1, 1) := by decide +kernel
theorem dX7_putInOrder_66 : decode cX7_putInOrder 66 = .ok (.ireturn, 1) := by decide +kernel
theorem dX7_sinkToPlace_0 : decode cX7_sinkToPlace 0 = .ok (.aload_n 0, 1) := by decide +kernel
theorem dX7_sinkToPlace_1 : decode cX7_sinkToPlace 1 = .ok (.getfield 11, 3) := by decide +kernel
theorem dX7_sinkToPlace_4 : decode cX7_sinkToPlace 4 = .ok (.iload_n 1, 1) := by decide +kernel
