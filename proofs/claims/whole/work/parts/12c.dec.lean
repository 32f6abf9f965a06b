theorem dX10_copyCalls_58 : decode cX10_copyCalls 58 = .ok (.imul, 1) := by decide +kernel
theorem dX10_copyCalls_59 : decode cX10_copyCalls 59 = .ok (.iconst 2, 1) := by decide +kernel
theorem dX10_copyCalls_60 : decode cX10_copyCalls 60 = .ok (.iload_n 2, 1) := by decide +kernel
theorem dX10_copyCalls_61 : decode cX10_copyCalls 61 = .ok (.imul, 1) := by decide +kernel
theorem dX10_copyCalls_62 : decode cX10_copyCalls 62 = .ok (.iadd, 1) := by decide +kernel
theorem dX10_copyCalls_63 : decode cX10_copyCalls 63 = .ok (.iload 5, 2) := by decide +kernel
theorem dX10_copyCalls_65 : decode cX10_copyCalls 65 = .ok (.iadd, 1) := by decide +kernel
theorem dX10_copyCalls_66 : decode cX10_copyCalls 66 = .ok (.aload_n 0, 1) := by decide +kernel
theorem dX10_copyCalls_67 : decode cX10_copyCalls 67 = .ok (.getfield 100, 3) := by decide +kernel
theorem dX10_copyCalls_70 : decode cX10_copyCalls 70 = .ok (.bipush 6, 2) := by decide +kernel
theorem dX10_copyCalls_72 : decode cX10_copyCalls 72 = .ok (.iload_n 3, 1) := by decide +kernel
theorem dX10_copyCalls_73 : decode cX10_copyCalls 73 = .ok (.imul, 1) := by decide +kernel
theorem dX10_copyCalls_74 : decode cX10_copyCalls 74 = .ok (.iconst 2, 1) := by decide +kernel
theorem dX10_copyCalls_75 : decode cX10_copyCalls 75 = .ok (.iload 4, 2) := by decide +kernel
theorem dX10_copyCalls_77 : decode cX10_copyCalls 77 = .ok (.imul, 1) := by decide +kernel
theorem dX10_copyCalls_78 : decode cX10_copyCalls 78 = .ok (.iadd, 1) := by decide +kernel
theorem dX10_copyCalls_79 : decode cX10_copyCalls 79 = .ok (.iload 5, 2) := by decide +kernel
theorem dX10_copyCalls_81 : decode cX10_copyCalls 81 = .ok (.iadd, 1) := by decide +kernel
theorem dX10_copyCalls_82 : decode cX10_copyCalls 82 = .ok (.iaload, 1) := by decide +kernel
theorem dX10_copyCalls_83 : decode cX10_copyCalls 83 = .ok (.iastore, 1) := by decide +kernel
theorem dX10_copyCalls_84 : decode cX10_copyCalls 84 = .ok (.iinc 5 1, 3) := by decide +kernel
theorem dX10_copyCalls_87 : decode cX10_copyCalls 87 = .ok (.goto (-42), 3) := by decide +kernel
theorem dX10_copyCalls_90 : decode cX10_copyCalls 90 = .ok (.return_, 1) := by decide +kernel
theorem dX10_noCalls_0 : decode cX10_noCalls 0 = .ok (.aload_n 0, 1) := by decide +kernel
theorem dX10_noCalls_1 : decode cX10_noCalls 1 = .ok (.getfield 103, 3) := by decide +kernel
theorem dX10_noCalls_4 : decode cX10_noCalls 4 = .ok (.iconst 3, 1) := by decide +kernel
theorem dX10_noCalls_5 : decode cX10_noCalls 5 = .ok (.iload_n 1, 1) := by decide +kernel
theorem dX10_noCalls_6 : decode cX10_noCalls 6 = .ok (.imul, 1) := by decide +kernel
theorem dX10_noCalls_7 : decode cX10_noCalls 7 = .ok (.iload_n 2, 1) := by decide +kernel
theorem dX10_noCalls_8 : decode cX10_noCalls 8 = .ok (.iadd, 1) := by decide +kernel
theorem dX10_noCalls_9 : decode cX10_noCalls 9 = .ok (.iconst 1, 1) := by decide +kernel
theorem dX10_noCalls_10 : decode cX10_noCalls 10 = .ok (.iastore, 1) := by decide +kernel
theorem dX10_noCalls_11 : decode cX10_noCalls 11 = .ok (.aload_n 0, 1) := by decide +kernel
theorem dX10_noCalls_12 : decode cX10_noCalls 12 = .ok (.getfield 106, 3) := by decide +kernel
theorem dX10_noCalls_15 : decode cX10_noCalls 15 = .ok (.iconst 3, 1) := by decide +kernel
theorem dX10_noCalls_16 : decode cX10_noCalls 16 = .ok (.iload_n 1, 1) := by decide +kernel
theorem dX10_noCalls_17 : decode cX10_noCalls 17 = .ok (.imul, 1) := by decide +kernel
theorem dX10_noCalls_18 : decode cX10_noCalls 18 = .ok (.iload_n 2, 1) := by decide +kernel
theorem dX10_noCalls_19 : decode cX10_noCalls 19 = .ok (.iadd, 1) := by decide +kernel
theorem dX10_noCalls_20 : decode cX10_noCalls 20 = .ok (.iconst 0, 1) := by decide +kernel
theorem dX10_noCalls_21 : decode cX10_noCalls 21 = .ok (.bastore, 1) := by decide +kernel
theorem dX10_noCalls_22 : decode cX10_noCalls 22 = .ok (.aload_n 0, 1) := by decide +kernel
theorem dX10_noCalls_23 : decode cX10_noCalls 23 = .ok (.getfield 100, 3) := by decide +kernel
theorem dX10_noCalls_26 : decode cX10_noCalls 26 = .ok (.bipush 6, 2) := by decide +kernel
theorem dX10_noCalls_28 : decode cX10_noCalls 28 = .ok (.iload_n 1, 1) := by decide +kernel
theorem dX10_noCalls_29 : decode cX10_noCalls 29 = .ok (.imul, 1) := by decide +kernel
theorem dX10_noCalls_30 : decode cX10_noCalls 30 = .ok (.iconst 2, 1) := by decide +kernel
theorem dX10_noCalls_31 : decode cX10_noCalls 31 = .ok (.iload_n 2, 1) := by decide +kernel
theorem dX10_noCalls_32 : decode cX10_noCalls 32 = .ok (.imul, 1) := by decide +kernel
theorem dX10_noCalls_33 : decode cX10_noCalls 33 = .ok (.iadd, 1) := by decide +kernel
theorem dX10_noCalls_34 : decode cX10_noCalls 34 = .ok (.iconst (-1), 1) := by decide +kernel
theorem dX10_noCalls_35 : decode cX10_noCalls 35 = .ok (.iastore, 1) := by decide +kernel
theorem dX10_noCalls_36 : decode cX10_noCalls 36 = .ok (.aload_n 0, 1) := by decide +kernel
theorem dX10_noCalls_37 : decode cX10_noCalls 37 = .ok (.getfield 100, 3) := by decide +kernel
theorem dX10_noCalls_40 : decode cX10_noCalls 40 = .ok (.bipush 6, 2) := by decide +kernel
theorem dX10_noCalls_42 : decode cX10_noCalls 42 = .ok (.iload_n 1, 1) := by decide +kernel
theorem dX10_noCalls_43 : decode cX10_noCalls 43 = .ok (.imul, 1) := by decide +kernel
theorem dX10_noCalls_44 : decode cX10_noCalls 44 = .ok (.iconst 2, 1) := by decide +kernel
theorem dX10_noCalls_45 : decode cX10_noCalls 45 = .ok (.iload_n 2, 1) := by decide +kernel
theorem dX10_noCalls_46 : decode cX10_noCalls 46 = .ok (.imul, 1) := by decide +kernel
theorem dX10_noCalls_47 : decode cX10_noCalls 47 = .ok (.iadd, 1) := by decide +kernel
theorem dX10_noCalls_48 : decode cX10_noCalls 48 = .ok (.iconst 1, 1) := by decide +kernel
theorem dX10_noCalls_49 : decode cX10_noCalls 49 = .ok (.iadd, 1) := by decide +kernel
theorem dX10_noCalls_50 : decode cX10_noCalls 50 = .ok (.iconst (-1), 1) := by decide +kernel
theorem dX10_noCalls_51 : decode cX10_noCalls 51 = .ok (.iastore, 1) := by decide +kernel
theorem dX10_noCalls_52 : decode cX10_noCalls 52 = .ok (.return_, 1) := by decide +kernel
theorem dX10_copyTable_0 : decode cX10_copyTable 0 = .ok (.aload_n 0, 1) := by decide +kernel
theorem dX10_copyTable_1 : decode cX10_copyTable 1 = .ok (.getfield 60, 3) := by decide +kernel
theorem dX10_copyTable_4 : decode cX10_copyTable 4 = .ok (.iload_n 1, 1) := by decide +kernel
theorem dX10_copyTable_5 : decode cX10_copyTable 5 = .ok (.aload_n 0, 1) := by decide +kernel
theorem dX10_copyTable_6 : decode cX10_copyTable 6 = .ok (.getfield 60, 3) := by decide +kernel
theorem dX10_copyTable_9 : decode cX10_copyTable 9 = .ok (.iload_n 2, 1) := by decide +kernel
theorem dX10_copyTable_10 : decode cX10_copyTable 10 = .ok (.iaload, 1) := by decide +kernel
theorem dX10_copyTable_11 : decode cX10_copyTable 11 = .ok (.iastore, 1) := by decide +kernel
theorem dX10_copyTable_12 : decode cX10_copyTable 12 = .ok (.aload_n 0, 1) := by decide +kernel
theorem dX10_copyTable_13 : decode cX10_copyTable 13 = .ok (.getfield 63, 3) := by decide +kernel
theorem dX10_copyTable_16 : decode cX10_copyTable 16 = .ok (.iload_n 1, 1) := by decide +kernel
theorem dX10_copyTable_17 : decode cX10_copyTable 17 = .ok (.aload_n 0, 1) := by decide +kernel
theorem dX10_copyTable_18 : decode cX10_copyTable 18 = .ok (.getfield 63, 3) := by decide +kernel
theorem dX10_copyTable_21 : decode cX10_copyTable 21 = .ok (.iload_n 2, 1) := by decide +kernel
theorem dX10_copyTable_22 : decode cX10_copyTable 22 = .ok (.iaload, 1) := by decide +kernel
theorem dX10_copyTable_23 : decode cX10_copyTable 23 = .ok (.iastore, 1) := by decide +kernel
theorem dX10_copyTable_24 : decode cX10_copyTable 24 = .ok (.iconst 0, 1) := by decide +kernel
theorem dX10_copyTable_25 : decode cX10_copyTable 25 = .ok (.istore_n 3, 1) := by decide +kernel
theorem dX10_copyTable_26 : decode cX10_copyTable 26 = .ok (.iload_n 3, 1) := by decide +kernel
theorem dX10_copyTable_27 : decode cX10_copyTable 27 = .ok (.iconst 3, 1) := by decide +kernel
theorem dX10_copyTable_28 : decode cX10_copyTable 28 = .ok (.if_icmp .ge 17, 3) := by decide +kernel
theorem dX10_copyTable_31 : decode cX10_copyTable 31 = .ok (.aload_n 0, 1) := by decide +kernel
theorem dX10_copyTable_32 : decode cX10_copyTable 32 = .ok (.iload_n 1, 1) := by decide +kernel
theorem dX10_copyTable_33 : decode cX10_copyTable 33 = .ok (.iload_n 3, 1) := by decide +kernel
theorem dX10_copyTable_34 : decode cX10_copyTable 34 = .ok (.iload_n 2, 1) := by decide +kernel
theorem dX10_copyTable_35 : decode cX10_copyTable 35 = .ok (.iload_n 3, 1) := by decide +kernel
theorem dX10_copyTable_36 : decode cX10_copyTable 36 = .ok (.invokevirtual 194, 3) := by decide +kernel
theorem dX10_copyTable_39 : decode cX10_copyTable 39 = .ok (.iinc 3 1, 3) := by decide +kernel
theorem dX10_copyTable_42 : decode cX10_copyTable 42 = .ok (.goto (-16), 3) := by decide +kernel
theorem dX10_copyTable_45 : decode cX10_copyTable 45 = .ok (.iconst 0, 1) := by decide +kernel
theorem dX10_copyTable_46 : decode cX10_copyTable 46 = .ok (.istore_n 3, 1) := by decide +kernel
theorem dX10_copyTable_47 : decode cX10_copyTable 47 = .ok (.iload_n 3, 1) := by decide +kernel
theorem dX10_copyTable_48 : decode cX10_copyTable 48 = .ok (.aload_n 0, 1) := by decide +kernel
theorem dX10_copyTable_49 : decode cX10_copyTable 49 = .ok (.getfield 60, 3) := by decide +kernel
theorem dX10_copyTable_52 : decode cX10_copyTable 52 = .ok (.iload_n 2, 1) := by decide +kernel
theorem dX10_copyTable_53 : decode cX10_copyTable 53 = .ok (.iaload, 1) := by decide +kernel
theorem dX10_copyTable_54 : decode cX10_copyTable 54 = .ok (.if_icmp .ge 25, 3) := by decide +kernel
theorem dX10_copyTable_57 : decode cX10_copyTable 57 = .ok (.aload_n 0, 1) := by decide +kernel
theorem dX10_copyTable_58 : decode cX10_copyTable 58 = .ok (.bipush 60, 2) := by decide +kernel
theorem dX10_copyTable_60 : decode cX10_copyTable 60 = .ok (.iload_n 1, 1) := by decide +kernel
theorem dX10_copyTable_61 : decode cX10_copyTable 61 = .ok (.imul, 1) := by decide +kernel
theorem dX10_copyTable_62 : decode cX10_copyTable 62 = .ok (.iload_n 3, 1) := by decide +kernel
theorem dX10_copyTable_63 : decode cX10_copyTable 63 = .ok (.iadd, 1) := by decide +kernel
theorem dX10_copyTable_64 : decode cX10_copyTable 64 = .ok (.bipush 60, 2) := by decide +kernel
theorem dX10_copyTable_66 : decode cX10_copyTable 66 = .ok (.iload_n 2, 1) := by decide +kernel
theorem dX10_copyTable_67 : decode cX10_copyTable 67 = .ok (.imul, 1) := by decide +kernel
theorem dX10_copyTable_68 : decode cX10_copyTable 68 = .ok (.iload_n 3, 1) := by decide +kernel
theorem dX10_copyTable_69 : decode cX10_copyTable 69 = .ok (.iadd, 1) := by decide +kernel
theorem dX10_copyTable_70 : decode cX10_copyTable 70 = .ok (.invokevirtual 197, 3) := by decide +kernel
theorem dX10_copyTable_73 : decode cX10_copyTable 73 = .ok (.iinc 3 1, 3) := by decide +kernel
theorem dX10_copyTable_76 : decode cX10_copyTable 76 = .ok (.goto (-29), 3) := by decide +kernel
theorem dX10_copyTable_79 : decode cX10_copyTable 79 = .ok (.return_, 1) := by decide +kernel
theorem dX10_copySample_0 : decode cX10_copySample 0 = .ok (.aload_n 0, 1) := by decide +kernel
theorem dX10_copySample_1 : decode cX10_copySample 1 = .ok (.getfield 69, 3) := by decide +kernel
theorem dX10_copySample_4 : decode cX10_copySample 4 = .ok (.iconst 3, 1) := by decide +kernel
theorem dX10_copySample_5 : decode cX10_copySample 5 = .ok (.iload_n 1, 1) := by decide +kernel
theorem dX10_copySample_6 : decode cX10_copySample 6 = .ok (.imul, 1) := by decide +kernel
theorem dX10_copySample_7 : decode cX10_copySample 7 = .ok (.iload_n 2, 1) := by decide +kernel
theorem dX10_copySample_8 : decode cX10_copySample 8 = .ok (.iadd, 1) := by decide +kernel
theorem dX10_copySample_9 : decode cX10_copySample 9 = .ok (.aload_n 0, 1) := by decide +kernel
theorem dX10_copySample_10 : decode cX10_copySample 10 = .ok (.getfield 69, 3) := by decide +kernel
theorem dX10_copySample_13 : decode cX10_copySample 13 = .ok (.iconst 3, 1) := by decide +kernel
theorem dX10_copySample_14 : decode cX10_copySample 14 = .ok (.iload_n 3, 1) := by decide +kernel
theorem dX10_copySample_15 : decode cX10_copySample 15 = .ok (.imul, 1) := by decide +kernel
theorem dX10_copySample_16 : decode cX10_copySample 16 = .ok (.iload 4, 2) := by decide +kernel
theorem dX10_copySample_18 : decode cX10_copySample 18 = .ok (.iadd, 1) := by decide +kernel
theorem dX10_copySample_19 : decode cX10_copySample 19 = .ok (.iaload, 1) := by decide +kernel
theorem dX10_copySample_20 : decode cX10_copySample 20 = .ok (.iastore, 1) := by decide +kernel
theorem dX10_copySample_21 : decode cX10_copySample 21 = .ok (.iconst 0, 1) := by decide +kernel
theorem dX10_copySample_22 : decode cX10_copySample 22 = .ok (.istore 5, 2) := by decide +kernel
theorem dX10_copySample_24 : decode cX10_copySample 24 = .ok (.iload 5, 2) := by decide +kernel
theorem dX10_copySample_26 : decode cX10_copySample 26 = .ok (.bipush 20, 2) := by decide +kernel
theorem dX10_copySample_28 : decode cX10_copySample 28 = .ok (.if_icmp .ge 42, 3) := by decide +kernel
theorem dX10_copySample_31 : decode cX10_copySample 31 = .ok (.aload_n 0, 1) := by decide +kernel
theorem dX10_copySample_32 : decode cX10_copySample 32 = .ok (.getfield 66, 3) := by decide +kernel
theorem dX10_copySample_35 : decode cX10_copySample 35 = .ok (.bipush 20, 2) := by decide +kernel
theorem dX10_copySample_37 : decode cX10_copySample 37 = .ok (.iconst 3, 1) := by decide +kernel
theorem dX10_copySample_38 : decode cX10_copySample 38 = .ok (.iload_n 1, 1) := by decide +kernel
theorem dX10_copySample_39 : decode cX10_copySample 39 = .ok (.imul, 1) := by decide +kernel
theorem dX10_copySample_40 : decode cX10_copySample 40 = .ok (.iload_n 2, 1) := by decide +kernel
theorem dX10_copySample_41 : decode cX10_copySample 41 = .ok (.iadd, 1) := by decide +kernel
theorem dX10_copySample_42 : decode cX10_copySample 42 = .ok (.imul, 1) := by decide +kernel
theorem dX10_copySample_43 : decode cX10_copySample 43 = .ok (.iload 5, 2) := by decide +kernel
theorem dX10_copySample_45 : decode cX10_copySample 45 = .ok (.iadd, 1) := by decide +kernel
theorem dX10_copySample_46 : decode cX10_copySample 46 = .ok (.aload_n 0, 1) := by decide +kernel
theorem dX10_copySample_47 : decode cX10_copySample 47 = .ok (.getfield 66, 3) := by decide +kernel
theorem dX10_copySample_50 : decode cX10_copySample 50 = .ok (.bipush 20, 2) := by decide +kernel
theorem dX10_copySample_52 : decode cX10_copySample 52 = .ok (.iconst 3, 1) := by decide +kernel
theorem dX10_copySample_53 : decode cX10_copySample 53 = .ok (.iload_n 3, 1) := by decide +kernel
theorem dX10_copySample_54 : decode cX10_copySample 54 = .ok (.imul, 1) := by decide +kernel
theorem dX10_copySample_55 : decode cX10_copySample 55 = .ok (.iload 4, 2) := by decide +kernel
theorem dX10_copySample_57 : decode cX10_copySample 57 = .ok (.iadd, 1) := by decide +kernel
theorem dX10_copySample_58 : decode cX10_copySample 58 = .ok (.imul, 1) := by decide +kernel
theorem dX10_copySample_59 : decode cX10_copySample 59 = .ok (.iload 5, 2) := by decide +kernel
theorem dX10_copySample_61 : decode cX10_copySample 61 = .ok (.iadd, 1) := by decide +kernel
theorem dX10_copySample_62 : decode cX10_copySample 62 = .ok (.baload, 1) := by decide +kernel
theorem dX10_copySample_63 : decode cX10_copySample 63 = .ok (.bastore, 1) := by decide +kernel
theorem dX10_copySample_64 : decode cX10_copySample 64 = .ok (.iinc 5 1, 3) := by decide +kernel
theorem dX10_copySample_67 : decode cX10_copySample 67 = .ok (.goto (-43), 3) := by decide +kernel
theorem dX10_copySample_70 : decode cX10_copySample 70 = .ok (.return_, 1) := by decide +kernel
theorem dX10_sameRow_0 : decode cX10_sameRow 0 = .ok (.aload_n 0, 1) := by decide +kernel
theorem dX10_sameRow_1 : decode cX10_sameRow 1 = .ok (.getfield 90, 3) := by decide +kernel
theorem dX10_sameRow_4 : decode cX10_sameRow 4 = .ok (.iconst 4, 1) := by decide +kernel
theorem dX10_sameRow_5 : decode cX10_sameRow 5 = .ok (.iload_n 1, 1) := by decide +kernel
theorem dX10_sameRow_6 : decode cX10_sameRow 6 = .ok (.imul, 1) := by decide +kernel
theorem dX10_sameRow_7 : decode cX10_sameRow 7 = .ok (.iload_n 2, 1) := by decide +kernel
theorem dX10_sameRow_8 : decode cX10_sameRow 8 = .ok (.iadd, 1) := by decide +kernel
theorem dX10_sameRow_9 : decode cX10_sameRow 9 = .ok (.iaload, 1) := by decide +kernel
theorem dX10_sameRow_10 : decode cX10_sameRow 10 = .ok (.aload_n 0, 1) := by decide +kernel
theorem dX10_sameRow_11 : decode cX10_sameRow 11 = .ok (.getfield 90, 3) := by decide +kernel
theorem dX10_sameRow_14 : decode cX10_sameRow 14 = .ok (.iconst 4, 1) := by decide +kernel
theorem dX10_sameRow_15 : decode cX10_sameRow 15 = .ok (.iload_n 3, 1) := by decide +kernel
theorem dX10_sameRow_16 : decode cX10_sameRow 16 = .ok (.imul, 1) := by decide +kernel
theorem dX10_sameRow_17 : decode cX10_sameRow 17 = .ok (.iload 4, 2) := by decide +kernel
theorem dX10_sameRow_19 : decode cX10_sameRow 19 = .ok (.iadd, 1) := by decide +kernel
theorem dX10_sameRow_20 : decode cX10_sameRow 20 = .ok (.iaload, 1) := by decide +kernel
theorem dX10_sameRow_21 : decode cX10_sameRow 21 = .ok (.if_icmp .ne 7, 3) := by decide +kernel
theorem dX10_sameRow_24 : decode cX10_sameRow 24 = .ok (.iconst 1, 1) := by decide +kernel
theorem dX10_sameRow_25 : decode cX10_sameRow 25 = .ok (.goto 4, 3) := by decide +kernel
theorem dX10_sameRow_28 : decode cX10_sameRow 28 = .ok (.iconst 0, 1) := by decide +kernel
theorem dX10_sameRow_29 : decode cX10_sameRow 29 = .ok (.istore 5, 2) := by decide +kernel
theorem dX10_sameRow_31 : decode cX10_sameRow 31 = .ok (.iconst 0, 1) := by decide +kernel
theorem dX10_sameRow_32 : decode cX10_sameRow 32 = .ok (.istore 6, 2) := by decide +kernel
theorem dX10_sameRow_34 : decode cX10_sameRow 34 = .ok (.iload 6, 2) := by decide +kernel
theorem dX10_sameRow_36 : decode cX10_sameRow 36 = .ok (.aload_n 0, 1) := by decide +kernel
theorem dX10_sameRow_37 : decode cX10_sameRow 37 = .ok (.getfield 90, 3) := by decide +kernel
theorem dX10_sameRow_40 : decode cX10_sameRow 40 = .ok (.iconst 4, 1) := by decide +kernel
theorem dX10_sameRow_41 : decode cX10_sameRow 41 = .ok (.iload_n 1, 1) := by decide +kernel
theorem dX10_sameRow_42 : decode cX10_sameRow 42 = .ok (.imul, 1) := by decide +kernel
theorem dX10_sameRow_43 : decode cX10_sameRow 43 = .ok (.iload_n 2, 1) := by decide +kernel
theorem dX10_sameRow_44 : decode cX10_sameRow 44 = .ok (.iadd, 1) := by decide +kernel
theorem dX10_sameRow_45 : decode cX10_sameRow 45 = .ok (.iaload, 1) := by decide +kernel
theorem dX10_sameRow_46 : decode cX10_sameRow 46 = .ok (.if_icmp .ge 57, 3) := by decide +kernel
theorem dX10_sameRow_49 : decode cX10_sameRow 49 = .ok (.iload 5, 2) := by decide +kernel
theorem dX10_sameRow_51 : decode cX10_sameRow 51 = .ok (.ifCond .eq 52, 3) := by decide +kernel
theorem dX10_sameRow_54 : decode cX10_sameRow 54 = .ok (.aload_n 0, 1) := by decide +kernel
theorem dX10_sameRow_55 : decode cX10_sameRow 55 = .ok (.getfield 87, 3) := by decide +kernel
theorem dX10_sameRow_58 : decode cX10_sameRow 58 = .ok (.bipush 26, 2) := by decide +kernel
theorem dX10_sameRow_60 : decode cX10_sameRow 60 = .ok (.iconst 4, 1) := by decide +kernel
theorem dX10_sameRow_61 : decode cX10_sameRow 61 = .ok (.iload_n 1, 1) := by decide +kernel
theorem dX10_sameRow_62 : decode cX10_sameRow 62 = .ok (.imul, 1) := by decide +kernel
theorem dX10_sameRow_63 : decode cX10_sameRow 63 = .ok (.iload_n 2, 1) := by decide +kernel
theorem dX10_sameRow_64 : decode cX10_sameRow 64 = .ok (.iadd, 1) := by decide +kernel
theorem dX10_sameRow_65 : decode cX10_sameRow 65 = .ok (.imul, 1) := by decide +kernel
theorem dX10_sameRow_66 : decode cX10_sameRow 66 = .ok (.iload 6, 2) := by decide +kernel
theorem dX10_sameRow_68 : decode cX10_sameRow 68 = .ok (.iadd, 1) := by decide +kernel
theorem dX10_sameRow_69 : decode cX10_sameRow 69 = .ok (.baload, 1) := by decide +kernel
theorem dX10_sameRow_70 : decode cX10_sameRow 70 = .ok (.aload_n 0, 1) := by decide +kernel
theorem dX10_sameRow_71 : decode cX10_sameRow 71 = .ok (.getfield 87, 3) := by decide +kernel
theorem dX10_sameRow_74 : decode cX10_sameRow 74 = .ok (.bipush 26, 2) := by decide +kernel
theorem dX10_sameRow_76 : decode cX10_sameRow 76 = .ok (.iconst 4, 1) := by decide +kernel
theorem dX10_sameRow_77 : decode cX10_sameRow 77 = .ok (.iload_n 3, 1) := by decide +kernel
theorem dX10_sameRow_78 : decode cX10_sameRow 78 = .ok (.imul, 1) := by decide +kernel
theorem dX10_sameRow_79 : decode cX10_sameRow 79 = .ok (.iload 4, 2) := by decide +kernel
theorem dX10_sameRow_81 : decode cX10_sameRow 81 = .ok (.iadd, 1) := by decide +kernel
theorem dX10_sameRow_82 : decode cX10_sameRow 82 = .ok (.imul, 1) := by decide +kernel
theorem dX10_sameRow_83 : decode cX10_sameRow 83 = .ok (.iload 6, 2) := by decide +kernel
theorem dX10_sameRow_85 : decode cX10_sameRow 85 = .ok (.iadd, 1) := by decide +kernel
theorem dX10_sameRow_86 : decode cX10_sameRow 86 = .ok (.baload, 1) := by decide +kernel
theorem dX10_sameRow_87 : decode cX10_sameRow 87 = .ok (.if_icmp .ne 7, 3) := by decide +kernel
theorem dX10_sameRow_90 : decode cX10_sameRow 90 = .ok (.iconst 1, 1) := by decide +kernel
theorem dX10_sameRow_91 : decode cX10_sameRow 91 = .ok (.goto 4, 3) := by decide +kernel
theorem dX10_sameRow_94 : decode cX10_sameRow 94 = .ok (.iconst 0, 1) := by decide +kernel
theorem dX10_sameRow_95 : decode cX10_sameRow 95 = .ok (.istore 5, 2) := by decide +kernel
theorem dX10_sameRow_97 : decode cX10_sameRow 97 = .ok (.iinc 6 1, 3) := by decide +kernel
theorem dX10_sameRow_100 : decode cX10_sameRow 100 = .ok (.goto (-66), 3) := by decide +kernel
theorem dX10_sameRow_103 : decode cX10_sameRow 103 = .ok (.iload 5, 2) := by decide +kernel
theorem dX10_sameRow_105 : decode cX10_sameRow 105 = .ok (.ireturn, 1) := by decide +kernel
theorem dX10_lineEnd_0 : decode cX10_lineEnd 0 = .ok (.iload_n 1, 1) := by decide +kernel
theorem dX10_lineEnd_1 : decode cX10_lineEnd 1 = .ok (.istore_n 2, 1) := by decide +kernel
theorem dX10_lineEnd_2 : decode cX10_lineEnd 2 = .ok (.aload_n 0, 1) := by decide +kernel
theorem dX10_lineEnd_3 : decode cX10_lineEnd 3 = .ok (.iload_n 2, 1) := by decide +kernel
theorem dX10_lineEnd_4 : decode cX10_lineEnd 4 = .ok (.invokevirtual 156, 3) := by decide +kernel
theorem dX10_lineEnd_7 : decode cX10_lineEnd 7 = .ok (.iconst (-1), 1) := by decide +kernel
theorem dX10_lineEnd_8 : decode cX10_lineEnd 8 = .ok (.if_icmp .eq 19, 3) := by decide +kernel
theorem dX10_lineEnd_11 : decode cX10_lineEnd 11 = .ok (.aload_n 0, 1) := by decide +kernel
theorem dX10_lineEnd_12 : decode cX10_lineEnd 12 = .ok (.iload_n 2, 1) := by decide +kernel
theorem dX10_lineEnd_13 : decode cX10_lineEnd 13 = .ok (.invokevirtual 156, 3) := by decide +kernel
theorem dX10_lineEnd_16 : decode cX10_lineEnd 16 = .ok (.bipush 10, 2) := by decide +kernel
theorem dX10_lineEnd_18 : decode cX10_lineEnd 18 = .ok (.if_icmp .eq 9, 3) := by decide +kernel
theorem dX10_lineEnd_21 : decode cX10_lineEnd 21 = .ok (.iinc 2 1, 3) := by decide +kernel
theorem dX10_lineEnd_24 : decode cX10_lineEnd 24 = .ok (.goto (-22), 3) := by decide +kernel
theorem dX10_lineEnd_27 : decode cX10_lineEnd 27 = .ok (.iload_n 2, 1) := by decide +kernel
theorem dX10_lineEnd_28 : decode cX10_lineEnd 28 = .ok (.ireturn, 1) := by decide +kernel
theorem dX10_sizeOf_0 : decode cX10_sizeOf 0 = .ok (.iload_n 0, 1) := by decide +kernel
theorem dX10_sizeOf_1 : decode cX10_sizeOf 1 = .ok (.ifCond .ne 8, 3) := by decide +kernel
theorem dX10_sizeOf_4 : decode cX10_sizeOf 4 = .ok (.bipush 20, 2) := by decide +kernel
theorem dX10_sizeOf_6 : decode cX10_sizeOf 6 = .ok (.goto 42, 3) := by decide +kernel
theorem dX10_sizeOf_9 : decode cX10_sizeOf 9 = .ok (.iload_n 0, 1) := by decide +kernel
theorem dX10_sizeOf_10 : decode cX10_sizeOf 10 = .ok (.iconst 1, 1) := by decide +kernel
theorem dX10_sizeOf_11 : decode cX10_sizeOf 11 = .ok (.if_icmp .ne 8, 3) := by decide +kernel
theorem dX10_sizeOf_14 : decode cX10_sizeOf 14 = .ok (.bipush 38, 2) := by decide +kernel
theorem dX10_sizeOf_16 : decode cX10_sizeOf 16 = .ok (.goto 32, 3) := by decide +kernel
theorem dX10_sizeOf_19 : decode cX10_sizeOf 19 = .ok (.iload_n 0, 1) := by decide +kernel
theorem dX10_sizeOf_20 : decode cX10_sizeOf 20 = .ok (.iconst 2, 1) := by decide +kernel
theorem dX10_sizeOf_21 : decode cX10_sizeOf 21 = .ok (.if_icmp .ne 8, 3) := by decide +kernel
theorem dX10_sizeOf_24 : decode cX10_sizeOf 24 = .ok (.bipush 6, 2) := by decide +kernel
theorem dX10_sizeOf_26 : decode cX10_sizeOf 26 = .ok (.goto 22, 3) := by decide +kernel
theorem dX10_sizeOf_29 : decode cX10_sizeOf 29 = .ok (.iload_n 0, 1) := by decide +kernel
theorem dX10_sizeOf_30 : decode cX10_sizeOf 30 = .ok (.iconst 3, 1) := by decide +kernel
theorem dX10_sizeOf_31 : decode cX10_sizeOf 31 = .ok (.if_icmp .ne 7, 3) := by decide +kernel
theorem dX10_sizeOf_34 : decode cX10_sizeOf 34 = .ok (.iconst 4, 1) := by decide +kernel
theorem dX10_sizeOf_35 : decode cX10_sizeOf 35 = .ok (.goto 13, 3) := by decide +kernel
theorem dX10_sizeOf_38 : decode cX10_sizeOf 38 = .ok (.iload_n 0, 1) := by decide +kernel
theorem dX10_sizeOf_39 : decode cX10_sizeOf 39 = .ok (.iconst 4, 1) := by decide +kernel
theorem dX10_sizeOf_40 : decode cX10_sizeOf 40 = .ok (.if_icmp .ne 7, 3) := by decide +kernel
theorem dX10_sizeOf_43 : decode cX10_sizeOf 43 = .ok (.iconst 2, 1) := by decide +kernel
theorem dX10_sizeOf_44 : decode cX10_sizeOf 44 = .ok (.goto 4, 3) := by decide +kernel
theorem dX10_sizeOf_47 : decode cX10_sizeOf 47 = .ok (.iconst 1, 1) := by decide +kernel
theorem dX10_sizeOf_48 : decode cX10_sizeOf 48 = .ok (.ireturn, 1) := by decide +kernel
theorem dX10_eightOf_0 : decode cX10_eightOf 0 = .ok (.iload_n 0, 1) := by decide +kernel
theorem dX10_eightOf_1 : decode cX10_eightOf 1 = .ok (.tableswitch 119 0 4 #[35, 60, 107, 111, 115], 35) := by decide +kernel
theorem dX10_eightOf_36 : decode cX10_eightOf 36 = .ok (.iload_n 1, 1) := by decide +kernel
theorem dX10_eightOf_37 : decode cX10_eightOf 37 = .ok (.ifCond .ne 9, 3) := by decide +kernel
theorem dX10_eightOf_40 : decode cX10_eightOf 40 = .ok (.ldc2_w 200, 3) := by decide +kernel
theorem dX10_eightOf_43 : decode cX10_eightOf 43 = .ok (.goto 17, 3) := by decide +kernel
theorem dX10_eightOf_46 : decode cX10_eightOf 46 = .ok (.iload_n 1, 1) := by decide +kernel
theorem dX10_eightOf_47 : decode cX10_eightOf 47 = .ok (.iconst 1, 1) := by decide +kernel
theorem dX10_eightOf_48 : decode cX10_eightOf 48 = .ok (.if_icmp .ne 9, 3) := by decide +kernel
theorem dX10_eightOf_51 : decode cX10_eightOf 51 = .ok (.ldc2_w 202, 3) := by decide +kernel
theorem dX10_eightOf_54 : decode cX10_eightOf 54 = .ok (.goto 6, 3) := by decide +kernel
theorem dX10_eightOf_57 : decode cX10_eightOf 57 = .ok (.ldc2_w 204, 3) := by decide +kernel
theorem dX10_eightOf_60 : decode cX10_eightOf 60 = .ok (.lreturn, 1) := by decide +kernel
theorem dX10_eightOf_61 : decode cX10_eightOf 61 = .ok (.iload_n 1, 1) := by decide +kernel
theorem dX10_eightOf_62 : decode cX10_eightOf 62 = .ok (.ifCond .ne 9, 3) := by decide +kernel
theorem dX10_eightOf_65 : decode cX10_eightOf 65 = .ok (.ldc2_w 206, 3) := by decide +kernel
theorem dX10_eightOf_68 : decode cX10_eightOf 68 = .ok (.goto 39, 3) := by decide +kernel
theorem dX10_eightOf_71 : decode cX10_eightOf 71 = .ok (.iload_n 1, 1) := by decide +kernel
theorem dX10_eightOf_72 : decode cX10_eightOf 72 = .ok (.iconst 1, 1) := by decide +kernel
theorem dX10_eightOf_73 : decode cX10_eightOf 73 = .ok (.if_icmp .ne 9, 3) := by decide +kernel
theorem dX10_eightOf_76 : decode cX10_eightOf 76 = .ok (.ldc2_w 208, 3) := by decide +kernel
theorem dX10_eightOf_79 : decode cX10_eightOf 79 = .ok (.goto 28, 3) := by decide +kernel
theorem dX10_eightOf_82 : decode cX10_eightOf 82 = .ok (.iload_n 1, 1) := by decide +kernel
theorem dX10_eightOf_83 : decode cX10_eightOf 83 = .ok (.iconst 2, 1) := by decide +kernel
theorem dX10_eightOf_84 : decode cX10_eightOf 84 = .ok (.if_icmp .ne 9, 3) := by decide +kernel
theorem dX10_eightOf_87 : decode cX10_eightOf 87 = .ok (.ldc2_w 210, 3) := by decide +kernel
theorem dX10_eightOf_90 : decode cX10_eightOf 90 = .ok (.goto 17, 3) := by decide +kernel
theorem dX10_eightOf_93 : decode cX10_eightOf 93 = .ok (.iload_n 1, 1) := by decide +kernel
theorem dX10_eightOf_94 : decode cX10_eightOf 94 = .ok (.iconst 3, 1) := by decide +kernel
theorem dX10_eightOf_95 : decode cX10_eightOf 95 = .ok (.if_icmp .ne 9, 3) := by decide +kernel
theorem dX10_eightOf_98 : decode cX10_eightOf 98 = .ok (.ldc2_w 212, 3) := by decide +kernel
theorem dX10_eightOf_101 : decode cX10_eightOf 101 = .ok (.goto 6, 3) := by decide +kernel
theorem dX10_eightOf_104 : decode cX10_eightOf 104 = .ok (.ldc2_w 214, 3) := by decide +kernel
theorem dX10_eightOf_107 : decode cX10_eightOf 107 = .ok (.lreturn, 1) := by decide +kernel
theorem dX10_eightOf_108 : decode cX10_eightOf 108 = .ok (.ldc2_w 216, 3) := by decide +kernel
theorem dX10_eightOf_111 : decode cX10_eightOf 111 = .ok (.lreturn, 1) := by decide +kernel
theorem dX10_eightOf_112 : decode cX10_eightOf 112 = .ok (.ldc2_w 218, 3) := by decide +kernel
theorem dX10_eightOf_115 : decode cX10_eightOf 115 = .ok (.lreturn, 1) := by decide +kernel
theorem dX10_eightOf_116 : decode cX10_eightOf 116 = .ok (.ldc2_w 220, 3) := by decide +kernel
theorem dX10_eightOf_119 : decode cX10_eightOf 119 = .ok (.lreturn, 1) := by decide +kernel
theorem dX10_eightOf_120 : decode cX10_eightOf 120 = .ok (.ldc2_w 222, 3) := by decide +kernel
theorem dX10_eightOf_123 : decode cX10_eightOf 123 = .ok (.lreturn, 1) := by decide +kernel
theorem dX10_octetOf_0 : decode cX10_octetOf 0 = .ok (.iload_n 0, 1) := by decide +kernel
theorem dX10_octetOf_1 : decode cX10_octetOf 1 = .ok (.iload_n 1, 1) := by decide +kernel
theorem dX10_octetOf_2 : decode cX10_octetOf 2 = .ok (.bipush 8, 2) := by decide +kernel
theorem dX10_octetOf_4 : decode cX10_octetOf 4 = .ok (.idiv, 1) := by decide +kernel
theorem dX10_octetOf_5 : decode cX10_octetOf 5 = .ok (.invokestatic 224, 3) := by decide +kernel
theorem dX10_octetOf_8 : decode cX10_octetOf 8 = .ok (.bipush 56, 2) := by decide +kernel
theorem dX10_octetOf_10 : decode cX10_octetOf 10 = .ok (.bipush 8, 2) := by decide +kernel
theorem dX10_octetOf_12 : decode cX10_octetOf 12 = .ok (.iload_n 1, 1) := by decide +kernel
theorem dX10_octetOf_13 : decode cX10_octetOf 13 = .ok (.bipush 8, 2) := by decide +kernel
theorem dX10_octetOf_15 : decode cX10_octetOf 15 = .ok (.irem, 1) := by decide +kernel
theorem dX10_octetOf_16 : decode cX10_octetOf 16 = .ok (.imul, 1) := by decide +kernel
theorem dX10_octetOf_17 : decode cX10_octetOf 17 = .ok (.isub, 1) := by decide +kernel
theorem dX10_octetOf_18 : decode cX10_octetOf 18 = .ok (.lshr, 1) := by decide +kernel
theorem dX10_octetOf_19 : decode cX10_octetOf 19 = .ok (.l2i, 1) := by decide +kernel
theorem dX10_octetOf_20 : decode cX10_octetOf 20 = .ok (.sipush 255, 3) := by decide +kernel
theorem dX10_octetOf_23 : decode cX10_octetOf 23 = .ok (.iand, 1) := by decide +kernel
theorem dX10_octetOf_24 : decode cX10_octetOf 24 = .ok (.ireturn, 1) := by decide +kernel
theorem dX10_begins_0 : decode cX10_begins 0 = .ok (.iload_n 2, 1) := by decide +kernel
theorem dX10_begins_1 : decode cX10_begins 1 = .ok (.iload_n 1, 1) := by decide +kernel
theorem dX10_begins_2 : decode cX10_begins 2 = .ok (.isub, 1) := by decide +kernel
theorem dX10_begins_3 : decode cX10_begins 3 = .ok (.iload_n 3, 1) := by decide +kernel
theorem dX10_begins_4 : decode cX10_begins 4 = .ok (.invokestatic 228, 3) := by decide +kernel
theorem dX10_begins_7 : decode cX10_begins 7 = .ok (.if_icmp .lt 7, 3) := by decide +kernel
theorem dX10_begins_10 : decode cX10_begins 10 = .ok (.iconst 1, 1) := by decide +kernel
theorem dX10_begins_11 : decode cX10_begins 11 = .ok (.goto 4, 3) := by decide +kernel
theorem dX10_begins_14 : decode cX10_begins 14 = .ok (.iconst 0, 1) := by decide +kernel
theorem dX10_begins_15 : decode cX10_begins 15 = .ok (.istore 4, 2) := by decide +kernel
theorem dX10_begins_17 : decode cX10_begins 17 = .ok (.iconst 0, 1) := by decide +kernel
theorem dX10_begins_18 : decode cX10_begins 18 = .ok (.istore 5, 2) := by decide +kernel
theorem dX10_begins_20 : decode cX10_begins 20 = .ok (.iload 5, 2) := by decide +kernel
theorem dX10_begins_22 : decode cX10_begins 22 = .ok (.iload_n 3, 1) := by decide +kernel
theorem dX10_begins_23 : decode cX10_begins 23 = .ok (.invokestatic 228, 3) := by decide +kernel
theorem dX10_begins_26 : decode cX10_begins 26 = .ok (.if_icmp .ge 38, 3) := by decide +kernel
theorem dX10_begins_29 : decode cX10_begins 29 = .ok (.iload 4, 2) := by decide +kernel
theorem dX10_begins_31 : decode cX10_begins 31 = .ok (.ifCond .eq 33, 3) := by decide +kernel
theorem dX10_begins_34 : decode cX10_begins 34 = .ok (.aload_n 0, 1) := by decide +kernel
theorem dX10_begins_35 : decode cX10_begins 35 = .ok (.iload_n 1, 1) := by decide +kernel
theorem dX10_begins_36 : decode cX10_begins 36 = .ok (.iload 5, 2) := by decide +kernel
theorem dX10_begins_38 : decode cX10_begins 38 = .ok (.iadd, 1) := by decide +kernel
theorem dX10_begins_39 : decode cX10_begins 39 = .ok (.invokevirtual 156, 3) := by decide +kernel
theorem dX10_begins_42 : decode cX10_begins 42 = .ok (.iload_n 3, 1) := by decide +kernel
theorem dX10_begins_43 : decode cX10_begins 43 = .ok (.iload 5, 2) := by decide +kernel
theorem dX10_begins_45 : decode cX10_begins 45 = .ok (.invokestatic 231, 3) := by decide +kernel
theorem dX10_begins_48 : decode cX10_begins 48 = .ok (.if_icmp .ne 7, 3) := by decide +kernel
theorem dX10_begins_51 : decode cX10_begins 51 = .ok (.iconst 1, 1) := by decide +kernel
theorem dX10_begins_52 : decode cX10_begins 52 = .ok (.goto 4, 3) := by decide +kernel
theorem dX10_begins_55 : decode cX10_begins 55 = .ok (.iconst 0, 1) := by decide +kernel
theorem dX10_begins_56 : decode cX10_begins 56 = .ok (.istore 4, 2) := by decide +kernel
theorem dX10_begins_58 : decode cX10_begins 58 = .ok (.iinc 5 1, 3) := by decide +kernel
theorem dX10_begins_61 : decode cX10_begins 61 = .ok (.goto (-41), 3) := by decide +kernel
theorem dX10_begins_64 : decode cX10_begins 64 = .ok (.iload 4, 2) := by decide +kernel
theorem dX10_begins_66 : decode cX10_begins 66 = .ok (.ireturn, 1) := by decide +kernel
theorem dX10_isText_0 : decode cX10_isText 0 = .ok (.iload_n 2, 1) := by decide +kernel
theorem dX10_isText_1 : decode cX10_isText 1 = .ok (.iload_n 1, 1) := by decide +kernel
theorem dX10_isText_2 : decode cX10_isText 2 = .ok (.isub, 1) := by decide +kernel
theorem dX10_isText_3 : decode cX10_isText 3 = .ok (.iload_n 3, 1) := by decide +kernel
theorem dX10_isText_4 : decode cX10_isText 4 = .ok (.invokestatic 228, 3) := by decide +kernel
theorem dX10_isText_7 : decode cX10_isText 7 = .ok (.if_icmp .ne 17, 3) := by decide +kernel
theorem dX10_isText_10 : decode cX10_isText 10 = .ok (.aload_n 0, 1) := by decide +kernel
theorem dX10_isText_11 : decode cX10_isText 11 = .ok (.iload_n 1, 1) := by decide +kernel
theorem dX10_isText_12 : decode cX10_isText 12 = .ok (.iload_n 2, 1) := by decide +kernel
theorem dX10_isText_13 : decode cX10_isText 13 = .ok (.iload_n 3, 1) := by decide +kernel
theorem dX10_isText_14 : decode cX10_isText 14 = .ok (.invokevirtual 235, 3) := by decide +kernel
theorem dX10_isText_17 : decode cX10_isText 17 = .ok (.ifCond .eq 7, 3) := by decide +kernel
theorem dX10_isText_20 : decode cX10_isText 20 = .ok (.iconst 1, 1) := by decide +kernel
theorem dX10_isText_21 : decode cX10_isText 21 = .ok (.goto 4, 3) := by decide +kernel
theorem dX10_isText_24 : decode cX10_isText 24 = .ok (.iconst 0, 1) := by decide +kernel
theorem dX10_isText_25 : decode cX10_isText 25 = .ok (.ireturn, 1) := by decide +kernel
theorem dX10_columnEnd_0 : decode cX10_columnEnd 0 = .ok (.iload_n 1, 1) := by decide +kernel
theorem dX10_columnEnd_1 : decode cX10_columnEnd 1 = .ok (.istore_n 3, 1) := by decide +kernel
theorem dX10_columnEnd_2 : decode cX10_columnEnd 2 = .ok (.iload_n 3, 1) := by decide +kernel
theorem dX10_columnEnd_3 : decode cX10_columnEnd 3 = .ok (.iload_n 2, 1) := by decide +kernel
theorem dX10_columnEnd_4 : decode cX10_columnEnd 4 = .ok (.if_icmp .ge 19, 3) := by decide +kernel
theorem dX10_columnEnd_7 : decode cX10_columnEnd 7 = .ok (.aload_n 0, 1) := by decide +kernel
theorem dX10_columnEnd_8 : decode cX10_columnEnd 8 = .ok (.iload_n 3, 1) := by decide +kernel
theorem dX10_columnEnd_9 : decode cX10_columnEnd 9 = .ok (.invokevirtual 156, 3) := by decide +kernel
theorem dX10_columnEnd_12 : decode cX10_columnEnd 12 = .ok (.bipush 9, 2) := by decide +kernel
theorem dX10_columnEnd_14 : decode cX10_columnEnd 14 = .ok (.if_icmp .eq 9, 3) := by decide +kernel
theorem dX10_columnEnd_17 : decode cX10_columnEnd 17 = .ok (.iinc 3 1, 3) := by decide +kernel
theorem dX10_columnEnd_20 : decode cX10_columnEnd 20 = .ok (.goto (-18), 3) := by decide +kernel
theorem dX10_columnEnd_23 : decode cX10_columnEnd 23 = .ok (.iload_n 3, 1) := by decide +kernel
theorem dX10_columnEnd_24 : decode cX10_columnEnd 24 = .ok (.ireturn, 1) := by decide +kernel
theorem dX10_columns_0 : decode cX10_columns 0 = .ok (.iconst 1, 1) := by decide +kernel
theorem dX10_columns_1 : decode cX10_columns 1 = .ok (.istore_n 3, 1) := by decide +kernel
theorem dX10_columns_2 : decode cX10_columns 2 = .ok (.iload_n 1, 1) := by decide +kernel
theorem dX10_columns_3 : decode cX10_columns 3 = .ok (.istore 4, 2) := by decide +kernel
theorem dX10_columns_5 : decode cX10_columns 5 = .ok (.iload 4, 2) := by decide +kernel
theorem dX10_columns_7 : decode cX10_columns 7 = .ok (.iload_n 2, 1) := by decide +kernel
theorem dX10_columns_8 : decode cX10_columns 8 = .ok (.if_icmp .ge 28, 3) := by decide +kernel
theorem dX10_columns_11 : decode cX10_columns 11 = .ok (.aload_n 0, 1) := by decide +kernel
theorem dX10_columns_12 : decode cX10_columns 12 = .ok (.iload 4, 2) := by decide +kernel
theorem dX10_columns_14 : decode cX10_columns 14 = .ok (.invokevirtual 156, 3) := by decide +kernel
theorem dX10_columns_17 : decode cX10_columns 17 = .ok (.bipush 9, 2) := by decide +kernel
theorem dX10_columns_19 : decode cX10_columns 19 = .ok (.if_icmp .ne 9, 3) := by decide +kernel
theorem dX10_columns_22 : decode cX10_columns 22 = .ok (.iload_n 3, 1) := by decide +kernel
theorem dX10_columns_23 : decode cX10_columns 23 = .ok (.iconst 1, 1) := by decide +kernel
theorem dX10_columns_24 : decode cX10_columns 24 = .ok (.iadd, 1) := by decide +kernel
theorem dX10_columns_25 : decode cX10_columns 25 = .ok (.goto 4, 3) := by decide +kernel
theorem dX10_columns_28 : decode cX10_columns 28 = .ok (.iload_n 3, 1) := by decide +kernel
theorem dX10_columns_29 : decode cX10_columns 29 = .ok (.istore_n 3, 1) := by decide +kernel
theorem dX10_columns_30 : decode cX10_columns 30 = .ok (.iinc 4 1, 3) := by decide +kernel
theorem dX10_columns_33 : decode cX10_columns 33 = .ok (.goto (-28), 3) := by decide +kernel
theorem dX10_columns_36 : decode cX10_columns 36 = .ok (.iload_n 3, 1) := by decide +kernel
theorem dX10_columns_37 : decode cX10_columns 37 = .ok (.ireturn, 1) := by decide +kernel
theorem dX10_isShown_0 : decode cX10_isShown 0 = .ok (.iload_n 2, 1) := by decide +kernel
theorem dX10_isShown_1 : decode cX10_isShown 1 = .ok (.iload_n 1, 1) := by decide +kernel
theorem dX10_isShown_2 : decode cX10_isShown 2 = .ok (.isub, 1) := by decide +kernel
theorem dX10_isShown_3 : decode cX10_isShown 3 = .ok (.iconst 1, 1) := by decide +kernel
theorem dX10_isShown_4 : decode cX10_isShown 4 = .ok (.bipush 20, 2) := by decide +kernel
theorem dX10_isShown_6 : decode cX10_isShown 6 = .ok (.invokestatic 136, 3) := by decide +kernel
theorem dX10_isShown_9 : decode cX10_isShown 9 = .ok (.istore_n 3, 1) := by decide +kernel
theorem dX10_isShown_10 : decode cX10_isShown 10 = .ok (.iload_n 1, 1) := by decide +kernel
theorem dX10_isShown_11 : decode cX10_isShown 11 = .ok (.istore 4, 2) := by decide +kernel
theorem dX10_isShown_13 : decode cX10_isShown 13 = .ok (.iload 4, 2) := by decide +kernel
theorem dX10_isShown_15 : decode cX10_isShown 15 = .ok (.iload_n 2, 1) := by decide +kernel
theorem dX10_isShown_16 : decode cX10_isShown 16 = .ok (.if_icmp .ge 27, 3) := by decide +kernel
theorem dX10_isShown_19 : decode cX10_isShown 19 = .ok (.iload_n 3, 1) := by decide +kernel
theorem dX10_isShown_20 : decode cX10_isShown 20 = .ok (.ifCond .eq 23, 3) := by decide +kernel
theorem dX10_isShown_23 : decode cX10_isShown 23 = .ok (.aload_n 0, 1) := by decide +kernel
theorem dX10_isShown_24 : decode cX10_isShown 24 = .ok (.iload 4, 2) := by decide +kernel
theorem dX10_isShown_26 : decode cX10_isShown 26 = .ok (.invokevirtual 156, 3) := by decide +kernel
theorem dX10_isShown_29 : decode cX10_isShown 29 = .ok (.bipush 33, 2) := by decide +kernel
theorem dX10_isShown_31 : decode cX10_isShown 31 = .ok (.bipush 126, 2) := by decide +kernel
theorem dX10_isShown_33 : decode cX10_isShown 33 = .ok (.invokestatic 136, 3) := by decide +kernel
theorem dX10_isShown_36 : decode cX10_isShown 36 = .ok (.istore_n 3, 1) := by decide +kernel
theorem dX10_isShown_37 : decode cX10_isShown 37 = .ok (.iinc 4 1, 3) := by decide +kernel
theorem dX10_isShown_40 : decode cX10_isShown 40 = .ok (.goto (-27), 3) := by decide +kernel
theorem dX10_isShown_43 : decode cX10_isShown 43 = .ok (.iload_n 3, 1) := by decide +kernel
theorem dX10_isShown_44 : decode cX10_isShown 44 = .ok (.ireturn, 1) := by decide +kernel
theorem dX10_readHead_0 : decode cX10_readHead 0 = .ok (.aload_n 0, 1) := by decide +kernel
theorem dX10_readHead_1 : decode cX10_readHead 1 = .ok (.getfield 63, 3) := by decide +kernel
theorem dX10_readHead_4 : decode cX10_readHead 4 = .ok (.iconst 2, 1) := by decide +kernel
theorem dX10_readHead_5 : decode cX10_readHead 5 = .ok (.iconst 0, 1) := by decide +kernel
theorem dX10_readHead_6 : decode cX10_readHead 6 = .ok (.iastore, 1) := by decide +kernel
theorem dX10_readHead_7 : decode cX10_readHead 7 = .ok (.aload_n 0, 1) := by decide +kernel
theorem dX10_readHead_8 : decode cX10_readHead 8 = .ok (.iload_n 1, 1) := by decide +kernel
theorem dX10_readHead_9 : decode cX10_readHead 9 = .ok (.iload_n 2, 1) := by decide +kernel
theorem dX10_readHead_10 : decode cX10_readHead 10 = .ok (.iconst 1, 1) := by decide +kernel
theorem dX10_readHead_11 : decode cX10_readHead 11 = .ok (.invokevirtual 235, 3) := by decide +kernel
theorem dX10_readHead_14 : decode cX10_readHead 14 = .ok (.ifCond .ne 5, 3) := by decide +kernel
theorem dX10_readHead_17 : decode cX10_readHead 17 = .ok (.iconst 0, 1) := by decide +kernel
theorem dX10_readHead_18 : decode cX10_readHead 18 = .ok (.ireturn, 1) := by decide +kernel
theorem dX10_readHead_19 : decode cX10_readHead 19 = .ok (.iload_n 1, 1) := by decide +kernel
theorem dX10_readHead_20 : decode cX10_readHead 20 = .ok (.iconst 1, 1) := by decide +kernel
theorem dX10_readHead_21 : decode cX10_readHead 21 = .ok (.invokestatic 228, 3) := by decide +kernel
theorem dX10_readHead_24 : decode cX10_readHead 24 = .ok (.iadd, 1) := by decide +kernel
theorem dX10_readHead_25 : decode cX10_readHead 25 = .ok (.istore_n 3, 1) := by decide +kernel
theorem dX10_readHead_26 : decode cX10_readHead 26 = .ok (.iload_n 3, 1) := by decide +kernel
theorem dX10_readHead_27 : decode cX10_readHead 27 = .ok (.iload_n 2, 1) := by decide +kernel
theorem dX10_readHead_28 : decode cX10_readHead 28 = .ok (.if_icmp .ne 5, 3) := by decide +kernel
theorem dX10_readHead_31 : decode cX10_readHead 31 = .ok (.iconst 1, 1) := by decide +kernel
theorem dX10_readHead_32 : decode cX10_readHead 32 = .ok (.ireturn, 1) := by decide +kernel
theorem dX10_readHead_33 : decode cX10_readHead 33 = .ok (.aload_n 0, 1) := by decide +kernel
theorem dX10_readHead_34 : decode cX10_readHead 34 = .ok (.iload_n 3, 1) := by decide +kernel
theorem dX10_readHead_35 : decode cX10_readHead 35 = .ok (.invokevirtual 156, 3) := by decide +kernel
theorem dX10_readHead_38 : decode cX10_readHead 38 = .ok (.bipush 9, 2) := by decide +kernel
theorem dX10_readHead_40 : decode cX10_readHead 40 = .ok (.if_icmp .eq 5, 3) := by decide +kernel
theorem dX10_readHead_43 : decode cX10_readHead 43 = .ok (.iconst 0, 1) := by decide +kernel
theorem dX10_readHead_44 : decode cX10_readHead 44 = .ok (.ireturn, 1) := by decide +kernel
theorem dX10_readHead_45 : decode cX10_readHead 45 = .ok (.iinc 3 1, 3) := by decide +kernel
theorem dX10_readHead_48 : decode cX10_readHead 48 = .ok (.aload_n 0, 1) := by decide +kernel
theorem dX10_readHead_49 : decode cX10_readHead 49 = .ok (.iload_n 3, 1) := by decide +kernel
theorem dX10_readHead_50 : decode cX10_readHead 50 = .ok (.iload_n 2, 1) := by decide +kernel
theorem dX10_readHead_51 : decode cX10_readHead 51 = .ok (.invokevirtual 238, 3) := by decide +kernel
theorem dX10_readHead_54 : decode cX10_readHead 54 = .ok (.istore 4, 2) := by decide +kernel
theorem dX10_readHead_56 : decode cX10_readHead 56 = .ok (.aload_n 0, 1) := by decide +kernel
theorem dX10_readHead_57 : decode cX10_readHead 57 = .ok (.iload_n 3, 1) := by decide +kernel
theorem dX10_readHead_58 : decode cX10_readHead 58 = .ok (.iload 4, 2) := by decide +kernel
theorem dX10_readHead_60 : decode cX10_readHead 60 = .ok (.iconst 2, 1) := by decide +kernel
theorem dX10_readHead_61 : decode cX10_readHead 61 = .ok (.invokevirtual 241, 3) := by decide +kernel
theorem dX10_readHead_64 : decode cX10_readHead 64 = .ok (.ifCond .eq 9, 3) := by decide +kernel
theorem dX10_readHead_67 : decode cX10_readHead 67 = .ok (.iload 4, 2) := by decide +kernel
theorem dX10_readHead_69 : decode cX10_readHead 69 = .ok (.iload_n 2, 1) := by decide +kernel
theorem dX10_readHead_70 : decode cX10_readHead 70 = .ok (.if_icmp .ne 5, 3) := by decide +kernel
theorem dX10_readHead_73 : decode cX10_readHead 73 = .ok (.iconst 0, 1) := by decide +kernel
theorem dX10_readHead_74 : decode cX10_readHead 74 = .ok (.ireturn, 1) := by decide +kernel
theorem dX10_readHead_75 : decode cX10_readHead 75 = .ok (.iload 4, 2) := by decide +kernel
theorem dX10_readHead_77 : decode cX10_readHead 77 = .ok (.iconst 1, 1) := by decide +kernel
theorem dX10_readHead_78 : decode cX10_readHead 78 = .ok (.iadd, 1) := by decide +kernel
theorem dX10_readHead_79 : decode cX10_readHead 79 = .ok (.istore_n 3, 1) := by decide +kernel
theorem dX10_readHead_80 : decode cX10_readHead 80 = .ok (.iload_n 3, 1) := by decide +kernel
theorem dX10_readHead_81 : decode cX10_readHead 81 = .ok (.iload_n 2, 1) := by decide +kernel
theorem dX10_readHead_82 : decode cX10_readHead 82 = .ok (.if_icmp .gt 147, 3) := by decide +kernel
theorem dX10_readHead_85 : decode cX10_readHead 85 = .ok (.aload_n 0, 1) := by decide +kernel
theorem dX10_readHead_86 : decode cX10_readHead 86 = .ok (.iload_n 3, 1) := by decide +kernel
theorem dX10_readHead_87 : decode cX10_readHead 87 = .ok (.iload_n 2, 1) := by decide +kernel
theorem dX10_readHead_88 : decode cX10_readHead 88 = .ok (.invokevirtual 238, 3) := by decide +kernel
theorem dX10_readHead_91 : decode cX10_readHead 91 = .ok (.istore 4, 2) := by decide +kernel
theorem dX10_readHead_93 : decode cX10_readHead 93 = .ok (.aload_n 0, 1) := by decide +kernel
theorem dX10_readHead_94 : decode cX10_readHead 94 = .ok (.getfield 63, 3) := by decide +kernel
theorem dX10_readHead_97 : decode cX10_readHead 97 = .ok (.iconst 2, 1) := by decide +kernel
theorem dX10_readHead_98 : decode cX10_readHead 98 = .ok (.iaload, 1) := by decide +kernel
theorem dX10_readHead_99 : decode cX10_readHead 99 = .ok (.iconst 3, 1) := by decide +kernel
theorem dX10_readHead_100 : decode cX10_readHead 100 = .ok (.if_icmp .eq 13, 3) := by decide +kernel
theorem dX10_readHead_103 : decode cX10_readHead 103 = .ok (.aload_n 0, 1) := by decide +kernel
theorem dX10_readHead_104 : decode cX10_readHead 104 = .ok (.iload_n 3, 1) := by decide +kernel
theorem dX10_readHead_105 : decode cX10_readHead 105 = .ok (.iload 4, 2) := by decide +kernel
theorem dX10_readHead_107 : decode cX10_readHead 107 = .ok (.invokevirtual 244, 3) := by decide +kernel
theorem dX10_readHead_110 : decode cX10_readHead 110 = .ok (.ifCond .ne 5, 3) := by decide +kernel
theorem dX10_readHead_113 : decode cX10_readHead 113 = .ok (.iconst 0, 1) := by decide +kernel
theorem dX10_readHead_114 : decode cX10_readHead 114 = .ok (.ireturn, 1) := by decide +kernel
theorem dX10_readHead_115 : decode cX10_readHead 115 = .ok (.aload_n 0, 1) := by decide +kernel
theorem dX10_readHead_116 : decode cX10_readHead 116 = .ok (.getfield 63, 3) := by decide +kernel
theorem dX10_readHead_119 : decode cX10_readHead 119 = .ok (.iconst 2, 1) := by decide +kernel
theorem dX10_readHead_120 : decode cX10_readHead 120 = .ok (.iaload, 1) := by decide +kernel
theorem dX10_readHead_121 : decode cX10_readHead 121 = .ok (.istore 5, 2) := by decide +kernel
theorem dX10_readHead_123 : decode cX10_readHead 123 = .ok (.aload_n 0, 1) := by decide +kernel
theorem dX10_readHead_124 : decode cX10_readHead 124 = .ok (.getfield 69, 3) := by decide +kernel
theorem dX10_readHead_127 : decode cX10_readHead 127 = .ok (.bipush 6, 2) := by decide +kernel
theorem dX10_readHead_129 : decode cX10_readHead 129 = .ok (.iload 5, 2) := by decide +kernel
theorem dX10_readHead_131 : decode cX10_readHead 131 = .ok (.iadd, 1) := by decide +kernel
theorem dX10_readHead_132 : decode cX10_readHead 132 = .ok (.iload 4, 2) := by decide +kernel
theorem dX10_readHead_134 : decode cX10_readHead 134 = .ok (.iload_n 3, 1) := by decide +kernel
theorem dX10_readHead_135 : decode cX10_readHead 135 = .ok (.isub, 1) := by decide +kernel
theorem dX10_readHead_136 : decode cX10_readHead 136 = .ok (.iastore, 1) := by decide +kernel
theorem dX10_readHead_137 : decode cX10_readHead 137 = .ok (.iconst 0, 1) := by decide +kernel
theorem dX10_readHead_138 : decode cX10_readHead 138 = .ok (.istore 6, 2) := by decide +kernel
theorem dX10_readHead_140 : decode cX10_readHead 140 = .ok (.iload 6, 2) := by decide +kernel
theorem dX10_readHead_142 : decode cX10_readHead 142 = .ok (.iload 4, 2) := by decide +kernel
theorem dX10_readHead_144 : decode cX10_readHead 144 = .ok (.iload_n 3, 1) := by decide +kernel
theorem dX10_readHead_145 : decode cX10_readHead 145 = .ok (.isub, 1) := by decide +kernel
theorem dX10_readHead_146 : decode cX10_readHead 146 = .ok (.if_icmp .ge 34, 3) := by decide +kernel
theorem dX10_readHead_149 : decode cX10_readHead 149 = .ok (.aload_n 0, 1) := by decide +kernel
theorem dX10_readHead_150 : decode cX10_readHead 150 = .ok (.getfield 66, 3) := by decide +kernel
theorem dX10_readHead_153 : decode cX10_readHead 153 = .ok (.bipush 20, 2) := by decide +kernel
theorem dX10_readHead_155 : decode cX10_readHead 155 = .ok (.bipush 6, 2) := by decide +kernel
theorem dX10_readHead_157 : decode cX10_readHead 157 = .ok (.iload 5, 2) := by decide +kernel
theorem dX10_readHead_159 : decode cX10_readHead 159 = .ok (.iadd, 1) := by decide +kernel
theorem dX10_readHead_160 : decode cX10_readHead 160 = .ok (.imul, 1) := by decide +kernel
theorem dX10_readHead_161 : decode cX10_readHead 161 = .ok (.iload 6, 2) := by decide +kernel
theorem dX10_readHead_163 : decode cX10_readHead 163 = .ok (.iadd, 1) := by decide +kernel
theorem dX10_readHead_164 : decode cX10_readHead 164 = .ok (.aload_n 0, 1) := by decide +kernel
theorem dX10_readHead_165 : decode cX10_readHead 165 = .ok (.iload_n 3, 1) := by decide +kernel
theorem dX10_readHead_166 : decode cX10_readHead 166 = .ok (.iload 6, 2) := by decide +kernel
theorem dX10_readHead_168 : decode cX10_readHead 168 = .ok (.iadd, 1) := by decide +kernel
theorem dX10_readHead_169 : decode cX10_readHead 169 = .ok (.invokevirtual 156, 3) := by decide +kernel
theorem dX10_readHead_172 : decode cX10_readHead 172 = .ok (.i2b, 1) := by decide +kernel
theorem dX10_readHead_173 : decode cX10_readHead 173 = .ok (.bastore, 1) := by decide +kernel
theorem dX10_readHead_174 : decode cX10_readHead 174 = .ok (.iinc 6 1, 3) := by decide +kernel
theorem dX10_readHead_177 : decode cX10_readHead 177 = .ok (.goto (-37), 3) := by decide +kernel
theorem dX10_readHead_180 : decode cX10_readHead 180 = .ok (.iconst 0, 1) := by decide +kernel
theorem dX10_readHead_181 : decode cX10_readHead 181 = .ok (.istore 6, 2) := by decide +kernel
theorem dX10_readHead_183 : decode cX10_readHead 183 = .ok (.iload 6, 2) := by decide +kernel
theorem dX10_readHead_185 : decode cX10_readHead 185 = .ok (.iload 5, 2) := by decide +kernel
theorem dX10_readHead_187 : decode cX10_readHead 187 = .ok (.if_icmp .ge 24, 3) := by decide +kernel
theorem dX10_readHead_190 : decode cX10_readHead 190 = .ok (.aload_n 0, 1) := by decide +kernel
theorem dX10_readHead_191 : decode cX10_readHead 191 = .ok (.iconst 2, 1) := by decide +kernel
theorem dX10_readHead_192 : decode cX10_readHead 192 = .ok (.iload 6, 2) := by decide +kernel
theorem dX10_readHead_194 : decode cX10_readHead 194 = .ok (.iconst 2, 1) := by decide +kernel
theorem dX10_readHead_195 : decode cX10_readHead 195 = .ok (.iload 5, 2) := by decide +kernel
theorem dX10_readHead_197 : decode cX10_readHead 197 = .ok (.invokevirtual 248, 3) := by decide +kernel
theorem dX10_readHead_200 : decode cX10_readHead 200 = .ok (.ifCond .eq 5, 3) := by decide +kernel
theorem dX10_readHead_203 : decode cX10_readHead 203 = .ok (.iconst 0, 1) := by decide +kernel
theorem dX10_readHead_204 : decode cX10_readHead 204 = .ok (.ireturn, 1) := by decide +kernel
theorem dX10_readHead_205 : decode cX10_readHead 205 = .ok (.iinc 6 1, 3) := by decide +kernel
theorem dX10_readHead_208 : decode cX10_readHead 208 = .ok (.goto (-25), 3) := by decide +kernel
theorem dX10_readHead_211 : decode cX10_readHead 211 = .ok (.aload_n 0, 1) := by decide +kernel
theorem dX10_readHead_212 : decode cX10_readHead 212 = .ok (.getfield 63, 3) := by decide +kernel
theorem dX10_readHead_215 : decode cX10_readHead 215 = .ok (.iconst 2, 1) := by decide +kernel
theorem dX10_readHead_216 : decode cX10_readHead 216 = .ok (.dup2, 1) := by decide +kernel
theorem dX10_readHead_217 : decode cX10_readHead 217 = .ok (.iaload, 1) := by decide +kernel
theorem dX10_readHead_218 : decode cX10_readHead 218 = .ok (.iconst 1, 1) := by decide +kernel
theorem dX10_readHead_219 : decode cX10_readHead 219 = .ok (.iadd, 1) := by decide +kernel
theorem dX10_readHead_220 : decode cX10_readHead 220 = .ok (.iastore, 1) := by decide +kernel
theorem dX10_readHead_221 : decode cX10_readHead 221 = .ok (.iload 4, 2) := by decide +kernel
theorem dX10_readHead_223 : decode cX10_readHead 223 = .ok (.iconst 1, 1) := by decide +kernel
theorem dX10_readHead_224 : decode cX10_readHead 224 = .ok (.iadd, 1) := by decide +kernel
theorem dX10_readHead_225 : decode cX10_readHead 225 = .ok (.istore_n 3, 1) := by decide +kernel
theorem dX10_readHead_226 : decode cX10_readHead 226 = .ok (.goto (-146), 3) := by decide +kernel
theorem dX10_readHead_229 : decode cX10_readHead 229 = .ok (.iconst 1, 1) := by decide +kernel
theorem dX10_readHead_230 : decode cX10_readHead 230 = .ok (.ireturn, 1) := by decide +kernel
theorem dX10_sameName_0 : decode cX10_sameName 0 = .ok (.aload_n 0, 1) := by decide +kernel
theorem dX10_sameName_1 : decode cX10_sameName 1 = .ok (.getfield 69, 3) := by decide +kernel
theorem dX10_sameName_4 : decode cX10_sameName 4 = .ok (.iconst 3, 1) := by decide +kernel
theorem dX10_sameName_5 : decode cX10_sameName 5 = .ok (.iload_n 1, 1) := by decide +kernel
theorem dX10_sameName_6 : decode cX10_sameName 6 = .ok (.imul, 1) := by decide +kernel
theorem dX10_sameName_7 : decode cX10_sameName 7 = .ok (.iload_n 2, 1) := by decide +kernel
theorem dX10_sameName_8 : decode cX10_sameName 8 = .ok (.iadd, 1) := by decide +kernel
theorem dX10_sameName_9 : decode cX10_sameName 9 = .ok (.iaload, 1) := by decide +kernel
theorem dX10_sameName_10 : decode cX10_sameName 10 = .ok (.aload_n 0, 1) := by decide +kernel
theorem dX10_sameName_11 : decode cX10_sameName 11 = .ok (.getfield 69, 3) := by decide +kernel
theorem dX10_sameName_14 : decode cX10_sameName 14 = .ok (.iconst 3, 1) := by decide +kernel
theorem dX10_sameName_15 : decode cX10_sameName 15 = .ok (.iload_n 3, 1) := by decide +kernel
theorem dX10_sameName_16 : decode cX10_sameName 16 = .ok (.imul, 1) := by decide +kernel
theorem dX10_sameName_17 : decode cX10_sameName 17 = .ok (.iload 4, 2) := by decide +kernel
theorem dX10_sameName_19 : decode cX10_sameName 19 = .ok (.iadd, 1) := by decide +kernel
theorem dX10_sameName_20 : decode cX10_sameName 20 = .ok (.iaload, 1) := by decide +kernel
theorem dX10_sameName_21 : decode cX10_sameName 21 = .ok (.if_icmp .ne 7, 3) := by decide +kernel
theorem dX10_sameName_24 : decode cX10_sameName 24 = .ok (.iconst 1, 1) := by decide +kernel
theorem dX10_sameName_25 : decode cX10_sameName 25 = .ok (.goto 4, 3) := by decide +kernel
theorem dX10_sameName_28 : decode cX10_sameName 28 = .ok (.iconst 0, 1) := by decide +kernel
theorem dX10_sameName_29 : decode cX10_sameName 29 = .ok (.istore 5, 2) := by decide +kernel
theorem dX10_sameName_31 : decode cX10_sameName 31 = .ok (.iconst 0, 1) := by decide +kernel
theorem dX10_sameName_32 : decode cX10_sameName 32 = .ok (.istore 6, 2) := by decide +kernel
theorem dX10_sameName_34 : decode cX10_sameName 34 = .ok (.iload 6, 2) := by decide +kernel
theorem dX10_sameName_36 : decode cX10_sameName 36 = .ok (.aload_n 0, 1) := by decide +kernel
theorem dX10_sameName_37 : decode cX10_sameName 37 = .ok (.getfield 69, 3) := by decide +kernel
theorem dX10_sameName_40 : decode cX10_sameName 40 = .ok (.iconst 3, 1) := by decide +kernel
theorem dX10_sameName_41 : decode cX10_sameName 41 = .ok (.iload_n 1, 1) := by decide +kernel
theorem dX10_sameName_42 : decode cX10_sameName 42 = .ok (.imul, 1) := by decide +kernel
theorem dX10_sameName_43 : decode cX10_sameName 43 = .ok (.iload_n 2, 1) := by decide +kernel
theorem dX10_sameName_44 : decode cX10_sameName 44 = .ok (.iadd, 1) := by decide +kernel
theorem dX10_sameName_45 : decode cX10_sameName 45 = .ok (.iaload, 1) := by decide +kernel
theorem dX10_sameName_46 : decode cX10_sameName 46 = .ok (.if_icmp .ge 57, 3) := by decide +kernel
theorem dX10_sameName_49 : decode cX10_sameName 49 = .ok (.iload 5, 2) := by decide +kernel
theorem dX10_sameName_51 : decode cX10_sameName 51 = .ok (.ifCond .eq 52, 3) := by decide +kernel
theorem dX10_sameName_54 : decode cX10_sameName 54 = .ok (.aload_n 0, 1) := by decide +kernel
theorem dX10_sameName_55 : decode cX10_sameName 55 = .ok (.getfield 66, 3) := by decide +kernel
theorem dX10_sameName_58 : decode cX10_sameName 58 = .ok (.bipush 20, 2) := by decide +kernel
theorem dX10_sameName_60 : decode cX10_sameName 60 = .ok (.iconst 3, 1) := by decide +kernel
theorem dX10_sameName_61 : decode cX10_sameName 61 = .ok (.iload_n 1, 1) := by decide +kernel
theorem dX10_sameName_62 : decode cX10_sameName 62 = .ok (.imul, 1) := by decide +kernel
theorem dX10_sameName_63 : decode cX10_sameName 63 = .ok (.iload_n 2, 1) := by decide +kernel
theorem dX10_sameName_64 : decode cX10_sameName 64 = .ok (.iadd, 1) := by decide +kernel
theorem dX10_sameName_65 : decode cX10_sameName 65 = .ok (.imul, 1) := by decide +kernel
theorem dX10_sameName_66 : decode cX10_sameName 66 = .ok (.iload 6, 2) := by decide +kernel
theorem dX10_sameName_68 : decode cX10_sameName 68 = .ok (.iadd, 1) := by decide +kernel
theorem dX10_sameName_69 : decode cX10_sameName 69 = .ok (.baload, 1) := by decide +kernel
theorem dX10_sameName_70 : decode cX10_sameName 70 = .ok (.aload_n 0, 1) := by decide +kernel
theorem dX10_sameName_71 : decode cX10_sameName 71 = .ok (.getfield 66, 3) := by decide +kernel
theorem dX10_sameName_74 : decode cX10_sameName 74 = .ok (.bipush 20, 2) := by decide +kernel
theorem dX10_sameName_76 : decode cX10_sameName 76 = .ok (.iconst 3, 1) := by decide +kernel
theorem dX10_sameName_77 : decode cX10_sameName 77 = .ok (.iload_n 3, 1) := by decide +kernel
theorem dX10_sameName_78 : decode cX10_sameName 78 = .ok (.imul, 1) := by decide +kernel
theorem dX10_sameName_79 : decode cX10_sameName 79 = .ok (.iload 4, 2) := by decide +kernel
theorem dX10_sameName_81 : decode cX10_sameName 81 = .ok (.iadd, 1) := by decide +kernel
theorem dX10_sameName_82 : decode cX10_sameName 82 = .ok (.imul, 1) := by decide +kernel
theorem dX10_sameName_83 : decode cX10_sameName 83 = .ok (.iload 6, 2) := by decide +kernel
theorem dX10_sameName_85 : decode cX10_sameName 85 = .ok (.iadd, 1) := by decide +kernel
theorem dX10_sameName_86 : decode cX10_sameName 86 = .ok (.baload, 1) := by decide +kernel
theorem dX10_sameName_87 : decode cX10_sameName 87 = .ok (.if_icmp .ne 7, 3) := by decide +kernel
theorem dX10_sameName_90 : decode cX10_sameName 90 = .ok (.iconst 1, 1) := by decide +kernel
theorem dX10_sameName_91 : decode cX10_sameName 91 = .ok (.goto 4, 3) := by decide +kernel
theorem dX10_sameName_94 : decode cX10_sameName 94 = .ok (.iconst 0, 1) := by decide +kernel
theorem dX10_sameName_95 : decode cX10_sameName 95 = .ok (.istore 5, 2) := by decide +kernel
theorem dX10_sameName_97 : decode cX10_sameName 97 = .ok (.iinc 6 1, 3) := by decide +kernel
theorem dX10_sameName_100 : decode cX10_sameName 100 = .ok (.goto (-66), 3) := by decide +kernel
theorem dX10_sameName_103 : decode cX10_sameName 103 = .ok (.iload 5, 2) := by decide +kernel
theorem dX10_sameName_105 : decode cX10_sameName 105 = .ok (.ireturn, 1) := by decide +kernel
theorem dX10_numberOf_0 : decode cX10_numberOf 0 = .ok (.iload_n 2, 1) := by decide +kernel
theorem dX10_numberOf_1 : decode cX10_numberOf 1 = .ok (.iload_n 1, 1) := by decide +kernel
theorem dX10_numberOf_2 : decode cX10_numberOf 2 = .ok (.if_icmp .eq 28, 3) := by decide +kernel
theorem dX10_numberOf_5 : decode cX10_numberOf 5 = .ok (.aload_n 0, 1) := by decide +kernel
theorem dX10_numberOf_6 : decode cX10_numberOf 6 = .ok (.iload_n 1, 1) := by decide +kernel
theorem dX10_numberOf_7 : decode cX10_numberOf 7 = .ok (.invokevirtual 156, 3) := by decide +kernel
theorem dX10_numberOf_10 : decode cX10_numberOf 10 = .ok (.bipush 48, 2) := by decide +kernel
theorem dX10_numberOf_12 : decode cX10_numberOf 12 = .ok (.if_icmp .ne 10, 3) := by decide +kernel
theorem dX10_numberOf_15 : decode cX10_numberOf 15 = .ok (.iload_n 2, 1) := by decide +kernel
theorem dX10_numberOf_16 : decode cX10_numberOf 16 = .ok (.iload_n 1, 1) := by decide +kernel
theorem dX10_numberOf_17 : decode cX10_numberOf 17 = .ok (.isub, 1) := by decide +kernel
theorem dX10_numberOf_18 : decode cX10_numberOf 18 = .ok (.iconst 1, 1) := by decide +kernel
theorem dX10_numberOf_19 : decode cX10_numberOf 19 = .ok (.if_icmp .gt 11, 3) := by decide +kernel
theorem dX10_numberOf_22 : decode cX10_numberOf 22 = .ok (.iload_n 2, 1) := by decide +kernel
theorem dX10_numberOf_23 : decode cX10_numberOf 23 = .ok (.iload_n 1, 1) := by decide +kernel
theorem dX10_numberOf_24 : decode cX10_numberOf 24 = .ok (.isub, 1) := by decide +kernel
theorem dX10_numberOf_25 : decode cX10_numberOf 25 = .ok (.bipush 9, 2) := by decide +kernel
theorem dX10_numberOf_27 : decode cX10_numberOf 27 = .ok (.if_icmp .le 5, 3) := by decide +kernel
theorem dX10_numberOf_30 : decode cX10_numberOf 30 = .ok (.iconst (-1), 1) := by decide +kernel
theorem dX10_numberOf_31 : decode cX10_numberOf 31 = .ok (.ireturn, 1) := by decide +kernel
theorem dX10_numberOf_32 : decode cX10_numberOf 32 = .ok (.iconst 0, 1) := by decide +kernel
theorem dX10_numberOf_33 : decode cX10_numberOf 33 = .ok (.istore 4, 2) := by decide +kernel
theorem dX10_numberOf_35 : decode cX10_numberOf 35 = .ok (.iload_n 1, 1) := by decide +kernel
theorem dX10_numberOf_36 : decode cX10_numberOf 36 = .ok (.istore 5, 2) := by decide +kernel
theorem dX10_numberOf_38 : decode cX10_numberOf 38 = .ok (.iload 5, 2) := by decide +kernel
theorem dX10_numberOf_40 : decode cX10_numberOf 40 = .ok (.iload_n 2, 1) := by decide +kernel
theorem dX10_numberOf_41 : decode cX10_numberOf 41 = .ok (.if_icmp .ge 44, 3) := by decide +kernel
theorem dX10_numberOf_44 : decode cX10_numberOf 44 = .ok (.aload_n 0, 1) := by decide +kernel
theorem dX10_numberOf_45 : decode cX10_numberOf 45 = .ok (.iload 5, 2) := by decide +kernel
theorem dX10_numberOf_47 : decode cX10_numberOf 47 = .ok (.invokevirtual 156, 3) := by decide +kernel
theorem dX10_numberOf_50 : decode cX10_numberOf 50 = .ok (.bipush 48, 2) := by decide +kernel
theorem dX10_numberOf_52 : decode cX10_numberOf 52 = .ok (.bipush 57, 2) := by decide +kernel
theorem dX10_numberOf_54 : decode cX10_numberOf 54 = .ok (.invokestatic 136, 3) := by decide +kernel
theorem dX10_numberOf_57 : decode cX10_numberOf 57 = .ok (.ifCond .ne 5, 3) := by decide +kernel
theorem dX10_numberOf_60 : decode cX10_numberOf 60 = .ok (.iconst (-1), 1) := by decide +kernel
theorem dX10_numberOf_61 : decode cX10_numberOf 61 = .ok (.ireturn, 1) := by decide +kernel
theorem dX10_numberOf_62 : decode cX10_numberOf 62 = .ok (.bipush 10, 2) := by decide +kernel
theorem dX10_numberOf_64 : decode cX10_numberOf 64 = .ok (.iload 4, 2) := by decide +kernel
theorem dX10_numberOf_66 : decode cX10_numberOf 66 = .ok (.imul, 1) := by decide +kernel
theorem dX10_numberOf_67 : decode cX10_numberOf 67 = .ok (.aload_n 0, 1) := by decide +kernel
theorem dX10_numberOf_68 : decode cX10_numberOf 68 = .ok (.iload 5, 2) := by decide +kernel
theorem dX10_numberOf_70 : decode cX10_numberOf 70 = .ok (.invokevirtual 156, 3) := by decide +kernel
theorem dX10_numberOf_73 : decode cX10_numberOf 73 = .ok (.iadd, 1) := by decide +kernel
theorem dX10_numberOf_74 : decode cX10_numberOf 74 = .ok (.bipush 48, 2) := by decide +kernel
theorem dX10_numberOf_76 : decode cX10_numberOf 76 = .ok (.isub, 1) := by decide +kernel
theorem dX10_numberOf_77 : decode cX10_numberOf 77 = .ok (.istore 4, 2) := by decide +kernel
theorem dX10_numberOf_79 : decode cX10_numberOf 79 = .ok (.iinc 5 1, 3) := by decide +kernel
theorem dX10_numberOf_82 : decode cX10_numberOf 82 = .ok (.goto (-44), 3) := by decide +kernel
theorem dX10_numberOf_85 : decode cX10_numberOf 85 = .ok (.iload 4, 2) := by decide +kernel
theorem dX10_numberOf_87 : decode cX10_numberOf 87 = .ok (.iload_n 3, 1) := by decide +kernel
theorem dX10_numberOf_88 : decode cX10_numberOf 88 = .ok (.if_icmp .gt 8, 3) := by decide +kernel
theorem dX10_numberOf_91 : decode cX10_numberOf 91 = .ok (.iload 4, 2) := by decide +kernel
theorem dX10_numberOf_93 : decode cX10_numberOf 93 = .ok (.goto 4, 3) := by decide +kernel
theorem dX10_numberOf_96 : decode cX10_numberOf 96 = .ok (.iconst (-1), 1) := by decide +kernel
theorem dX10_numberOf_97 : decode cX10_numberOf 97 = .ok (.ireturn, 1) := by decide +kernel
theorem dX10_sequenceNamed_0 : decode cX10_sequenceNamed 0 = .ok (.iconst 0, 1) := by decide +kernel
theorem dX10_sequenceNamed_1 : decode cX10_sequenceNamed 1 = .ok (.istore_n 3, 1) := by decide +kernel
theorem dX10_sequenceNamed_2 : decode cX10_sequenceNamed 2 = .ok (.iload_n 3, 1) := by decide +kernel
theorem dX10_sequenceNamed_3 : decode cX10_sequenceNamed 3 = .ok (.aload_n 0, 1) := by decide +kernel
theorem dX10_sequenceNamed_4 : decode cX10_sequenceNamed 4 = .ok (.getfield 183, 3) := by decide +kernel
theorem dX10_sequenceNamed_7 : decode cX10_sequenceNamed 7 = .ok (.if_icmp .ge 90, 3) := by decide +kernel
theorem dX10_sequenceNamed_10 : decode cX10_sequenceNamed 10 = .ok (.aload_n 0, 1) := by decide +kernel
theorem dX10_sequenceNamed_11 : decode cX10_sequenceNamed 11 = .ok (.getfield 20, 3) := by decide +kernel
theorem dX10_sequenceNamed_14 : decode cX10_sequenceNamed 14 = .ok (.iload_n 3, 1) := by decide +kernel
theorem dX10_sequenceNamed_15 : decode cX10_sequenceNamed 15 = .ok (.iaload, 1) := by decide +kernel
theorem dX10_sequenceNamed_16 : decode cX10_sequenceNamed 16 = .ok (.iload_n 2, 1) := by decide +kernel
theorem dX10_sequenceNamed_17 : decode cX10_sequenceNamed 17 = .ok (.iload_n 1, 1) := by decide +kernel
theorem dX10_sequenceNamed_18 : decode cX10_sequenceNamed 18 = .ok (.isub, 1) := by decide +kernel
theorem dX10_sequenceNamed_19 : decode cX10_sequenceNamed 19 = .ok (.if_icmp .ne 7, 3) := by decide +kernel
theorem dX10_sequenceNamed_22 : decode cX10_sequenceNamed 22 = .ok (.iconst 1, 1) := by decide +kernel
theorem dX10_sequenceNamed_23 : decode cX10_sequenceNamed 23 = .ok (.goto 4, 3) := by decide +kernel
theorem dX10_sequenceNamed_26 : decode cX10_sequenceNamed 26 = .ok (.iconst 0, 1) := by decide +kernel
theorem dX10_sequenceNamed_27 : decode cX10_sequenceNamed 27 = .ok (.istore 4, 2) := by decide +kernel
theorem dX10_sequenceNamed_29 : decode cX10_sequenceNamed 29 = .ok (.iconst 0, 1) := by decide +kernel
theorem dX10_sequenceNamed_30 : decode cX10_sequenceNamed 30 = .ok (.istore 5, 2) := by decide +kernel
theorem dX10_sequenceNamed_32 : decode cX10_sequenceNamed 32 = .ok (.iload 5, 2) := by decide +kernel
theorem dX10_sequenceNamed_34 : decode cX10_sequenceNamed 34 = .ok (.aload_n 0, 1) := by decide +kernel
theorem dX10_sequenceNamed_35 : decode cX10_sequenceNamed 35 = .ok (.getfield 20, 3) := by decide +kernel
theorem dX10_sequenceNamed_38 : decode cX10_sequenceNamed 38 = .ok (.iload_n 3, 1) := by decide +kernel
theorem dX10_sequenceNamed_39 : decode cX10_sequenceNamed 39 = .ok (.iaload, 1) := by decide +kernel
theorem dX10_sequenceNamed_40 : decode cX10_sequenceNamed 40 = .ok (.if_icmp .ge 44, 3) := by decide +kernel
theorem dX10_sequenceNamed_43 : decode cX10_sequenceNamed 43 = .ok (.iload 4, 2) := by decide +kernel
theorem dX10_sequenceNamed_45 : decode cX10_sequenceNamed 45 = .ok (.ifCond .eq 39, 3) := by decide +kernel
theorem dX10_sequenceNamed_48 : decode cX10_sequenceNamed 48 = .ok (.aload_n 0, 1) := by decide +kernel
theorem dX10_sequenceNamed_49 : decode cX10_sequenceNamed 49 = .ok (.getfield 17, 3) := by decide +kernel
theorem dX10_sequenceNamed_52 : decode cX10_sequenceNamed 52 = .ok (.bipush 20, 2) := by decide +kernel
theorem dX10_sequenceNamed_54 : decode cX10_sequenceNamed 54 = .ok (.iload_n 3, 1) := by decide +kernel
theorem dX10_sequenceNamed_55 : decode cX10_sequenceNamed 55 = .ok (.imul, 1) := by decide +kernel
theorem dX10_sequenceNamed_56 : decode cX10_sequenceNamed 56 = .ok (.iload 5, 2) := by decide +kernel
theorem dX10_sequenceNamed_58 : decode cX10_sequenceNamed 58 = .ok (.iadd, 1) := by decide +kernel
theorem dX10_sequenceNamed_59 : decode cX10_sequenceNamed 59 = .ok (.baload, 1) := by decide +kernel
theorem dX10_sequenceNamed_60 : decode cX10_sequenceNamed 60 = .ok (.aload_n 0, 1) := by decide +kernel
theorem dX10_sequenceNamed_61 : decode cX10_sequenceNamed 61 = .ok (.iload_n 1, 1) := by decide +kernel
theorem dX10_sequenceNamed_62 : decode cX10_sequenceNamed 62 = .ok (.iload 5, 2) := by decide +kernel
theorem dX10_sequenceNamed_64 : decode cX10_sequenceNamed 64 = .ok (.iadd, 1) := by decide +kernel
theorem dX10_sequenceNamed_65 : decode cX10_sequenceNamed 65 = .ok (.invokevirtual 156, 3) := by decide +kernel
theorem dX10_sequenceNamed_68 : decode cX10_sequenceNamed 68 = .ok (.if_icmp .ne 7, 3) := by decide +kernel
theorem dX10_sequenceNamed_71 : decode cX10_sequenceNamed 71 = .ok (.iconst 1, 1) := by decide +kernel
theorem dX10_sequenceNamed_72 : decode cX10_sequenceNamed 72 = .ok (.goto 4, 3) := by decide +kernel
theorem dX10_sequenceNamed_75 : decode cX10_sequenceNamed 75 = .ok (.iconst 0, 1) := by decide +kernel
theorem dX10_sequenceNamed_76 : decode cX10_sequenceNamed 76 = .ok (.istore 4, 2) := by decide +kernel
theorem dX10_sequenceNamed_78 : decode cX10_sequenceNamed 78 = .ok (.iinc 5 1, 3) := by decide +kernel
theorem dX10_sequenceNamed_81 : decode cX10_sequenceNamed 81 = .ok (.goto (-49), 3) := by decide +kernel
theorem dX10_sequenceNamed_84 : decode cX10_sequenceNamed 84 = .ok (.iload 4, 2) := by decide +kernel
theorem dX10_sequenceNamed_86 : decode cX10_sequenceNamed 86 = .ok (.ifCond .eq 5, 3) := by decide +kernel
theorem dX10_sequenceNamed_89 : decode cX10_sequenceNamed 89 = .ok (.iload_n 3, 1) := by decide +kernel
theorem dX10_sequenceNamed_90 : decode cX10_sequenceNamed 90 = .ok (.ireturn, 1) := by decide +kernel
theorem dX10_sequenceNamed_91 : decode cX10_sequenceNamed 91 = .ok (.iinc 3 1, 3) := by decide +kernel
theorem dX10_sequenceNamed_94 : decode cX10_sequenceNamed 94 = .ok (.goto (-92), 3) := by decide +kernel
theorem dX10_sequenceNamed_97 : decode cX10_sequenceNamed 97 = .ok (.iconst (-1), 1) := by decide +kernel
theorem dX10_sequenceNamed_98 : decode cX10_sequenceNamed 98 = .ok (.ireturn, 1) := by decide +kernel
theorem dX10_readRow_0 : decode cX10_readRow 0 = .ok (.iload 4, 2) := by decide +kernel
theorem dX10_readRow_2 : decode cX10_readRow 2 = .ok (.iload_n 3, 1) := by decide +kernel
theorem dX10_readRow_3 : decode cX10_readRow 3 = .ok (.isub, 1) := by decide +kernel
theorem dX10_readRow_4 : decode cX10_readRow 4 = .ok (.iconst 1, 1) := by decide +kernel
theorem dX10_readRow_5 : decode cX10_readRow 5 = .ok (.bipush 24, 2) := by decide +kernel
theorem dX10_readRow_7 : decode cX10_readRow 7 = .ok (.invokestatic 136, 3) := by decide +kernel
theorem dX10_readRow_10 : decode cX10_readRow 10 = .ok (.istore 5, 2) := by decide +kernel
theorem dX10_readRow_12 : decode cX10_readRow 12 = .ok (.iload_n 3, 1) := by decide +kernel
theorem dX10_readRow_13 : decode cX10_readRow 13 = .ok (.istore 6, 2) := by decide +kernel
theorem dX10_readRow_15 : decode cX10_readRow 15 = .ok (.iload 6, 2) := by decide +kernel
theorem dX10_readRow_17 : decode cX10_readRow 17 = .ok (.iload 4, 2) := by decide +kernel
theorem dX10_readRow_19 : decode cX10_readRow 19 = .ok (.if_icmp .ge 62, 3) := by decide +kernel
theorem dX10_readRow_22 : decode cX10_readRow 22 = .ok (.iload 5, 2) := by decide +kernel
theorem dX10_readRow_24 : decode cX10_readRow 24 = .ok (.ifCond .eq 57, 3) := by decide +kernel
theorem dX10_readRow_27 : decode cX10_readRow 27 = .ok (.aload_n 0, 1) := by decide +kernel
theorem dX10_readRow_28 : decode cX10_readRow 28 = .ok (.iload 6, 2) := by decide +kernel
theorem dX10_readRow_30 : decode cX10_readRow 30 = .ok (.invokevirtual 156, 3) := by decide +kernel
theorem dX10_readRow_33 : decode cX10_readRow 33 = .ok (.invokestatic 174, 3) := by decide +kernel
theorem dX10_readRow_36 : decode cX10_readRow 36 = .ok (.iconst (-1), 1) := by decide +kernel
theorem dX10_readRow_37 : decode cX10_readRow 37 = .ok (.if_icmp .eq 7, 3) := by decide +kernel
theorem dX10_readRow_40 : decode cX10_readRow 40 = .ok (.iconst 1, 1) := by decide +kernel
theorem dX10_readRow_41 : decode cX10_readRow 41 = .ok (.goto 4, 3) := by decide +kernel
theorem dX10_readRow_44 : decode cX10_readRow 44 = .ok (.iconst 0, 1) := by decide +kernel
theorem dX10_readRow_45 : decode cX10_readRow 45 = .ok (.istore 5, 2) := by decide +kernel
theorem dX10_readRow_47 : decode cX10_readRow 47 = .ok (.aload_n 0, 1) := by decide +kernel
theorem dX10_readRow_48 : decode cX10_readRow 48 = .ok (.getfield 87, 3) := by decide +kernel
theorem dX10_readRow_51 : decode cX10_readRow 51 = .ok (.bipush 26, 2) := by decide +kernel
theorem dX10_readRow_53 : decode cX10_readRow 53 = .ok (.iconst 4, 1) := by decide +kernel
theorem dX10_readRow_54 : decode cX10_readRow 54 = .ok (.iload_n 1, 1) := by decide +kernel
theorem dX10_readRow_55 : decode cX10_readRow 55 = .ok (.imul, 1) := by decide +kernel
theorem dX10_readRow_56 : decode cX10_readRow 56 = .ok (.iload_n 2, 1) := by decide +kernel
theorem dX10_readRow_57 : decode cX10_readRow 57 = .ok (.iadd, 1) := by decide +kernel
theorem dX10_readRow_58 : decode cX10_readRow 58 = .ok (.imul, 1) := by decide +kernel
theorem dX10_readRow_59 : decode cX10_readRow 59 = .ok (.iload 6, 2) := by decide +kernel
theorem dX10_readRow_61 : decode cX10_readRow 61 = .ok (.iadd, 1) := by decide +kernel
theorem dX10_readRow_62 : decode cX10_readRow 62 = .ok (.iload_n 3, 1) := by decide +kernel
theorem dX10_readRow_63 : decode cX10_readRow 63 = .ok (.isub, 1) := by decide +kernel
theorem dX10_readRow_64 : decode cX10_readRow 64 = .ok (.aload_n 0, 1) := by decide +kernel
theorem dX10_readRow_65 : decode cX10_readRow 65 = .ok (.iload 6, 2) := by decide +kernel
theorem dX10_readRow_67 : decode cX10_readRow 67 = .ok (.invokevirtual 156, 3) := by decide +kernel
theorem dX10_readRow_70 : decode cX10_readRow 70 = .ok (.invokestatic 174, 3) := by decide +kernel
theorem dX10_readRow_73 : decode cX10_readRow 73 = .ok (.i2b, 1) := by decide +kernel
theorem dX10_readRow_74 : decode cX10_readRow 74 = .ok (.bastore, 1) := by decide +kernel
theorem dX10_readRow_75 : decode cX10_readRow 75 = .ok (.iinc 6 1, 3) := by decide +kernel
theorem dX10_readRow_78 : decode cX10_readRow 78 = .ok (.goto (-63), 3) := by decide +kernel
theorem dX10_readRow_81 : decode cX10_readRow 81 = .ok (.aload_n 0, 1) := by decide +kernel
theorem dX10_readRow_82 : decode cX10_readRow 82 = .ok (.getfield 90, 3) := by decide +kernel
theorem dX10_readRow_85 : decode cX10_readRow 85 = .ok (.iconst 4, 1) := by decide +kernel
theorem dX10_readRow_86 : decode cX10_readRow 86 = .ok (.iload_n 1, 1) := by decide +kernel
theorem dX10_readRow_87 : decode cX10_readRow 87 = .ok (.imul, 1) := by decide +kernel
theorem dX10_readRow_88 : decode cX10_readRow 88 = .ok (.iload_n 2, 1) := by decide +kernel
theorem dX10_readRow_89 : decode cX10_readRow 89 = .ok (.iadd, 1) := by decide +kernel
theorem dX10_readRow_90 : decode cX10_readRow 90 = .ok (.iload 5, 2) := by decide +kernel
theorem dX10_readRow_92 : decode cX10_readRow 92 = .ok (.ifCond .eq 10, 3) := by decide +kernel
theorem dX10_readRow_95 : decode cX10_readRow 95 = .ok (.iload 4, 2) := by decide +kernel
theorem dX10_readRow_97 : decode cX10_readRow 97 = .ok (.iload_n 3, 1) := by decide +kernel
theorem dX10_readRow_98 : decode cX10_readRow 98 = .ok (.isub, 1) := by decide +kernel
theorem dX10_readRow_99 : decode cX10_readRow 99 = .ok (.goto 4, 3) := by decide +kernel
theorem dX10_readRow_102 : decode cX10_readRow 102 = .ok (.iconst 0, 1) := by decide +kernel
theorem dX10_readRow_103 : decode cX10_readRow 103 = .ok (.iastore, 1) := by decide +kernel
theorem dX10_readRow_104 : decode cX10_readRow 104 = .ok (.iload 5, 2) := by decide +kernel
theorem dX10_readRow_106 : decode cX10_readRow 106 = .ok (.ireturn, 1) := by decide +kernel
theorem dX10_readRef_0 : decode cX10_readRef 0 = .ok (.aload_n 0, 1) := by decide +kernel
theorem dX10_readRef_1 : decode cX10_readRef 1 = .ok (.iload_n 1, 1) := by decide +kernel
theorem dX10_readRef_2 : decode cX10_readRef 2 = .ok (.iconst 0, 1) := by decide +kernel
theorem dX10_readRef_3 : decode cX10_readRef 3 = .ok (.iload_n 2, 1) := by decide +kernel
theorem dX10_readRef_4 : decode cX10_readRef 4 = .ok (.iload_n 3, 1) := by decide +kernel
theorem dX10_readRef_5 : decode cX10_readRef 5 = .ok (.invokevirtual 252, 3) := by decide +kernel
theorem dX10_readRef_8 : decode cX10_readRef 8 = .ok (.ifCond .ne 10, 3) := by decide +kernel
theorem dX10_readRef_11 : decode cX10_readRef 11 = .ok (.aload_n 0, 1) := by decide +kernel
theorem dX10_readRef_12 : decode cX10_readRef 12 = .ok (.iconst 4, 1) := by decide +kernel
theorem dX10_readRef_13 : decode cX10_readRef 13 = .ok (.iload_n 2, 1) := by decide +kernel
theorem dX10_readRef_14 : decode cX10_readRef 14 = .ok (.invokevirtual 160, 3) := by decide +kernel
theorem dX10_readRef_17 : decode cX10_readRef 17 = .ok (.return_, 1) := by decide +kernel
theorem dX10_readRef_18 : decode cX10_readRef 18 = .ok (.aload_n 0, 1) := by decide +kernel
theorem dX10_readRef_19 : decode cX10_readRef 19 = .ok (.getfield 90, 3) := by decide +kernel
theorem dX10_readRef_22 : decode cX10_readRef 22 = .ok (.iconst 4, 1) := by decide +kernel
theorem dX10_readRef_23 : decode cX10_readRef 23 = .ok (.iload_n 1, 1) := by decide +kernel
theorem dX10_readRef_24 : decode cX10_readRef 24 = .ok (.imul, 1) := by decide +kernel
theorem dX10_readRef_25 : decode cX10_readRef 25 = .ok (.iaload, 1) := by decide +kernel
theorem dX10_readRef_26 : decode cX10_readRef 26 = .ok (.istore 4, 2) := by decide +kernel
theorem dX10_readRef_28 : decode cX10_readRef 28 = .ok (.aload_n 0, 1) := by decide +kernel
theorem dX10_readRef_29 : decode cX10_readRef 29 = .ok (.getfield 75, 3) := by decide +kernel
theorem dX10_readRef_32 : decode cX10_readRef 32 = .ok (.iload_n 1, 1) := by decide +kernel
theorem dX10_readRef_33 : decode cX10_readRef 33 = .ok (.iaload, 1) := by decide +kernel
theorem dX10_readRef_34 : decode cX10_readRef 34 = .ok (.iload 4, 2) := by decide +kernel
theorem dX10_readRef_36 : decode cX10_readRef 36 = .ok (.iadd, 1) := by decide +kernel
theorem dX10_readRef_37 : decode cX10_readRef 37 = .ok (.iconst 1, 1) := by decide +kernel
theorem dX10_readRef_38 : decode cX10_readRef 38 = .ok (.isub, 1) := by decide +kernel
theorem dX10_readRef_39 : decode cX10_readRef 39 = .ok (.aload_n 0, 1) := by decide +kernel
theorem dX10_readRef_40 : decode cX10_readRef 40 = .ok (.getfield 30, 3) := by decide +kernel
theorem dX10_readRef_43 : decode cX10_readRef 43 = .ok (.aload_n 0, 1) := by decide +kernel
theorem dX10_readRef_44 : decode cX10_readRef 44 = .ok (.getfield 72, 3) := by decide +kernel
theorem dX10_readRef_47 : decode cX10_readRef 47 = .ok (.iload_n 1, 1) := by decide +kernel
theorem dX10_readRef_48 : decode cX10_readRef 48 = .ok (.iaload, 1) := by decide +kernel
theorem dX10_readRef_49 : decode cX10_readRef 49 = .ok (.iaload, 1) := by decide +kernel
theorem dX10_readRef_50 : decode cX10_readRef 50 = .ok (.if_icmp .le 10, 3) := by decide +kernel
theorem dX10_readRef_53 : decode cX10_readRef 53 = .ok (.aload_n 0, 1) := by decide +kernel
theorem dX10_readRef_54 : decode cX10_readRef 54 = .ok (.iconst 5, 1) := by decide +kernel
theorem dX10_readRef_55 : decode cX10_readRef 55 = .ok (.iload_n 2, 1) := by decide +kernel
theorem dX10_readRef_56 : decode cX10_readRef 56 = .ok (.invokevirtual 160, 3) := by decide +kernel
theorem dX10_readRef_59 : decode cX10_readRef 59 = .ok (.return_, 1) := by decide +kernel
theorem dX10_readRef_60 : decode cX10_readRef 60 = .ok (.iconst 0, 1) := by decide +kernel
theorem dX10_readRef_61 : decode cX10_readRef 61 = .ok (.istore 5, 2) := by decide +kernel
theorem dX10_readRef_63 : decode cX10_readRef 63 = .ok (.iload 5, 2) := by decide +kernel
theorem dX10_readRef_65 : decode cX10_readRef 65 = .ok (.iload 4, 2) := by decide +kernel
theorem dX10_readRef_67 : decode cX10_readRef 67 = .ok (.if_icmp .ge 49, 3) := by decide +kernel
theorem dX10_readRef_70 : decode cX10_readRef 70 = .ok (.aload_n 0, 1) := by decide +kernel
theorem dX10_readRef_71 : decode cX10_readRef 71 = .ok (.getfield 87, 3) := by decide +kernel
theorem dX10_readRef_74 : decode cX10_readRef 74 = .ok (.bipush 104, 2) := by decide +kernel
theorem dX10_readRef_76 : decode cX10_readRef 76 = .ok (.iload_n 1, 1) := by decide +kernel
theorem dX10_readRef_77 : decode cX10_readRef 77 = .ok (.imul, 1) := by decide +kernel
theorem dX10_readRef_78 : decode cX10_readRef 78 = .ok (.iload 5, 2) := by decide +kernel
theorem dX10_readRef_80 : decode cX10_readRef 80 = .ok (.iadd, 1) := by decide +kernel
theorem dX10_readRef_81 : decode cX10_readRef 81 = .ok (.baload, 1) := by decide +kernel
theorem dX10_readRef_82 : decode cX10_readRef 82 = .ok (.aload_n 0, 1) := by decide +kernel
theorem dX10_readRef_83 : decode cX10_readRef 83 = .ok (.aload_n 0, 1) := by decide +kernel
theorem dX10_readRef_84 : decode cX10_readRef 84 = .ok (.getfield 72, 3) := by decide +kernel
theorem dX10_readRef_87 : decode cX10_readRef 87 = .ok (.iload_n 1, 1) := by decide +kernel
theorem dX10_readRef_88 : decode cX10_readRef 88 = .ok (.iaload, 1) := by decide +kernel
theorem dX10_readRef_89 : decode cX10_readRef 89 = .ok (.aload_n 0, 1) := by decide +kernel
theorem dX10_readRef_90 : decode cX10_readRef 90 = .ok (.getfield 75, 3) := by decide +kernel
theorem dX10_readRef_93 : decode cX10_readRef 93 = .ok (.iload_n 1, 1) := by decide +kernel
theorem dX10_readRef_94 : decode cX10_readRef 94 = .ok (.iaload, 1) := by decide +kernel
theorem dX10_readRef_95 : decode cX10_readRef 95 = .ok (.iload 5, 2) := by decide +kernel
theorem dX10_readRef_97 : decode cX10_readRef 97 = .ok (.iadd, 1) := by decide +kernel
theorem dX10_readRef_98 : decode cX10_readRef 98 = .ok (.invokevirtual 255, 3) := by decide +kernel
theorem dX10_readRef_101 : decode cX10_readRef 101 = .ok (.if_icmp .eq 9, 3) := by decide +kernel
theorem dX10_readRef_104 : decode cX10_readRef 104 = .ok (.aload_n 0, 1) := by decide +kernel
theorem dX10_readRef_105 : decode cX10_readRef 105 = .ok (.iconst 5, 1) := by decide +kernel
theorem dX10_readRef_106 : decode cX10_readRef 106 = .ok (.iload_n 2, 1) := by decide +kernel
theorem dX10_readRef_107 : decode cX10_readRef 107 = .ok (.invokevirtual 160, 3) := by decide +kernel
theorem dX10_readRef_110 : decode cX10_readRef 110 = .ok (.iinc 5 1, 3) := by decide +kernel
theorem dX10_readRef_113 : decode cX10_readRef 113 = .ok (.goto (-50), 3) := by decide +kernel
theorem dX10_readRef_116 : decode cX10_readRef 116 = .ok (.return_, 1) := by decide +kernel
theorem dX10_readAlts_0 : decode cX10_readAlts 0 = .ok (.aload_n 0, 1) := by decide +kernel
theorem dX10_readAlts_1 : decode cX10_readAlts 1 = .ok (.getfield 84, 3) := by decide +kernel
theorem dX10_readAlts_4 : decode cX10_readAlts 4 = .ok (.iload_n 1, 1) := by decide +kernel
theorem dX10_readAlts_5 : decode cX10_readAlts 5 = .ok (.iconst 0, 1) := by decide +kernel
theorem dX10_readAlts_6 : decode cX10_readAlts 6 = .ok (.iastore, 1) := by decide +kernel
theorem dX10_readAlts_7 : decode cX10_readAlts 7 = .ok (.aload_n 0, 1) := by decide +kernel
theorem dX10_readAlts_8 : decode cX10_readAlts 8 = .ok (.iload_n 2, 1) := by decide +kernel
theorem dX10_readAlts_9 : decode cX10_readAlts 9 = .ok (.iload_n 3, 1) := by decide +kernel
theorem dX10_readAlts_10 : decode cX10_readAlts 10 = .ok (.iconst 5, 1) := by decide +kernel
theorem dX10_readAlts_11 : decode cX10_readAlts 11 = .ok (.invokevirtual 241, 3) := by decide +kernel
theorem dX10_readAlts_14 : decode cX10_readAlts 14 = .ok (.ifCond .eq 4, 3) := by decide +kernel
theorem dX10_readAlts_17 : decode cX10_readAlts 17 = .ok (.return_, 1) := by decide +kernel
theorem dX10_readAlts_18 : decode cX10_readAlts 18 = .ok (.iload_n 2, 1) := by decide +kernel
theorem dX10_readAlts_19 : decode cX10_readAlts 19 = .ok (.istore 4, 2) := by decide +kernel
theorem dX10_readAlts_21 : decode cX10_readAlts 21 = .ok (.iload 4, 2) := by decide +kernel
theorem dX10_readAlts_23 : decode cX10_readAlts 23 = .ok (.iload_n 3, 1) := by decide +kernel
theorem dX10_readAlts_24 : decode cX10_readAlts 24 = .ok (.if_icmp .gt 149, 3) := by decide +kernel
theorem dX10_readAlts_27 : decode cX10_readAlts 27 = .ok (.aload_n 0, 1) := by decide +kernel
theorem dX10_readAlts_28 : decode cX10_readAlts 28 = .ok (.getfield 147, 3) := by decide +kernel
theorem dX10_readAlts_31 : decode cX10_readAlts 31 = .ok (.ifCond .ne 142, 3) := by decide +kernel
theorem dX10_readAlts_34 : decode cX10_readAlts 34 = .ok (.iload 4, 2) := by decide +kernel
theorem dX10_readAlts_36 : decode cX10_readAlts 36 = .ok (.istore 5, 2) := by decide +kernel
theorem dX10_readAlts_38 : decode cX10_readAlts 38 = .ok (.iload 5, 2) := by decide +kernel
theorem dX10_readAlts_40 : decode cX10_readAlts 40 = .ok (.iload_n 3, 1) := by decide +kernel
theorem dX10_readAlts_41 : decode cX10_readAlts 41 = .ok (.if_icmp .ge 20, 3) := by decide +kernel
theorem dX10_readAlts_44 : decode cX10_readAlts 44 = .ok (.aload_n 0, 1) := by decide +kernel
theorem dX10_readAlts_45 : decode cX10_readAlts 45 = .ok (.iload 5, 2) := by decide +kernel
theorem dX10_readAlts_47 : decode cX10_readAlts 47 = .ok (.invokevirtual 156, 3) := by decide +kernel
theorem dX10_readAlts_50 : decode cX10_readAlts 50 = .ok (.bipush 44, 2) := by decide +kernel
theorem dX10_readAlts_52 : decode cX10_readAlts 52 = .ok (.if_icmp .eq 9, 3) := by decide +kernel
theorem dX10_readAlts_55 : decode cX10_readAlts 55 = .ok (.iinc 5 1, 3) := by decide +kernel
theorem dX10_readAlts_58 : decode cX10_readAlts 58 = .ok (.goto (-20), 3) := by decide +kernel
theorem dX10_readAlts_61 : decode cX10_readAlts 61 = .ok (.aload_n 0, 1) := by decide +kernel
theorem dX10_readAlts_62 : decode cX10_readAlts 62 = .ok (.getfield 84, 3) := by decide +kernel
theorem dX10_readAlts_65 : decode cX10_readAlts 65 = .ok (.iload_n 1, 1) := by decide +kernel
theorem dX10_readAlts_66 : decode cX10_readAlts 66 = .ok (.iaload, 1) := by decide +kernel
theorem dX10_readAlts_67 : decode cX10_readAlts 67 = .ok (.iconst 3, 1) := by decide +kernel
theorem dX10_readAlts_68 : decode cX10_readAlts 68 = .ok (.if_icmp .ne 10, 3) := by decide +kernel
theorem dX10_readAlts_71 : decode cX10_readAlts 71 = .ok (.aload_n 0, 1) := by decide +kernel
theorem dX10_readAlts_72 : decode cX10_readAlts 72 = .ok (.iconst 4, 1) := by decide +kernel
theorem dX10_readAlts_73 : decode cX10_readAlts 73 = .ok (.iload_n 2, 1) := by decide +kernel
theorem dX10_readAlts_74 : decode cX10_readAlts 74 = .ok (.invokevirtual 160, 3) := by decide +kernel
theorem dX10_readAlts_77 : decode cX10_readAlts 77 = .ok (.return_, 1) := by decide +kernel
theorem dX10_readAlts_78 : decode cX10_readAlts 78 = .ok (.aload_n 0, 1) := by decide +kernel
theorem dX10_readAlts_79 : decode cX10_readAlts 79 = .ok (.getfield 84, 3) := by decide +kernel
theorem dX10_readAlts_82 : decode cX10_readAlts 82 = .ok (.iload_n 1, 1) := by decide +kernel
theorem dX10_readAlts_83 : decode cX10_readAlts 83 = .ok (.iaload, 1) := by decide +kernel
theorem dX10_readAlts_84 : decode cX10_readAlts 84 = .ok (.iconst 1, 1) := by decide +kernel
theorem dX10_readAlts_85 : decode cX10_readAlts 85 = .ok (.iadd, 1) := by decide +kernel
theorem dX10_readAlts_86 : decode cX10_readAlts 86 = .ok (.istore 6, 2) := by decide +kernel
theorem dX10_readAlts_88 : decode cX10_readAlts 88 = .ok (.aload_n 0, 1) := by decide +kernel
theorem dX10_readAlts_89 : decode cX10_readAlts 89 = .ok (.iload_n 1, 1) := by decide +kernel
theorem dX10_readAlts_90 : decode cX10_readAlts 90 = .ok (.iload 6, 2) := by decide +kernel
theorem dX10_readAlts_92 : decode cX10_readAlts 92 = .ok (.iload 4, 2) := by decide +kernel
theorem dX10_readAlts_94 : decode cX10_readAlts 94 = .ok (.iload 5, 2) := by decide +kernel
theorem dX10_readAlts_96 : decode cX10_readAlts 96 = .ok (.invokevirtual 252, 3) := by decide +kernel
theorem dX10_readAlts_99 : decode cX10_readAlts 99 = .ok (.istore 7, 2) := by decide +kernel
theorem dX10_readAlts_101 : decode cX10_readAlts 101 = .ok (.iconst 0, 1) := by decide +kernel
theorem dX10_readAlts_102 : decode cX10_readAlts 102 = .ok (.istore 8, 2) := by decide +kernel
theorem dX10_readAlts_104 : decode cX10_readAlts 104 = .ok (.iload 8, 2) := by decide +kernel
theorem dX10_readAlts_106 : decode cX10_readAlts 106 = .ok (.iload 6, 2) := by decide +kernel
theorem dX10_readAlts_108 : decode cX10_readAlts 108 = .ok (.if_icmp .ge 34, 3) := by decide +kernel
theorem dX10_readAlts_111 : decode cX10_readAlts 111 = .ok (.iload 7, 2) := by decide +kernel
theorem dX10_readAlts_113 : decode cX10_readAlts 113 = .ok (.ifCond .eq 29, 3) := by decide +kernel
theorem dX10_readAlts_116 : decode cX10_readAlts 116 = .ok (.aload_n 0, 1) := by decide +kernel
theorem dX10_readAlts_117 : decode cX10_readAlts 117 = .ok (.iload_n 1, 1) := by decide +kernel
theorem dX10_readAlts_118 : decode cX10_readAlts 118 = .ok (.iload 8, 2) := by decide +kernel
theorem dX10_readAlts_120 : decode cX10_readAlts 120 = .ok (.iload_n 1, 1) := by decide +kernel
theorem dX10_readAlts_121 : decode cX10_readAlts 121 = .ok (.iload 6, 2) := by decide +kernel
theorem dX10_readAlts_123 : decode cX10_readAlts 123 = .ok (.invokevirtual 258, 3) := by decide +kernel
theorem dX10_readAlts_126 : decode cX10_readAlts 126 = .ok (.ifCond .ne 7, 3) := by decide +kernel
theorem dX10_readAlts_129 : decode cX10_readAlts 129 = .ok (.iconst 1, 1) := by decide +kernel
theorem dX10_readAlts_130 : decode cX10_readAlts 130 = .ok (.goto 4, 3) := by decide +kernel
theorem dX10_readAlts_133 : decode cX10_readAlts 133 = .ok (.iconst 0, 1) := by decide +kernel
theorem dX10_readAlts_134 : decode cX10_readAlts 134 = .ok (.istore 7, 2) := by decide +kernel
theorem dX10_readAlts_136 : decode cX10_readAlts 136 = .ok (.iinc 8 1, 3) := by decide +kernel
theorem dX10_readAlts_139 : decode cX10_readAlts 139 = .ok (.goto (-35), 3) := by decide +kernel
theorem dX10_readAlts_142 : decode cX10_readAlts 142 = .ok (.iload 7, 2) := by decide +kernel
theorem dX10_readAlts_144 : decode cX10_readAlts 144 = .ok (.ifCond .ne 10, 3) := by decide +kernel
theorem dX10_readAlts_147 : decode cX10_readAlts 147 = .ok (.aload_n 0, 1) := by decide +kernel
theorem dX10_readAlts_148 : decode cX10_readAlts 148 = .ok (.iconst 4, 1) := by decide +kernel
theorem dX10_readAlts_149 : decode cX10_readAlts 149 = .ok (.iload_n 2, 1) := by decide +kernel
theorem dX10_readAlts_150 : decode cX10_readAlts 150 = .ok (.invokevirtual 160, 3) := by decide +kernel
theorem dX10_readAlts_153 : decode cX10_readAlts 153 = .ok (.return_, 1) := by decide +kernel
theorem dX10_readAlts_154 : decode cX10_readAlts 154 = .ok (.aload_n 0, 1) := by decide +kernel
theorem dX10_readAlts_155 : decode cX10_readAlts 155 = .ok (.getfield 84, 3) := by decide +kernel
theorem dX10_readAlts_158 : decode cX10_readAlts 158 = .ok (.iload_n 1, 1) := by decide +kernel
theorem dX10_readAlts_159 : decode cX10_readAlts 159 = .ok (.dup2, 1) := by decide +kernel
theorem dX10_readAlts_160 : decode cX10_readAlts 160 = .ok (.iaload, 1) := by decide +kernel
theorem dX10_readAlts_161 : decode cX10_readAlts 161 = .ok (.iconst 1, 1) := by decide +kernel
theorem dX10_readAlts_162 : decode cX10_readAlts 162 = .ok (.iadd, 1) := by decide +kernel
theorem dX10_readAlts_163 : decode cX10_readAlts 163 = .ok (.iastore, 1) := by decide +kernel
theorem dX10_readAlts_164 : decode cX10_readAlts 164 = .ok (.iload 5, 2) := by decide +kernel
theorem dX10_readAlts_166 : decode cX10_readAlts 166 = .ok (.iconst 1, 1) := by decide +kernel
theorem dX10_readAlts_167 : decode cX10_readAlts 167 = .ok (.iadd, 1) := by decide +kernel
theorem dX10_readAlts_168 : decode cX10_readAlts 168 = .ok (.istore 4, 2) := by decide +kernel
theorem dX10_readAlts_170 : decode cX10_readAlts 170 = .ok (.goto (-149), 3) := by decide +kernel
theorem dX10_readAlts_173 : decode cX10_readAlts 173 = .ok (.return_, 1) := by decide +kernel
theorem dX10_callOf_0 : decode cX10_callOf 0 = .ok (.iload_n 2, 1) := by decide +kernel
theorem dX10_callOf_1 : decode cX10_callOf 1 = .ok (.bipush 46, 2) := by decide +kernel
theorem dX10_callOf_3 : decode cX10_callOf 3 = .ok (.if_icmp .ne 7, 3) := by decide +kernel
theorem dX10_callOf_6 : decode cX10_callOf 6 = .ok (.iconst (-1), 1) := by decide +kernel
theorem dX10_callOf_7 : decode cX10_callOf 7 = .ok (.goto 30, 3) := by decide +kernel
theorem dX10_callOf_10 : decode cX10_callOf 10 = .ok (.iload_n 2, 1) := by decide +kernel
theorem dX10_callOf_11 : decode cX10_callOf 11 = .ok (.bipush 48, 2) := by decide +kernel
theorem dX10_callOf_13 : decode cX10_callOf 13 = .ok (.bipush 48, 2) := by decide +kernel
theorem dX10_callOf_15 : decode cX10_callOf 15 = .ok (.aload_n 0, 1) := by decide +kernel
theorem dX10_callOf_16 : decode cX10_callOf 16 = .ok (.getfield 84, 3) := by decide +kernel
theorem dX10_callOf_19 : decode cX10_callOf 19 = .ok (.iload_n 1, 1) := by decide +kernel
theorem dX10_callOf_20 : decode cX10_callOf 20 = .ok (.iaload, 1) := by decide +kernel
theorem dX10_callOf_21 : decode cX10_callOf 21 = .ok (.iadd, 1) := by decide +kernel
theorem dX10_callOf_22 : decode cX10_callOf 22 = .ok (.invokestatic 136, 3) := by decide +kernel
theorem dX10_callOf_25 : decode cX10_callOf 25 = .ok (.ifCond .eq 10, 3) := by decide +kernel
theorem dX10_callOf_28 : decode cX10_callOf 28 = .ok (.iload_n 2, 1) := by decide +kernel
theorem dX10_callOf_29 : decode cX10_callOf 29 = .ok (.bipush 48, 2) := by decide +kernel
theorem dX10_callOf_31 : decode cX10_callOf 31 = .ok (.isub, 1) := by decide +kernel
theorem dX10_callOf_32 : decode cX10_callOf 32 = .ok (.goto 5, 3) := by decide +kernel
theorem dX10_callOf_35 : decode cX10_callOf 35 = .ok (.bipush (-2), 2) := by decide +kernel
theorem dX10_callOf_37 : decode cX10_callOf 37 = .ok (.ireturn, 1) := by decide +kernel
theorem dX10_readCalls_0 : decode cX10_readCalls 0 = .ok (.iload 4, 2) := by decide +kernel
theorem dX10_readCalls_2 : decode cX10_readCalls 2 = .ok (.iload_n 3, 1) := by decide +kernel
theorem dX10_readCalls_3 : decode cX10_readCalls 3 = .ok (.isub, 1) := by decide +kernel
theorem dX10_readCalls_4 : decode cX10_readCalls 4 = .ok (.istore 5, 2) := by decide +kernel
theorem dX10_readCalls_6 : decode cX10_readCalls 6 = .ok (.iload 5, 2) := by decide +kernel
theorem dX10_readCalls_8 : decode cX10_readCalls 8 = .ok (.iconst 3, 1) := by decide +kernel
theorem dX10_readCalls_9 : decode cX10_readCalls 9 = .ok (.if_icmp .ne 13, 3) := by decide +kernel
theorem dX10_readCalls_12 : decode cX10_readCalls 12 = .ok (.aload_n 0, 1) := by decide +kernel
theorem dX10_readCalls_13 : decode cX10_readCalls 13 = .ok (.iload_n 3, 1) := by decide +kernel
theorem dX10_readCalls_14 : decode cX10_readCalls 14 = .ok (.iconst 1, 1) := by decide +kernel
theorem dX10_readCalls_15 : decode cX10_readCalls 15 = .ok (.iadd, 1) := by decide +kernel
theorem dX10_readCalls_16 : decode cX10_readCalls 16 = .ok (.invokevirtual 156, 3) := by decide +kernel
theorem dX10_readCalls_19 : decode cX10_readCalls 19 = .ok (.goto 5, 3) := by decide +kernel
theorem dX10_readCalls_22 : decode cX10_readCalls 22 = .ok (.bipush 47, 2) := by decide +kernel
theorem dX10_readCalls_24 : decode cX10_readCalls 24 = .ok (.istore 6, 2) := by decide +kernel
theorem dX10_readCalls_26 : decode cX10_readCalls 26 = .ok (.iload 5, 2) := by decide +kernel
theorem dX10_readCalls_28 : decode cX10_readCalls 28 = .ok (.iconst 1, 1) := by decide +kernel
theorem dX10_readCalls_29 : decode cX10_readCalls 29 = .ok (.if_icmp .eq 9, 3) := by decide +kernel
theorem dX10_readCalls_32 : decode cX10_readCalls 32 = .ok (.iload 5, 2) := by decide +kernel
theorem dX10_readCalls_34 : decode cX10_readCalls 34 = .ok (.iconst 3, 1) := by decide +kernel
theorem dX10_readCalls_35 : decode cX10_readCalls 35 = .ok (.if_icmp .ne 21, 3) := by decide +kernel
theorem dX10_readCalls_38 : decode cX10_readCalls 38 = .ok (.iload 6, 2) := by decide +kernel
theorem dX10_readCalls_40 : decode cX10_readCalls 40 = .ok (.bipush 47, 2) := by decide +kernel
theorem dX10_readCalls_42 : decode cX10_readCalls 42 = .ok (.if_icmp .eq 10, 3) := by decide +kernel
theorem dX10_readCalls_45 : decode cX10_readCalls 45 = .ok (.iload 6, 2) := by decide +kernel
theorem dX10_readCalls_47 : decode cX10_readCalls 47 = .ok (.bipush 124, 2) := by decide +kernel
theorem dX10_readCalls_49 : decode cX10_readCalls 49 = .ok (.if_icmp .ne 7, 3) := by decide +kernel
theorem dX10_readCalls_52 : decode cX10_readCalls 52 = .ok (.iconst 1, 1) := by decide +kernel
theorem dX10_readCalls_53 : decode cX10_readCalls 53 = .ok (.goto 4, 3) := by decide +kernel
theorem dX10_readCalls_56 : decode cX10_readCalls 56 = .ok (.iconst 0, 1) := by decide +kernel
theorem dX10_readCalls_57 : decode cX10_readCalls 57 = .ok (.istore 7, 2) := by decide +kernel
theorem dX10_readCalls_59 : decode cX10_readCalls 59 = .ok (.aload_n 0, 1) := by decide +kernel
theorem dX10_readCalls_60 : decode cX10_readCalls 60 = .ok (.getfield 103, 3) := by decide +kernel
theorem dX10_readCalls_63 : decode cX10_readCalls 63 = .ok (.iconst 3, 1) := by decide +kernel
theorem dX10_readCalls_64 : decode cX10_readCalls 64 = .ok (.iload_n 1, 1) := by decide +kernel
theorem dX10_readCalls_65 : decode cX10_readCalls 65 = .ok (.imul, 1) := by decide +kernel
theorem dX10_readCalls_66 : decode cX10_readCalls 66 = .ok (.iload_n 2, 1) := by decide +kernel
theorem dX10_readCalls_67 : decode cX10_readCalls 67 = .ok (.iadd, 1) := by decide +kernel
theorem dX10_readCalls_68 : decode cX10_readCalls 68 = .ok (.iload 5, 2) := by decide +kernel
theorem dX10_readCalls_70 : decode cX10_readCalls 70 = .ok (.iconst 3, 1) := by decide +kernel
theorem dX10_readCalls_71 : decode cX10_readCalls 71 = .ok (.if_icmp .ne 7, 3) := by decide +kernel
theorem dX10_readCalls_74 : decode cX10_readCalls 74 = .ok (.iconst 2, 1) := by decide +kernel
theorem dX10_readCalls_75 : decode cX10_readCalls 75 = .ok (.goto 4, 3) := by decide +kernel
theorem dX10_readCalls_78 : decode cX10_readCalls 78 = .ok (.iconst 1, 1) := by decide +kernel
theorem dX10_readCalls_79 : decode cX10_readCalls 79 = .ok (.iastore, 1) := by decide +kernel
theorem dX10_readCalls_80 : decode cX10_readCalls 80 = .ok (.aload_n 0, 1) := by decide +kernel
theorem dX10_readCalls_81 : decode cX10_readCalls 81 = .ok (.getfield 106, 3) := by decide +kernel
theorem dX10_readCalls_84 : decode cX10_readCalls 84 = .ok (.iconst 3, 1) := by decide +kernel
theorem dX10_readCalls_85 : decode cX10_readCalls 85 = .ok (.iload_n 1, 1) := by decide +kernel
theorem dX10_readCalls_86 : decode cX10_readCalls 86 = .ok (.imul, 1) := by decide +kernel
theorem dX10_readCalls_87 : decode cX10_readCalls 87 = .ok (.iload_n 2, 1) := by decide +kernel
theorem dX10_readCalls_88 : decode cX10_readCalls 88 = .ok (.iadd, 1) := by decide +kernel
theorem dX10_readCalls_89 : decode cX10_readCalls 89 = .ok (.iload 5, 2) := by decide +kernel
theorem dX10_readCalls_91 : decode cX10_readCalls 91 = .ok (.iconst 3, 1) := by decide +kernel
theorem dX10_readCalls_92 : decode cX10_readCalls 92 = .ok (.if_icmp .ne 14, 3) := by decide +kernel
theorem dX10_readCalls_95 : decode cX10_readCalls 95 = .ok (.iload 6, 2) := by decide +kernel
theorem dX10_readCalls_97 : decode cX10_readCalls 97 = .ok (.bipush 124, 2) := by decide +kernel
theorem dX10_readCalls_99 : decode cX10_readCalls 99 = .ok (.if_icmp .ne 7, 3) := by decide +kernel
theorem dX10_readCalls_102 : decode cX10_readCalls 102 = .ok (.iconst 1, 1) := by decide +kernel
theorem dX10_readCalls_103 : decode cX10_readCalls 103 = .ok (.goto 4, 3) := by decide +kernel
theorem dX10_readCalls_106 : decode cX10_readCalls 106 = .ok (.iconst 0, 1) := by decide +kernel
theorem dX10_readCalls_107 : decode cX10_readCalls 107 = .ok (.bastore, 1) := by decide +kernel
theorem dX10_readCalls_108 : decode cX10_readCalls 108 = .ok (.aload_n 0, 1) := by decide +kernel
theorem dX10_readCalls_109 : decode cX10_readCalls 109 = .ok (.getfield 100, 3) := by decide +kernel
theorem dX10_readCalls_112 : decode cX10_readCalls 112 = .ok (.bipush 6, 2) := by decide +kernel
theorem dX10_readCalls_114 : decode cX10_readCalls 114 = .ok (.iload_n 1, 1) := by decide +kernel
theorem dX10_readCalls_115 : decode cX10_readCalls 115 = .ok (.imul, 1) := by decide +kernel
theorem dX10_readCalls_116 : decode cX10_readCalls 116 = .ok (.iconst 2, 1) := by decide +kernel
theorem dX10_readCalls_117 : decode cX10_readCalls 117 = .ok (.iload_n 2, 1) := by decide +kernel
theorem dX10_readCalls_118 : decode cX10_readCalls 118 = .ok (.imul, 1) := by decide +kernel
theorem dX10_readCalls_119 : decode cX10_readCalls 119 = .ok (.iadd, 1) := by decide +kernel
theorem dX10_readCalls_120 : decode cX10_readCalls 120 = .ok (.iconst 1, 1) := by decide +kernel
theorem dX10_readCalls_121 : decode cX10_readCalls 121 = .ok (.iadd, 1) := by decide +kernel
theorem dX10_readCalls_122 : decode cX10_readCalls 122 = .ok (.iconst (-1), 1) := by decide +kernel
theorem dX10_readCalls_123 : decode cX10_readCalls 123 = .ok (.iastore, 1) := by decide +kernel
theorem dX10_readCalls_124 : decode cX10_readCalls 124 = .ok (.iconst 0, 1) := by decide +kernel
theorem dX10_readCalls_125 : decode cX10_readCalls 125 = .ok (.istore 8, 2) := by decide +kernel
theorem dX10_readCalls_127 : decode cX10_readCalls 127 = .ok (.iload 8, 2) := by decide +kernel
theorem dX10_readCalls_129 : decode cX10_readCalls 129 = .ok (.iconst 2, 1) := by decide +kernel
theorem dX10_readCalls_130 : decode cX10_readCalls 130 = .ok (.if_icmp .ge 72, 3) := by decide +kernel
theorem dX10_readCalls_133 : decode cX10_readCalls 133 = .ok (.iload 7, 2) := by decide +kernel
theorem dX10_readCalls_135 : decode cX10_readCalls 135 = .ok (.ifCond .eq 67, 3) := by decide +kernel
theorem dX10_readCalls_138 : decode cX10_readCalls 138 = .ok (.iconst 2, 1) := by decide +kernel
theorem dX10_readCalls_139 : decode cX10_readCalls 139 = .ok (.iload 8, 2) := by decide +kernel
theorem dX10_readCalls_141 : decode cX10_readCalls 141 = .ok (.imul, 1) := by decide +kernel
theorem dX10_readCalls_142 : decode cX10_readCalls 142 = .ok (.iload 5, 2) := by decide +kernel
theorem dX10_readCalls_144 : decode cX10_readCalls 144 = .ok (.if_icmp .ge 52, 3) := by decide +kernel
theorem dX10_readCalls_147 : decode cX10_readCalls 147 = .ok (.aload_n 0, 1) := by decide +kernel
theorem dX10_readCalls_148 : decode cX10_readCalls 148 = .ok (.iload_n 1, 1) := by decide +kernel
theorem dX10_readCalls_149 : decode cX10_readCalls 149 = .ok (.aload_n 0, 1) := by decide +kernel
theorem dX10_readCalls_150 : decode cX10_readCalls 150 = .ok (.iload_n 3, 1) := by decide +kernel
theorem dX10_readCalls_151 : decode cX10_readCalls 151 = .ok (.iconst 2, 1) := by decide +kernel
theorem dX10_readCalls_152 : decode cX10_readCalls 152 = .ok (.iload 8, 2) := by decide +kernel
theorem dX10_readCalls_154 : decode cX10_readCalls 154 = .ok (.imul, 1) := by decide +kernel
theorem dX10_readCalls_155 : decode cX10_readCalls 155 = .ok (.iadd, 1) := by decide +kernel
theorem dX10_readCalls_156 : decode cX10_readCalls 156 = .ok (.invokevirtual 156, 3) := by decide +kernel
theorem dX10_readCalls_159 : decode cX10_readCalls 159 = .ok (.invokevirtual 261, 3) := by decide +kernel
theorem dX10_readCalls_162 : decode cX10_readCalls 162 = .ok (.istore 9, 2) := by decide +kernel
theorem dX10_readCalls_164 : decode cX10_readCalls 164 = .ok (.aload_n 0, 1) := by decide +kernel
theorem dX10_readCalls_165 : decode cX10_readCalls 165 = .ok (.getfield 100, 3) := by decide +kernel
theorem dX10_readCalls_168 : decode cX10_readCalls 168 = .ok (.bipush 6, 2) := by decide +kernel
theorem dX10_readCalls_170 : decode cX10_readCalls 170 = .ok (.iload_n 1, 1) := by decide +kernel
theorem dX10_readCalls_171 : decode cX10_readCalls 171 = .ok (.imul, 1) := by decide +kernel
theorem dX10_readCalls_172 : decode cX10_readCalls 172 = .ok (.iconst 2, 1) := by decide +kernel
theorem dX10_readCalls_173 : decode cX10_readCalls 173 = .ok (.iload_n 2, 1) := by decide +kernel
theorem dX10_readCalls_174 : decode cX10_readCalls 174 = .ok (.imul, 1) := by decide +kernel
theorem dX10_readCalls_175 : decode cX10_readCalls 175 = .ok (.iadd, 1) := by decide +kernel
theorem dX10_readCalls_176 : decode cX10_readCalls 176 = .ok (.iload 8, 2) := by decide +kernel
theorem dX10_readCalls_178 : decode cX10_readCalls 178 = .ok (.iadd, 1) := by decide +kernel
theorem dX10_readCalls_179 : decode cX10_readCalls 179 = .ok (.iload 9, 2) := by decide +kernel
theorem dX10_readCalls_181 : decode cX10_readCalls 181 = .ok (.iastore, 1) := by decide +kernel
theorem dX10_readCalls_182 : decode cX10_readCalls 182 = .ok (.iload 9, 2) := by decide +kernel
theorem dX10_readCalls_184 : decode cX10_readCalls 184 = .ok (.bipush (-2), 2) := by decide +kernel
theorem dX10_readCalls_186 : decode cX10_readCalls 186 = .ok (.if_icmp .eq 7, 3) := by decide +kernel
theorem dX10_readCalls_189 : decode cX10_readCalls 189 = .ok (.iconst 1, 1) := by decide +kernel
theorem dX10_readCalls_190 : decode cX10_readCalls 190 = .ok (.goto 4, 3) := by decide +kernel
theorem dX10_readCalls_193 : decode cX10_readCalls 193 = .ok (.iconst 0, 1) := by decide +kernel
theorem dX10_readCalls_194 : decode cX10_readCalls 194 = .ok (.istore 7, 2) := by decide +kernel
theorem dX10_readCalls_196 : decode cX10_readCalls 196 = .ok (.iinc 8 1, 3) := by decide +kernel
theorem dX10_readCalls_199 : decode cX10_readCalls 199 = .ok (.goto (-72), 3) := by decide +kernel
theorem dX10_readCalls_202 : decode cX10_readCalls 202 = .ok (.iload 7, 2) := by decide +kernel
theorem dX10_readCalls_204 : decode cX10_readCalls 204 = .ok (.ifCond .ne 9, 3) := by decide +kernel
theorem dX10_readCalls_207 : decode cX10_readCalls 207 = .ok (.aload_n 0, 1) := by decide +kernel
theorem dX10_readCalls_208 : decode cX10_readCalls 208 = .ok (.iconst 4, 1) := by decide +kernel
theorem dX10_readCalls_209 : decode cX10_readCalls 209 = .ok (.iload_n 3, 1) := by decide +kernel
theorem dX10_readCalls_210 : decode cX10_readCalls 210 = .ok (.invokevirtual 160, 3) := by decide +kernel
theorem dX10_readCalls_213 : decode cX10_readCalls 213 = .ok (.return_, 1) := by decide +kernel
theorem dX10_readColumn_0 : decode cX10_readColumn 0 = .ok (.iload_n 2, 1) := by decide +kernel
theorem dX10_readColumn_1 : decode cX10_readColumn 1 = .ok (.tableswitch 365 0 8 #[51, 83, 126, 214, 225, 236, 282, 325, 345], 51) := by decide +kernel
theorem dX10_readColumn_52 : decode cX10_readColumn 52 = .ok (.aload_n 0, 1) := by decide +kernel
theorem dX10_readColumn_53 : decode cX10_readColumn 53 = .ok (.getfield 72, 3) := by decide +kernel
theorem dX10_readColumn_56 : decode cX10_readColumn 56 = .ok (.iload_n 1, 1) := by decide +kernel
theorem dX10_readColumn_57 : decode cX10_readColumn 57 = .ok (.aload_n 0, 1) := by decide +kernel
theorem dX10_readColumn_58 : decode cX10_readColumn 58 = .ok (.iload_n 3, 1) := by decide +kernel
theorem dX10_readColumn_59 : decode cX10_readColumn 59 = .ok (.iload 4, 2) := by decide +kernel
theorem dX10_readColumn_61 : decode cX10_readColumn 61 = .ok (.invokevirtual 264, 3) := by decide +kernel
theorem dX10_readColumn_64 : decode cX10_readColumn 64 = .ok (.iastore, 1) := by decide +kernel
theorem dX10_readColumn_65 : decode cX10_readColumn 65 = .ok (.aload_n 0, 1) := by decide +kernel
theorem dX10_readColumn_66 : decode cX10_readColumn 66 = .ok (.getfield 72, 3) := by decide +kernel
theorem dX10_readColumn_69 : decode cX10_readColumn 69 = .ok (.iload_n 1, 1) := by decide +kernel
theorem dX10_readColumn_70 : decode cX10_readColumn 70 = .ok (.iaload, 1) := by decide +kernel
theorem dX10_readColumn_71 : decode cX10_readColumn 71 = .ok (.iconst (-1), 1) := by decide +kernel
theorem dX10_readColumn_72 : decode cX10_readColumn 72 = .ok (.if_icmp .ne 306, 3) := by decide +kernel
theorem dX10_readColumn_75 : decode cX10_readColumn 75 = .ok (.aload_n 0, 1) := by decide +kernel
theorem dX10_readColumn_76 : decode cX10_readColumn 76 = .ok (.iconst 4, 1) := by decide +kernel
theorem dX10_readColumn_77 : decode cX10_readColumn 77 = .ok (.iload_n 3, 1) := by decide +kernel
theorem dX10_readColumn_78 : decode cX10_readColumn 78 = .ok (.invokevirtual 160, 3) := by decide +kernel
theorem dX10_readColumn_81 : decode cX10_readColumn 81 = .ok (.goto 297, 3) := by decide +kernel
theorem dX10_readColumn_84 : decode cX10_readColumn 84 = .ok (.aload_n 0, 1) := by decide +kernel
theorem dX10_readColumn_85 : decode cX10_readColumn 85 = .ok (.getfield 75, 3) := by decide +kernel
theorem dX10_readColumn_88 : decode cX10_readColumn 88 = .ok (.iload_n 1, 1) := by decide +kernel
theorem dX10_readColumn_89 : decode cX10_readColumn 89 = .ok (.aload_n 0, 1) := by decide +kernel
theorem dX10_readColumn_90 : decode cX10_readColumn 90 = .ok (.iload_n 3, 1) := by decide +kernel
theorem dX10_readColumn_91 : decode cX10_readColumn 91 = .ok (.iload 4, 2) := by decide +kernel
theorem dX10_readColumn_93 : decode cX10_readColumn 93 = .ok (.aload_n 0, 1) := by decide +kernel
theorem dX10_readColumn_94 : decode cX10_readColumn 94 = .ok (.getfield 30, 3) := by decide +kernel
theorem dX10_readColumn_97 : decode cX10_readColumn 97 = .ok (.aload_n 0, 1) := by decide +kernel
theorem dX10_readColumn_98 : decode cX10_readColumn 98 = .ok (.getfield 72, 3) := by decide +kernel
theorem dX10_readColumn_101 : decode cX10_readColumn 101 = .ok (.iload_n 1, 1) := by decide +kernel
theorem dX10_readColumn_102 : decode cX10_readColumn 102 = .ok (.iaload, 1) := by decide +kernel
theorem dX10_readColumn_103 : decode cX10_readColumn 103 = .ok (.iaload, 1) := by decide +kernel
theorem dX10_readColumn_104 : decode cX10_readColumn 104 = .ok (.invokevirtual 267, 3) := by decide +kernel
theorem dX10_readColumn_107 : decode cX10_readColumn 107 = .ok (.iastore, 1) := by decide +kernel
theorem dX10_readColumn_108 : decode cX10_readColumn 108 = .ok (.aload_n 0, 1) := by decide +kernel
theorem dX10_readColumn_109 : decode cX10_readColumn 109 = .ok (.getfield 75, 3) := by decide +kernel
theorem dX10_readColumn_112 : decode cX10_readColumn 112 = .ok (.iload_n 1, 1) := by decide +kernel
theorem dX10_readColumn_113 : decode cX10_readColumn 113 = .ok (.iaload, 1) := by decide +kernel
theorem dX10_readColumn_114 : decode cX10_readColumn 114 = .ok (.iconst 1, 1) := by decide +kernel
theorem dX10_readColumn_115 : decode cX10_readColumn 115 = .ok (.if_icmp .ge 263, 3) := by decide +kernel
theorem dX10_readColumn_118 : decode cX10_readColumn 118 = .ok (.aload_n 0, 1) := by decide +kernel
theorem dX10_readColumn_119 : decode cX10_readColumn 119 = .ok (.iconst 4, 1) := by decide +kernel
theorem dX10_readColumn_120 : decode cX10_readColumn 120 = .ok (.iload_n 3, 1) := by decide +kernel
theorem dX10_readColumn_121 : decode cX10_readColumn 121 = .ok (.invokevirtual 160, 3) := by decide +kernel
theorem dX10_readColumn_124 : decode cX10_readColumn 124 = .ok (.goto 254, 3) := by decide +kernel
theorem dX10_readColumn_127 : decode cX10_readColumn 127 = .ok (.aload_n 0, 1) := by decide +kernel
theorem dX10_readColumn_128 : decode cX10_readColumn 128 = .ok (.iload_n 3, 1) := by decide +kernel
theorem dX10_readColumn_129 : decode cX10_readColumn 129 = .ok (.iload 4, 2) := by decide +kernel
theorem dX10_readColumn_131 : decode cX10_readColumn 131 = .ok (.invokevirtual 244, 3) := by decide +kernel
theorem dX10_readColumn_134 : decode cX10_readColumn 134 = .ok (.ifCond .ne 12, 3) := by decide +kernel
theorem dX10_readColumn_137 : decode cX10_readColumn 137 = .ok (.aload_n 0, 1) := by decide +kernel
theorem dX10_readColumn_138 : decode cX10_readColumn 138 = .ok (.iconst 4, 1) := by decide +kernel
theorem dX10_readColumn_139 : decode cX10_readColumn 139 = .ok (.iload_n 3, 1) := by decide +kernel
theorem dX10_readColumn_140 : decode cX10_readColumn 140 = .ok (.invokevirtual 160, 3) := by decide +kernel
theorem dX10_readColumn_143 : decode cX10_readColumn 143 = .ok (.goto 235, 3) := by decide +kernel
theorem dX10_readColumn_146 : decode cX10_readColumn 146 = .ok (.aload_n 0, 1) := by decide +kernel
theorem dX10_readColumn_147 : decode cX10_readColumn 147 = .ok (.getfield 81, 3) := by decide +kernel
theorem dX10_readColumn_150 : decode cX10_readColumn 150 = .ok (.iload_n 1, 1) := by decide +kernel
theorem dX10_readColumn_151 : decode cX10_readColumn 151 = .ok (.aload_n 0, 1) := by decide +kernel
theorem dX10_readColumn_152 : decode cX10_readColumn 152 = .ok (.iload_n 3, 1) := by decide +kernel
theorem dX10_readColumn_153 : decode cX10_readColumn 153 = .ok (.iload 4, 2) := by decide +kernel
theorem dX10_readColumn_155 : decode cX10_readColumn 155 = .ok (.iconst 5, 1) := by decide +kernel
theorem dX10_readColumn_156 : decode cX10_readColumn 156 = .ok (.invokevirtual 241, 3) := by decide +kernel
theorem dX10_readColumn_159 : decode cX10_readColumn 159 = .ok (.ifCond .eq 7, 3) := by decide +kernel
theorem dX10_readColumn_162 : decode cX10_readColumn 162 = .ok (.iconst 0, 1) := by decide +kernel
theorem dX10_readColumn_163 : decode cX10_readColumn 163 = .ok (.goto 7, 3) := by decide +kernel
theorem dX10_readColumn_166 : decode cX10_readColumn 166 = .ok (.iload 4, 2) := by decide +kernel
theorem dX10_readColumn_168 : decode cX10_readColumn 168 = .ok (.iload_n 3, 1) := by decide +kernel
theorem dX10_readColumn_169 : decode cX10_readColumn 169 = .ok (.isub, 1) := by decide +kernel
theorem dX10_readColumn_170 : decode cX10_readColumn 170 = .ok (.iastore, 1) := by decide +kernel
theorem dX10_readColumn_171 : decode cX10_readColumn 171 = .ok (.iconst 0, 1) := by decide +kernel
theorem dX10_readColumn_172 : decode cX10_readColumn 172 = .ok (.istore 5, 2) := by decide +kernel
theorem dX10_readColumn_174 : decode cX10_readColumn 174 = .ok (.iload 5, 2) := by decide +kernel
theorem dX10_readColumn_176 : decode cX10_readColumn 176 = .ok (.aload_n 0, 1) := by decide +kernel
theorem dX10_readColumn_177 : decode cX10_readColumn 177 = .ok (.getfield 81, 3) := by decide +kernel
theorem dX10_readColumn_180 : decode cX10_readColumn 180 = .ok (.iload_n 1, 1) := by decide +kernel
theorem dX10_readColumn_181 : decode cX10_readColumn 181 = .ok (.iaload, 1) := by decide +kernel
theorem dX10_readColumn_182 : decode cX10_readColumn 182 = .ok (.if_icmp .ge 30, 3) := by decide +kernel
theorem dX10_readColumn_185 : decode cX10_readColumn 185 = .ok (.aload_n 0, 1) := by decide +kernel
theorem dX10_readColumn_186 : decode cX10_readColumn 186 = .ok (.getfield 78, 3) := by decide +kernel
theorem dX10_readColumn_189 : decode cX10_readColumn 189 = .ok (.bipush 20, 2) := by decide +kernel
theorem dX10_readColumn_191 : decode cX10_readColumn 191 = .ok (.iload_n 1, 1) := by decide +kernel
theorem dX10_readColumn_192 : decode cX10_readColumn 192 = .ok (.imul, 1) := by decide +kernel
theorem dX10_readColumn_193 : decode cX10_readColumn 193 = .ok (.iload 5, 2) := by decide +kernel
theorem dX10_readColumn_195 : decode cX10_readColumn 195 = .ok (.iadd, 1) := by decide +kernel
theorem dX10_readColumn_196 : decode cX10_readColumn 196 = .ok (.aload_n 0, 1) := by decide +kernel
theorem dX10_readColumn_197 : decode cX10_readColumn 197 = .ok (.iload_n 3, 1) := by decide +kernel
theorem dX10_readColumn_198 : decode cX10_readColumn 198 = .ok (.iload 5, 2) := by decide +kernel
theorem dX10_readColumn_200 : decode cX10_readColumn 200 = .ok (.iadd, 1) := by decide +kernel
theorem dX10_readColumn_201 : decode cX10_readColumn 201 = .ok (.invokevirtual 156, 3) := by decide +kernel
theorem dX10_readColumn_204 : decode cX10_readColumn 204 = .ok (.i2b, 1) := by decide +kernel
theorem dX10_readColumn_205 : decode cX10_readColumn 205 = .ok (.bastore, 1) := by decide +kernel
theorem dX10_readColumn_206 : decode cX10_readColumn 206 = .ok (.iinc 5 1, 3) := by decide +kernel
theorem dX10_readColumn_209 : decode cX10_readColumn 209 = .ok (.goto (-35), 3) := by decide +kernel
theorem dX10_readColumn_212 : decode cX10_readColumn 212 = .ok (.goto 166, 3) := by decide +kernel
theorem dX10_readColumn_215 : decode cX10_readColumn 215 = .ok (.aload_n 0, 1) := by decide +kernel
theorem dX10_readColumn_216 : decode cX10_readColumn 216 = .ok (.iload_n 1, 1) := by decide +kernel
theorem dX10_readColumn_217 : decode cX10_readColumn 217 = .ok (.iload_n 3, 1) := by decide +kernel
theorem dX10_readColumn_218 : decode cX10_readColumn 218 = .ok (.iload 4, 2) := by decide +kernel
theorem dX10_readColumn_220 : decode cX10_readColumn 220 = .ok (.invokevirtual 271, 3) := by decide +kernel
theorem dX10_readColumn_223 : decode cX10_readColumn 223 = .ok (.goto 155, 3) := by decide +kernel
theorem dX10_readColumn_226 : decode cX10_readColumn 226 = .ok (.aload_n 0, 1) := by decide +kernel
theorem dX10_readColumn_227 : decode cX10_readColumn 227 = .ok (.iload_n 1, 1) := by decide +kernel
theorem dX10_readColumn_228 : decode cX10_readColumn 228 = .ok (.iload_n 3, 1) := by decide +kernel
theorem dX10_readColumn_229 : decode cX10_readColumn 229 = .ok (.iload 4, 2) := by decide +kernel
theorem dX10_readColumn_231 : decode cX10_readColumn 231 = .ok (.invokevirtual 275, 3) := by decide +kernel
theorem dX10_readColumn_234 : decode cX10_readColumn 234 = .ok (.goto 144, 3) := by decide +kernel
theorem dX10_readColumn_237 : decode cX10_readColumn 237 = .ok (.aload_n 0, 1) := by decide +kernel
theorem dX10_readColumn_238 : decode cX10_readColumn 238 = .ok (.getfield 93, 3) := by decide +kernel
theorem dX10_readColumn_241 : decode cX10_readColumn 241 = .ok (.iload_n 1, 1) := by decide +kernel
theorem dX10_readColumn_242 : decode cX10_readColumn 242 = .ok (.aload_n 0, 1) := by decide +kernel
theorem dX10_readColumn_243 : decode cX10_readColumn 243 = .ok (.iload_n 3, 1) := by decide +kernel
theorem dX10_readColumn_244 : decode cX10_readColumn 244 = .ok (.iload 4, 2) := by decide +kernel
theorem dX10_readColumn_246 : decode cX10_readColumn 246 = .ok (.ldc_w 278, 3) := by decide +kernel
theorem dX10_readColumn_249 : decode cX10_readColumn 249 = .ok (.invokevirtual 267, 3) := by decide +kernel
theorem dX10_readColumn_252 : decode cX10_readColumn 252 = .ok (.iastore, 1) := by decide +kernel
theorem dX10_readColumn_253 : decode cX10_readColumn 253 = .ok (.aload_n 0, 1) := by decide +kernel
theorem dX10_readColumn_254 : decode cX10_readColumn 254 = .ok (.getfield 93, 3) := by decide +kernel
theorem dX10_readColumn_257 : decode cX10_readColumn 257 = .ok (.iload_n 1, 1) := by decide +kernel
theorem dX10_readColumn_258 : decode cX10_readColumn 258 = .ok (.iaload, 1) := by decide +kernel
theorem dX10_readColumn_259 : decode cX10_readColumn 259 = .ok (.iconst (-1), 1) := by decide +kernel
theorem dX10_readColumn_260 : decode cX10_readColumn 260 = .ok (.if_icmp .ne 118, 3) := by decide +kernel
theorem dX10_readColumn_263 : decode cX10_readColumn 263 = .ok (.aload_n 0, 1) := by decide +kernel
theorem dX10_readColumn_264 : decode cX10_readColumn 264 = .ok (.iload_n 3, 1) := by decide +kernel
theorem dX10_readColumn_265 : decode cX10_readColumn 265 = .ok (.iload 4, 2) := by decide +kernel
theorem dX10_readColumn_267 : decode cX10_readColumn 267 = .ok (.iconst 5, 1) := by decide +kernel
theorem dX10_readColumn_268 : decode cX10_readColumn 268 = .ok (.invokevirtual 241, 3) := by decide +kernel
theorem dX10_readColumn_271 : decode cX10_readColumn 271 = .ok (.ifCond .ne 107, 3) := by decide +kernel
theorem dX10_readColumn_274 : decode cX10_readColumn 274 = .ok (.aload_n 0, 1) := by decide +kernel
theorem dX10_readColumn_275 : decode cX10_readColumn 275 = .ok (.iconst 4, 1) := by decide +kernel
theorem dX10_readColumn_276 : decode cX10_readColumn 276 = .ok (.iload_n 3, 1) := by decide +kernel
theorem dX10_readColumn_277 : decode cX10_readColumn 277 = .ok (.invokevirtual 160, 3) := by decide +kernel
theorem dX10_readColumn_280 : decode cX10_readColumn 280 = .ok (.goto 98, 3) := by decide +kernel
theorem dX10_readColumn_283 : decode cX10_readColumn 283 = .ok (.aload_n 0, 1) := by decide +kernel
theorem dX10_readColumn_284 : decode cX10_readColumn 284 = .ok (.getfield 96, 3) := by decide +kernel
theorem dX10_readColumn_287 : decode cX10_readColumn 287 = .ok (.iload_n 1, 1) := by decide +kernel
theorem dX10_readColumn_288 : decode cX10_readColumn 288 = .ok (.aload_n 0, 1) := by decide +kernel
theorem dX10_readColumn_289 : decode cX10_readColumn 289 = .ok (.iload_n 3, 1) := by decide +kernel
theorem dX10_readColumn_290 : decode cX10_readColumn 290 = .ok (.iload 4, 2) := by decide +kernel
theorem dX10_readColumn_292 : decode cX10_readColumn 292 = .ok (.iconst 3, 1) := by decide +kernel
theorem dX10_readColumn_293 : decode cX10_readColumn 293 = .ok (.invokevirtual 241, 3) := by decide +kernel
theorem dX10_readColumn_296 : decode cX10_readColumn 296 = .ok (.bastore, 1) := by decide +kernel
theorem dX10_readColumn_297 : decode cX10_readColumn 297 = .ok (.aload_n 0, 1) := by decide +kernel
theorem dX10_readColumn_298 : decode cX10_readColumn 298 = .ok (.getfield 96, 3) := by decide +kernel
theorem dX10_readColumn_301 : decode cX10_readColumn 301 = .ok (.iload_n 1, 1) := by decide +kernel
theorem dX10_readColumn_302 : decode cX10_readColumn 302 = .ok (.baload, 1) := by decide +kernel
theorem dX10_readColumn_303 : decode cX10_readColumn 303 = .ok (.ifCond .ne 75, 3) := by decide +kernel
theorem dX10_readColumn_306 : decode cX10_readColumn 306 = .ok (.aload_n 0, 1) := by decide +kernel
theorem dX10_readColumn_307 : decode cX10_readColumn 307 = .ok (.iload_n 3, 1) := by decide +kernel
theorem dX10_readColumn_308 : decode cX10_readColumn 308 = .ok (.iload 4, 2) := by decide +kernel
theorem dX10_readColumn_310 : decode cX10_readColumn 310 = .ok (.iconst 5, 1) := by decide +kernel
theorem dX10_readColumn_311 : decode cX10_readColumn 311 = .ok (.invokevirtual 241, 3) := by decide +kernel
theorem dX10_readColumn_314 : decode cX10_readColumn 314 = .ok (.ifCond .ne 64, 3) := by decide +kernel
theorem dX10_readColumn_317 : decode cX10_readColumn 317 = .ok (.aload_n 0, 1) := by decide +kernel
theorem dX10_readColumn_318 : decode cX10_readColumn 318 = .ok (.iconst 4, 1) := by decide +kernel
theorem dX10_readColumn_319 : decode cX10_readColumn 319 = .ok (.iload_n 3, 1) := by decide +kernel
theorem dX10_readColumn_320 : decode cX10_readColumn 320 = .ok (.invokevirtual 160, 3) := by decide +kernel
theorem dX10_readColumn_323 : decode cX10_readColumn 323 = .ok (.goto 55, 3) := by decide +kernel
theorem dX10_readColumn_326 : decode cX10_readColumn 326 = .ok (.aload_n 0, 1) := by decide +kernel
theorem dX10_readColumn_327 : decode cX10_readColumn 327 = .ok (.iload_n 3, 1) := by decide +kernel
theorem dX10_readColumn_328 : decode cX10_readColumn 328 = .ok (.iload 4, 2) := by decide +kernel
theorem dX10_readColumn_330 : decode cX10_readColumn 330 = .ok (.iconst 5, 1) := by decide +kernel
theorem dX10_readColumn_331 : decode cX10_readColumn 331 = .ok (.invokevirtual 241, 3) := by decide +kernel
theorem dX10_readColumn_334 : decode cX10_readColumn 334 = .ok (.ifCond .ne 44, 3) := by decide +kernel
theorem dX10_readColumn_337 : decode cX10_readColumn 337 = .ok (.aload_n 0, 1) := by decide +kernel
theorem dX10_readColumn_338 : decode cX10_readColumn 338 = .ok (.iconst 4, 1) := by decide +kernel
theorem dX10_readColumn_339 : decode cX10_readColumn 339 = .ok (.iload_n 3, 1) := by decide +kernel
theorem dX10_readColumn_340 : decode cX10_readColumn 340 = .ok (.invokevirtual 160, 3) := by decide +kernel
theorem dX10_readColumn_343 : decode cX10_readColumn 343 = .ok (.goto 35, 3) := by decide +kernel
theorem dX10_readColumn_346 : decode cX10_readColumn 346 = .ok (.aload_n 0, 1) := by decide +kernel
theorem dX10_readColumn_347 : decode cX10_readColumn 347 = .ok (.iload_n 3, 1) := by decide +kernel
theorem dX10_readColumn_348 : decode cX10_readColumn 348 = .ok (.iload 4, 2) := by decide +kernel
theorem dX10_readColumn_350 : decode cX10_readColumn 350 = .ok (.iconst 4, 1) := by decide +kernel
theorem dX10_readColumn_351 : decode cX10_readColumn 351 = .ok (.invokevirtual 241, 3) := by decide +kernel
theorem dX10_readColumn_354 : decode cX10_readColumn 354 = .ok (.ifCond .ne 24, 3) := by decide +kernel
theorem dX10_readColumn_357 : decode cX10_readColumn 357 = .ok (.aload_n 0, 1) := by decide +kernel
theorem dX10_readColumn_358 : decode cX10_readColumn 358 = .ok (.iconst 4, 1) := by decide +kernel
theorem dX10_readColumn_359 : decode cX10_readColumn 359 = .ok (.iload_n 3, 1) := by decide +kernel
theorem dX10_readColumn_360 : decode cX10_readColumn 360 = .ok (.invokevirtual 160, 3) := by decide +kernel
theorem dX10_readColumn_363 : decode cX10_readColumn 363 = .ok (.goto 15, 3) := by decide +kernel
theorem dX10_readColumn_366 : decode cX10_readColumn 366 = .ok (.aload_n 0, 1) := by decide +kernel
theorem dX10_readColumn_367 : decode cX10_readColumn 367 = .ok (.iload_n 1, 1) := by decide +kernel
theorem dX10_readColumn_368 : decode cX10_readColumn 368 = .ok (.iload_n 2, 1) := by decide +kernel
theorem dX10_readColumn_369 : decode cX10_readColumn 369 = .ok (.bipush 9, 2) := by decide +kernel
theorem dX10_readColumn_371 : decode cX10_readColumn 371 = .ok (.isub, 1) := by decide +kernel
theorem dX10_readColumn_372 : decode cX10_readColumn 372 = .ok (.iload_n 3, 1) := by decide +kernel
theorem dX10_readColumn_373 : decode cX10_readColumn 373 = .ok (.iload 4, 2) := by decide +kernel
theorem dX10_readColumn_375 : decode cX10_readColumn 375 = .ok (.invokevirtual 279, 3) := by decide +kernel
theorem dX10_readColumn_378 : decode cX10_readColumn 378 = .ok (.return_, 1) := by decide +kernel
theorem dX10_readRecord_0 : decode cX10_readRecord 0 = .ok (.aload_n 0, 1) := by decide +kernel
theorem dX10_readRecord_1 : decode cX10_readRecord 1 = .ok (.getfield 60, 3) := by decide +kernel
theorem dX10_readRecord_4 : decode cX10_readRecord 4 = .ok (.iconst 2, 1) := by decide +kernel
theorem dX10_readRecord_5 : decode cX10_readRecord 5 = .ok (.iaload, 1) := by decide +kernel
theorem dX10_readRecord_6 : decode cX10_readRecord 6 = .ok (.bipush 60, 2) := by decide +kernel
theorem dX10_readRecord_8 : decode cX10_readRecord 8 = .ok (.if_icmp .ne 11, 3) := by decide +kernel
theorem dX10_readRecord_11 : decode cX10_readRecord 11 = .ok (.aload_n 0, 1) := by decide +kernel
theorem dX10_readRecord_12 : decode cX10_readRecord 12 = .ok (.bipush 6, 2) := by decide +kernel
theorem dX10_readRecord_14 : decode cX10_readRecord 14 = .ok (.iload_n 1, 1) := by decide +kernel
theorem dX10_readRecord_15 : decode cX10_readRecord 15 = .ok (.invokevirtual 160, 3) := by decide +kernel
theorem dX10_readRecord_18 : decode cX10_readRecord 18 = .ok (.return_, 1) := by decide +kernel
theorem dX10_readRecord_19 : decode cX10_readRecord 19 = .ok (.aload_n 0, 1) := by decide +kernel
theorem dX10_readRecord_20 : decode cX10_readRecord 20 = .ok (.getfield 63, 3) := by decide +kernel
theorem dX10_readRecord_23 : decode cX10_readRecord 23 = .ok (.iconst 2, 1) := by decide +kernel
theorem dX10_readRecord_24 : decode cX10_readRecord 24 = .ok (.iaload, 1) := by decide +kernel
theorem dX10_readRecord_25 : decode cX10_readRecord 25 = .ok (.ifCond .ne 8, 3) := by decide +kernel
theorem dX10_readRecord_28 : decode cX10_readRecord 28 = .ok (.bipush 8, 2) := by decide +kernel
theorem dX10_readRecord_30 : decode cX10_readRecord 30 = .ok (.goto 12, 3) := by decide +kernel
theorem dX10_readRecord_33 : decode cX10_readRecord 33 = .ok (.bipush 9, 2) := by decide +kernel
theorem dX10_readRecord_35 : decode cX10_readRecord 35 = .ok (.aload_n 0, 1) := by decide +kernel
theorem dX10_readRecord_36 : decode cX10_readRecord 36 = .ok (.getfield 63, 3) := by decide +kernel
theorem dX10_readRecord_39 : decode cX10_readRecord 39 = .ok (.iconst 2, 1) := by decide +kernel
theorem dX10_readRecord_40 : decode cX10_readRecord 40 = .ok (.iaload, 1) := by decide +kernel
theorem dX10_readRecord_41 : decode cX10_readRecord 41 = .ok (.iadd, 1) := by decide +kernel
theorem dX10_readRecord_42 : decode cX10_readRecord 42 = .ok (.istore_n 3, 1) := by decide +kernel
theorem dX10_readRecord_43 : decode cX10_readRecord 43 = .ok (.aload_n 0, 1) := by decide +kernel
theorem dX10_readRecord_44 : decode cX10_readRecord 44 = .ok (.iload_n 1, 1) := by decide +kernel
theorem dX10_readRecord_45 : decode cX10_readRecord 45 = .ok (.iload_n 2, 1) := by decide +kernel
theorem dX10_readRecord_46 : decode cX10_readRecord 46 = .ok (.invokevirtual 282, 3) := by decide +kernel
theorem dX10_readRecord_49 : decode cX10_readRecord 49 = .ok (.iload_n 3, 1) := by decide +kernel
theorem dX10_readRecord_50 : decode cX10_readRecord 50 = .ok (.if_icmp .eq 10, 3) := by decide +kernel
theorem dX10_readRecord_53 : decode cX10_readRecord 53 = .ok (.aload_n 0, 1) := by decide +kernel
theorem dX10_readRecord_54 : decode cX10_readRecord 54 = .ok (.iconst 3, 1) := by decide +kernel
theorem dX10_readRecord_55 : decode cX10_readRecord 55 = .ok (.iload_n 1, 1) := by decide +kernel
theorem dX10_readRecord_56 : decode cX10_readRecord 56 = .ok (.invokevirtual 160, 3) := by decide +kernel
theorem dX10_readRecord_59 : decode cX10_readRecord 59 = .ok (.return_, 1) := by decide +kernel
theorem dX10_readRecord_60 : decode cX10_readRecord 60 = .ok (.bipush 120, 2) := by decide +kernel
theorem dX10_readRecord_62 : decode cX10_readRecord 62 = .ok (.aload_n 0, 1) := by decide +kernel
theorem dX10_readRecord_63 : decode cX10_readRecord 63 = .ok (.getfield 60, 3) := by decide +kernel
theorem dX10_readRecord_66 : decode cX10_readRecord 66 = .ok (.iconst 2, 1) := by decide +kernel
theorem dX10_readRecord_67 : decode cX10_readRecord 67 = .ok (.iaload, 1) := by decide +kernel
theorem dX10_readRecord_68 : decode cX10_readRecord 68 = .ok (.iadd, 1) := by decide +kernel
theorem dX10_readRecord_69 : decode cX10_readRecord 69 = .ok (.istore 4, 2) := by decide +kernel
theorem dX10_readRecord_71 : decode cX10_readRecord 71 = .ok (.iload_n 1, 1) := by decide +kernel
theorem dX10_readRecord_72 : decode cX10_readRecord 72 = .ok (.istore 5, 2) := by decide +kernel
theorem dX10_readRecord_74 : decode cX10_readRecord 74 = .ok (.iconst 0, 1) := by decide +kernel
theorem dX10_readRecord_75 : decode cX10_readRecord 75 = .ok (.istore 6, 2) := by decide +kernel
theorem dX10_readRecord_77 : decode cX10_readRecord 77 = .ok (.iload 6, 2) := by decide +kernel
theorem dX10_readRecord_79 : decode cX10_readRecord 79 = .ok (.iload_n 3, 1) := by decide +kernel
theorem dX10_readRecord_80 : decode cX10_readRecord 80 = .ok (.if_icmp .ge 43, 3) := by decide +kernel
theorem dX10_readRecord_83 : decode cX10_readRecord 83 = .ok (.aload_n 0, 1) := by decide +kernel
theorem dX10_readRecord_84 : decode cX10_readRecord 84 = .ok (.getfield 147, 3) := by decide +kernel
theorem dX10_readRecord_87 : decode cX10_readRecord 87 = .ok (.ifCond .ne 36, 3) := by decide +kernel
theorem dX10_readRecord_90 : decode cX10_readRecord 90 = .ok (.aload_n 0, 1) := by decide +kernel
theorem dX10_readRecord_91 : decode cX10_readRecord 91 = .ok (.iload 5, 2) := by decide +kernel
theorem dX10_readRecord_93 : decode cX10_readRecord 93 = .ok (.iload_n 2, 1) := by decide +kernel
theorem dX10_readRecord_94 : decode cX10_readRecord 94 = .ok (.invokevirtual 238, 3) := by decide +kernel
theorem dX10_readRecord_97 : decode cX10_readRecord 97 = .ok (.istore 7, 2) := by decide +kernel
theorem dX10_readRecord_99 : decode cX10_readRecord 99 = .ok (.aload_n 0, 1) := by decide +kernel
theorem dX10_readRecord_100 : decode cX10_readRecord 100 = .ok (.iload 4, 2) := by decide +kernel
theorem dX10_readRecord_102 : decode cX10_readRecord 102 = .ok (.iload 6, 2) := by decide +kernel
theorem dX10_readRecord_104 : decode cX10_readRecord 104 = .ok (.iload 5, 2) := by decide +kernel
theorem dX10_readRecord_106 : decode cX10_readRecord 106 = .ok (.iload 7, 2) := by decide +kernel
theorem dX10_readRecord_108 : decode cX10_readRecord 108 = .ok (.invokevirtual 285, 3) := by decide +kernel
theorem dX10_readRecord_111 : decode cX10_readRecord 111 = .ok (.iload 7, 2) := by decide +kernel
theorem dX10_readRecord_113 : decode cX10_readRecord 113 = .ok (.iconst 1, 1) := by decide +kernel
theorem dX10_readRecord_114 : decode cX10_readRecord 114 = .ok (.iadd, 1) := by decide +kernel
theorem dX10_readRecord_115 : decode cX10_readRecord 115 = .ok (.istore 5, 2) := by decide +kernel
theorem dX10_readRecord_117 : decode cX10_readRecord 117 = .ok (.iinc 6 1, 3) := by decide +kernel
theorem dX10_readRecord_120 : decode cX10_readRecord 120 = .ok (.goto (-43), 3) := by decide +kernel
theorem dX10_readRecord_123 : decode cX10_readRecord 123 = .ok (.aload_n 0, 1) := by decide +kernel
theorem dX10_readRecord_124 : decode cX10_readRecord 124 = .ok (.getfield 60, 3) := by decide +kernel
theorem dX10_readRecord_127 : decode cX10_readRecord 127 = .ok (.iconst 2, 1) := by decide +kernel
theorem dX10_readRecord_128 : decode cX10_readRecord 128 = .ok (.dup2, 1) := by decide +kernel
theorem dX10_readRecord_129 : decode cX10_readRecord 129 = .ok (.iaload, 1) := by decide +kernel
theorem dX10_readRecord_130 : decode cX10_readRecord 130 = .ok (.iconst 1, 1) := by decide +kernel
theorem dX10_readRecord_131 : decode cX10_readRecord 131 = .ok (.iadd, 1) := by decide +kernel
theorem dX10_readRecord_132 : decode cX10_readRecord 132 = .ok (.iastore, 1) := by decide +kernel
theorem dX10_readRecord_133 : decode cX10_readRecord 133 = .ok (.return_, 1) := by decide +kernel
theorem dX10_needLine_0 : decode cX10_needLine 0 = .ok (.aload_n 0, 1) := by decide +kernel
theorem dX10_needLine_1 : decode cX10_needLine 1 = .ok (.iload_n 1, 1) := by decide +kernel
theorem dX10_needLine_2 : decode cX10_needLine 2 = .ok (.invokevirtual 288, 3) := by decide +kernel
theorem dX10_needLine_5 : decode cX10_needLine 5 = .ok (.istore_n 2, 1) := by decide +kernel
theorem dX10_needLine_6 : decode cX10_needLine 6 = .ok (.aload_n 0, 1) := by decide +kernel
theorem dX10_needLine_7 : decode cX10_needLine 7 = .ok (.iload_n 2, 1) := by decide +kernel
theorem dX10_needLine_8 : decode cX10_needLine 8 = .ok (.invokevirtual 156, 3) := by decide +kernel
theorem dX10_needLine_11 : decode cX10_needLine 11 = .ok (.iconst (-1), 1) := by decide +kernel
theorem dX10_needLine_12 : decode cX10_needLine 12 = .ok (.if_icmp .ne 12, 3) := by decide +kernel
theorem dX10_needLine_15 : decode cX10_needLine 15 = .ok (.aload_n 0, 1) := by decide +kernel
theorem dX10_needLine_16 : decode cX10_needLine 16 = .ok (.iconst 1, 1) := by decide +kernel
theorem dX10_needLine_17 : decode cX10_needLine 17 = .ok (.aload_n 0, 1) := by decide +kernel
theorem dX10_needLine_18 : decode cX10_needLine 18 = .ok (.getfield 140, 3) := by decide +kernel
theorem dX10_needLine_21 : decode cX10_needLine 21 = .ok (.invokevirtual 160, 3) := by decide +kernel
theorem dX10_needLine_24 : decode cX10_needLine 24 = .ok (.iload_n 2, 1) := by decide +kernel
theorem dX10_needLine_25 : decode cX10_needLine 25 = .ok (.ireturn, 1) := by decide +kernel
theorem dX10_readTable_0 : decode cX10_readTable 0 = .ok (.aload_n 0, 1) := by decide +kernel
theorem dX10_readTable_1 : decode cX10_readTable 1 = .ok (.getfield 60, 3) := by decide +kernel
theorem dX10_readTable_4 : decode cX10_readTable 4 = .ok (.iconst 2, 1) := by decide +kernel
theorem dX10_readTable_5 : decode cX10_readTable 5 = .ok (.iconst 0, 1) := by decide +kernel
theorem dX10_readTable_6 : decode cX10_readTable 6 = .ok (.iastore, 1) := by decide +kernel
theorem dX10_readTable_7 : decode cX10_readTable 7 = .ok (.aload_n 0, 1) := by decide +kernel
theorem dX10_readTable_8 : decode cX10_readTable 8 = .ok (.getfield 63, 3) := by decide +kernel
theorem dX10_readTable_11 : decode cX10_readTable 11 = .ok (.iconst 2, 1) := by decide +kernel
theorem dX10_readTable_12 : decode cX10_readTable 12 = .ok (.iconst 0, 1) := by decide +kernel
theorem dX10_readTable_13 : decode cX10_readTable 13 = .ok (.iastore, 1) := by decide +kernel
theorem dX10_readTable_14 : decode cX10_readTable 14 = .ok (.aload_n 0, 1) := by decide +kernel
theorem dX10_readTable_15 : decode cX10_readTable 15 = .ok (.iconst 0, 1) := by decide +kernel
theorem dX10_readTable_16 : decode cX10_readTable 16 = .ok (.invokevirtual 291, 3) := by decide +kernel
theorem dX10_readTable_19 : decode cX10_readTable 19 = .ok (.istore_n 1, 1) := by decide +kernel
theorem dX10_readTable_20 : decode cX10_readTable 20 = .ok (.aload_n 0, 1) := by decide +kernel
theorem dX10_readTable_21 : decode cX10_readTable 21 = .ok (.getfield 147, 3) := by decide +kernel
theorem dX10_readTable_24 : decode cX10_readTable 24 = .ok (.ifCond .ne 19, 3) := by decide +kernel
theorem dX10_readTable_27 : decode cX10_readTable 27 = .ok (.aload_n 0, 1) := by decide +kernel
theorem dX10_readTable_28 : decode cX10_readTable 28 = .ok (.iconst 0, 1) := by decide +kernel
theorem dX10_readTable_29 : decode cX10_readTable 29 = .ok (.iload_n 1, 1) := by decide +kernel
theorem dX10_readTable_30 : decode cX10_readTable 30 = .ok (.iconst 0, 1) := by decide +kernel
theorem dX10_readTable_31 : decode cX10_readTable 31 = .ok (.invokevirtual 241, 3) := by decide +kernel
theorem dX10_readTable_34 : decode cX10_readTable 34 = .ok (.ifCond .ne 9, 3) := by decide +kernel
theorem dX10_readTable_37 : decode cX10_readTable 37 = .ok (.aload_n 0, 1) := by decide +kernel
theorem dX10_readTable_38 : decode cX10_readTable 38 = .ok (.iconst 2, 1) := by decide +kernel
theorem dX10_readTable_39 : decode cX10_readTable 39 = .ok (.iconst 0, 1) := by decide +kernel
theorem dX10_readTable_40 : decode cX10_readTable 40 = .ok (.invokevirtual 160, 3) := by decide +kernel
theorem dX10_readTable_43 : decode cX10_readTable 43 = .ok (.iload_n 1, 1) := by decide +kernel
theorem dX10_readTable_44 : decode cX10_readTable 44 = .ok (.iconst 1, 1) := by decide +kernel
theorem dX10_readTable_45 : decode cX10_readTable 45 = .ok (.iadd, 1) := by decide +kernel
theorem dX10_readTable_46 : decode cX10_readTable 46 = .ok (.istore_n 2, 1) := by decide +kernel
theorem dX10_readTable_47 : decode cX10_readTable 47 = .ok (.iconst 0, 1) := by decide +kernel
theorem dX10_readTable_48 : decode cX10_readTable 48 = .ok (.istore_n 3, 1) := by decide +kernel
theorem dX10_readTable_49 : decode cX10_readTable 49 = .ok (.aload_n 0, 1) := by decide +kernel
theorem dX10_readTable_50 : decode cX10_readTable 50 = .ok (.getfield 147, 3) := by decide +kernel
theorem dX10_readTable_53 : decode cX10_readTable 53 = .ok (.ifCond .ne 74, 3) := by decide +kernel
theorem dX10_readTable_56 : decode cX10_readTable 56 = .ok (.iload_n 3, 1) := by decide +kernel
theorem dX10_readTable_57 : decode cX10_readTable 57 = .ok (.ifCond .ne 70, 3) := by decide +kernel
theorem dX10_readTable_60 : decode cX10_readTable 60 = .ok (.aload_n 0, 1) := by decide +kernel
theorem dX10_readTable_61 : decode cX10_readTable 61 = .ok (.iload_n 2, 1) := by decide +kernel
theorem dX10_readTable_62 : decode cX10_readTable 62 = .ok (.invokevirtual 291, 3) := by decide +kernel
theorem dX10_readTable_65 : decode cX10_readTable 65 = .ok (.istore_n 1, 1) := by decide +kernel
theorem dX10_readTable_66 : decode cX10_readTable 66 = .ok (.aload_n 0, 1) := by decide +kernel
theorem dX10_readTable_67 : decode cX10_readTable 67 = .ok (.iload_n 2, 1) := by decide +kernel
theorem dX10_readTable_68 : decode cX10_readTable 68 = .ok (.invokevirtual 156, 3) := by decide +kernel
theorem dX10_readTable_71 : decode cX10_readTable 71 = .ok (.bipush 35, 2) := by decide +kernel
theorem dX10_readTable_73 : decode cX10_readTable 73 = .ok (.if_icmp .ne 15, 3) := by decide +kernel
theorem dX10_readTable_76 : decode cX10_readTable 76 = .ok (.aload_n 0, 1) := by decide +kernel
theorem dX10_readTable_77 : decode cX10_readTable 77 = .ok (.iload_n 2, 1) := by decide +kernel
theorem dX10_readTable_78 : decode cX10_readTable 78 = .ok (.iconst 1, 1) := by decide +kernel
theorem dX10_readTable_79 : decode cX10_readTable 79 = .ok (.iadd, 1) := by decide +kernel
theorem dX10_readTable_80 : decode cX10_readTable 80 = .ok (.invokevirtual 156, 3) := by decide +kernel
theorem dX10_readTable_83 : decode cX10_readTable 83 = .ok (.bipush 35, 2) := by decide +kernel
theorem dX10_readTable_85 : decode cX10_readTable 85 = .ok (.if_icmp .eq 7, 3) := by decide +kernel
theorem dX10_readTable_88 : decode cX10_readTable 88 = .ok (.iconst 1, 1) := by decide +kernel
theorem dX10_readTable_89 : decode cX10_readTable 89 = .ok (.goto 4, 3) := by decide +kernel
theorem dX10_readTable_92 : decode cX10_readTable 92 = .ok (.iconst 0, 1) := by decide +kernel
theorem dX10_readTable_93 : decode cX10_readTable 93 = .ok (.istore_n 3, 1) := by decide +kernel
theorem dX10_readTable_94 : decode cX10_readTable 94 = .ok (.aload_n 0, 1) := by decide +kernel
theorem dX10_readTable_95 : decode cX10_readTable 95 = .ok (.getfield 147, 3) := by decide +kernel
theorem dX10_readTable_98 : decode cX10_readTable 98 = .ok (.ifCond .ne 22, 3) := by decide +kernel
theorem dX10_readTable_101 : decode cX10_readTable 101 = .ok (.iload_n 3, 1) := by decide +kernel
theorem dX10_readTable_102 : decode cX10_readTable 102 = .ok (.ifCond .eq 18, 3) := by decide +kernel
theorem dX10_readTable_105 : decode cX10_readTable 105 = .ok (.aload_n 0, 1) := by decide +kernel
theorem dX10_readTable_106 : decode cX10_readTable 106 = .ok (.iload_n 2, 1) := by decide +kernel
theorem dX10_readTable_107 : decode cX10_readTable 107 = .ok (.iload_n 1, 1) := by decide +kernel
theorem dX10_readTable_108 : decode cX10_readTable 108 = .ok (.invokevirtual 294, 3) := by decide +kernel
theorem dX10_readTable_111 : decode cX10_readTable 111 = .ok (.ifCond .ne 9, 3) := by decide +kernel
theorem dX10_readTable_114 : decode cX10_readTable 114 = .ok (.aload_n 0, 1) := by decide +kernel
theorem dX10_readTable_115 : decode cX10_readTable 115 = .ok (.iconst 2, 1) := by decide +kernel
theorem dX10_readTable_116 : decode cX10_readTable 116 = .ok (.iload_n 2, 1) := by decide +kernel
theorem dX10_readTable_117 : decode cX10_readTable 117 = .ok (.invokevirtual 160, 3) := by decide +kernel
theorem dX10_readTable_120 : decode cX10_readTable 120 = .ok (.iload_n 1, 1) := by decide +kernel
theorem dX10_readTable_121 : decode cX10_readTable 121 = .ok (.iconst 1, 1) := by decide +kernel
theorem dX10_readTable_122 : decode cX10_readTable 122 = .ok (.iadd, 1) := by decide +kernel
theorem dX10_readTable_123 : decode cX10_readTable 123 = .ok (.istore_n 2, 1) := by decide +kernel
theorem dX10_readTable_124 : decode cX10_readTable 124 = .ok (.goto (-75), 3) := by decide +kernel
theorem dX10_readTable_127 : decode cX10_readTable 127 = .ok (.aload_n 0, 1) := by decide +kernel
theorem dX10_readTable_128 : decode cX10_readTable 128 = .ok (.getfield 147, 3) := by decide +kernel
theorem dX10_readTable_131 : decode cX10_readTable 131 = .ok (.ifCond .ne 38, 3) := by decide +kernel
theorem dX10_readTable_134 : decode cX10_readTable 134 = .ok (.aload_n 0, 1) := by decide +kernel
theorem dX10_readTable_135 : decode cX10_readTable 135 = .ok (.iload_n 2, 1) := by decide +kernel
theorem dX10_readTable_136 : decode cX10_readTable 136 = .ok (.invokevirtual 156, 3) := by decide +kernel
theorem dX10_readTable_139 : decode cX10_readTable 139 = .ok (.iconst (-1), 1) := by decide +kernel
theorem dX10_readTable_140 : decode cX10_readTable 140 = .ok (.if_icmp .eq 29, 3) := by decide +kernel
theorem dX10_readTable_143 : decode cX10_readTable 143 = .ok (.aload_n 0, 1) := by decide +kernel
theorem dX10_readTable_144 : decode cX10_readTable 144 = .ok (.iload_n 2, 1) := by decide +kernel
theorem dX10_readTable_145 : decode cX10_readTable 145 = .ok (.invokevirtual 291, 3) := by decide +kernel
theorem dX10_readTable_148 : decode cX10_readTable 148 = .ok (.istore_n 1, 1) := by decide +kernel
theorem dX10_readTable_149 : decode cX10_readTable 149 = .ok (.aload_n 0, 1) := by decide +kernel
theorem dX10_readTable_150 : decode cX10_readTable 150 = .ok (.getfield 147, 3) := by decide +kernel
theorem dX10_readTable_153 : decode cX10_readTable 153 = .ok (.ifCond .ne 9, 3) := by decide +kernel
theorem dX10_readTable_156 : decode cX10_readTable 156 = .ok (.aload_n 0, 1) := by decide +kernel
theorem dX10_readTable_157 : decode cX10_readTable 157 = .ok (.iload_n 2, 1) := by decide +kernel
theorem dX10_readTable_158 : decode cX10_readTable 158 = .ok (.iload_n 1, 1) := by decide +kernel
theorem dX10_readTable_159 : decode cX10_readTable 159 = .ok (.invokevirtual 297, 3) := by decide +kernel
theorem dX10_readTable_162 : decode cX10_readTable 162 = .ok (.iload_n 1, 1) := by decide +kernel
theorem dX10_readTable_163 : decode cX10_readTable 163 = .ok (.iconst 1, 1) := by decide +kernel
theorem dX10_readTable_164 : decode cX10_readTable 164 = .ok (.iadd, 1) := by decide +kernel
theorem dX10_readTable_165 : decode cX10_readTable 165 = .ok (.istore_n 2, 1) := by decide +kernel
theorem dX10_readTable_166 : decode cX10_readTable 166 = .ok (.goto (-39), 3) := by decide +kernel
theorem dX10_readTable_169 : decode cX10_readTable 169 = .ok (.return_, 1) := by decide +kernel
theorem dX10_read_0 : decode cX10_read 0 = .ok (.aload_n 0, 1) := by decide +kernel
theorem dX10_read_1 : decode cX10_read 1 = .ok (.iload_n 1, 1) := by decide +kernel
theorem dX10_read_2 : decode cX10_read 2 = .ok (.iconst 0, 1) := by decide +kernel
theorem dX10_read_3 : decode cX10_read 3 = .ok (.iconst 1, 1) := by decide +kernel
theorem dX10_read_4 : decode cX10_read 4 = .ok (.invokestatic 136, 3) := by decide +kernel
theorem dX10_read_7 : decode cX10_read 7 = .ok (.invokevirtual 143, 3) := by decide +kernel
theorem dX10_read_10 : decode cX10_read 10 = .ok (.ifCond .ne 5, 3) := by decide +kernel
theorem dX10_read_13 : decode cX10_read 13 = .ok (.iconst 0, 1) := by decide +kernel
theorem dX10_read_14 : decode cX10_read 14 = .ok (.ireturn, 1) := by decide +kernel
theorem dX10_read_15 : decode cX10_read 15 = .ok (.aload_n 0, 1) := by decide +kernel
theorem dX10_read_16 : decode cX10_read 16 = .ok (.iconst 0, 1) := by decide +kernel
theorem dX10_read_17 : decode cX10_read 17 = .ok (.putfield 147, 3) := by decide +kernel
theorem dX10_read_20 : decode cX10_read 20 = .ok (.aload_n 0, 1) := by decide +kernel
theorem dX10_read_21 : decode cX10_read 21 = .ok (.invokevirtual 300, 3) := by decide +kernel
theorem dX10_read_24 : decode cX10_read 24 = .ok (.aload_n 0, 1) := by decide +kernel
theorem dX10_read_25 : decode cX10_read 25 = .ok (.iconst 0, 1) := by decide +kernel
theorem dX10_read_26 : decode cX10_read 26 = .ok (.putfield 140, 3) := by decide +kernel
theorem dX10_read_29 : decode cX10_read 29 = .ok (.aload_n 0, 1) := by decide +kernel
theorem dX10_read_30 : decode cX10_read 30 = .ok (.getfield 147, 3) := by decide +kernel
theorem dX10_read_33 : decode cX10_read 33 = .ok (.ifCond .eq 17, 3) := by decide +kernel
theorem dX10_read_36 : decode cX10_read 36 = .ok (.aload_n 0, 1) := by decide +kernel
theorem dX10_read_37 : decode cX10_read 37 = .ok (.aload_n 0, 1) := by decide +kernel
theorem dX10_read_38 : decode cX10_read 38 = .ok (.getfield 150, 3) := by decide +kernel
theorem dX10_read_41 : decode cX10_read 41 = .ok (.putfield 13, 3) := by decide +kernel
theorem dX10_read_44 : decode cX10_read 44 = .ok (.aload_n 0, 1) := by decide +kernel
theorem dX10_read_45 : decode cX10_read 45 = .ok (.getfield 147, 3) := by decide +kernel
theorem dX10_read_48 : decode cX10_read 48 = .ok (.ineg, 1) := by decide +kernel
theorem dX10_read_49 : decode cX10_read 49 = .ok (.ireturn, 1) := by decide +kernel
theorem dX10_read_50 : decode cX10_read 50 = .ok (.aload_n 0, 1) := by decide +kernel
theorem dX10_read_51 : decode cX10_read 51 = .ok (.iload_n 1, 1) := by decide +kernel
theorem dX10_read_52 : decode cX10_read 52 = .ok (.iconst 2, 1) := by decide +kernel
theorem dX10_read_53 : decode cX10_read 53 = .ok (.invokevirtual 303, 3) := by decide +kernel
theorem dX10_read_56 : decode cX10_read 56 = .ok (.aload_n 0, 1) := by decide +kernel
theorem dX10_read_57 : decode cX10_read 57 = .ok (.getfield 60, 3) := by decide +kernel
theorem dX10_read_60 : decode cX10_read 60 = .ok (.iload_n 1, 1) := by decide +kernel
theorem dX10_read_61 : decode cX10_read 61 = .ok (.iaload, 1) := by decide +kernel
theorem dX10_read_62 : decode cX10_read 62 = .ok (.ireturn, 1) := by decide +kernel
theorem dX10_place_0 : decode cX10_place 0 = .ok (.aload_n 0, 1) := by decide +kernel
theorem dX10_place_1 : decode cX10_place 1 = .ok (.iconst 0, 1) := by decide +kernel
theorem dX10_place_2 : decode cX10_place 2 = .ok (.putfield 133, 3) := by decide +kernel
theorem dX10_place_5 : decode cX10_place 5 = .ok (.aload_n 0, 1) := by decide +kernel
theorem dX10_place_6 : decode cX10_place 6 = .ok (.getfield 13, 3) := by decide +kernel
theorem dX10_place_9 : decode cX10_place 9 = .ok (.ireturn, 1) := by decide +kernel
theorem dX10_sequence_0 : decode cX10_sequence 0 = .ok (.aload_n 0, 1) := by decide +kernel
theorem dX10_sequence_1 : decode cX10_sequence 1 = .ok (.iload_n 1, 1) := by decide +kernel
theorem dX10_sequence_2 : decode cX10_sequence 2 = .ok (.iconst 0, 1) := by decide +kernel
theorem dX10_sequence_3 : decode cX10_sequence 3 = .ok (.aload_n 0, 1) := by decide +kernel
theorem dX10_sequence_4 : decode cX10_sequence 4 = .ok (.getfield 183, 3) := by decide +kernel
theorem dX10_sequence_7 : decode cX10_sequence 7 = .ok (.iconst 1, 1) := by decide +kernel
theorem dX10_sequence_8 : decode cX10_sequence 8 = .ok (.isub, 1) := by decide +kernel
theorem dX10_sequence_9 : decode cX10_sequence 9 = .ok (.invokestatic 136, 3) := by decide +kernel
theorem dX10_sequence_12 : decode cX10_sequence 12 = .ok (.ifCond .eq 16, 3) := by decide +kernel
theorem dX10_sequence_15 : decode cX10_sequence 15 = .ok (.iload_n 2, 1) := by decide +kernel
theorem dX10_sequence_16 : decode cX10_sequence 16 = .ok (.iconst 0, 1) := by decide +kernel
theorem dX10_sequence_17 : decode cX10_sequence 17 = .ok (.iconst 3, 1) := by decide +kernel
theorem dX10_sequence_18 : decode cX10_sequence 18 = .ok (.invokestatic 136, 3) := by decide +kernel
theorem dX10_sequence_21 : decode cX10_sequence 21 = .ok (.ifCond .eq 7, 3) := by decide +kernel
theorem dX10_sequence_24 : decode cX10_sequence 24 = .ok (.iconst 1, 1) := by decide +kernel
theorem dX10_sequence_25 : decode cX10_sequence 25 = .ok (.goto 4, 3) := by decide +kernel
theorem dX10_sequence_28 : decode cX10_sequence 28 = .ok (.iconst 0, 1) := by decide +kernel
theorem dX10_sequence_29 : decode cX10_sequence 29 = .ok (.invokevirtual 143, 3) := by decide +kernel
theorem dX10_sequence_32 : decode cX10_sequence 32 = .ok (.ifCond .ne 5, 3) := by decide +kernel
theorem dX10_sequence_35 : decode cX10_sequence 35 = .ok (.iconst 0, 1) := by decide +kernel
theorem dX10_sequence_36 : decode cX10_sequence 36 = .ok (.ireturn, 1) := by decide +kernel
theorem dX10_sequence_37 : decode cX10_sequence 37 = .ok (.iload_n 2, 1) := by decide +kernel
theorem dX10_sequence_38 : decode cX10_sequence 38 = .ok (.ifCond .ne 12, 3) := by decide +kernel
theorem dX10_sequence_41 : decode cX10_sequence 41 = .ok (.aload_n 0, 1) := by decide +kernel
theorem dX10_sequence_42 : decode cX10_sequence 42 = .ok (.getfield 30, 3) := by decide +kernel
theorem dX10_sequence_45 : decode cX10_sequence 45 = .ok (.iload_n 1, 1) := by decide +kernel
theorem dX10_sequence_46 : decode cX10_sequence 46 = .ok (.iaload, 1) := by decide +kernel
theorem dX10_sequence_47 : decode cX10_sequence 47 = .ok (.goto 37, 3) := by decide +kernel
theorem dX10_sequence_50 : decode cX10_sequence 50 = .ok (.iload_n 2, 1) := by decide +kernel
theorem dX10_sequence_51 : decode cX10_sequence 51 = .ok (.iconst 1, 1) := by decide +kernel
theorem dX10_sequence_52 : decode cX10_sequence 52 = .ok (.if_icmp .ne 12, 3) := by decide +kernel
theorem dX10_sequence_55 : decode cX10_sequence 55 = .ok (.aload_n 0, 1) := by decide +kernel
theorem dX10_sequence_56 : decode cX10_sequence 56 = .ok (.getfield 33, 3) := by decide +kernel
theorem dX10_sequence_59 : decode cX10_sequence 59 = .ok (.iload_n 1, 1) := by decide +kernel
theorem dX10_sequence_60 : decode cX10_sequence 60 = .ok (.iaload, 1) := by decide +kernel
theorem dX10_sequence_61 : decode cX10_sequence 61 = .ok (.goto 23, 3) := by decide +kernel
theorem dX10_sequence_64 : decode cX10_sequence 64 = .ok (.iload_n 2, 1) := by decide +kernel
theorem dX10_sequence_65 : decode cX10_sequence 65 = .ok (.iconst 2, 1) := by decide +kernel
theorem dX10_sequence_66 : decode cX10_sequence 66 = .ok (.if_icmp .ne 12, 3) := by decide +kernel
theorem dX10_sequence_69 : decode cX10_sequence 69 = .ok (.aload_n 0, 1) := by decide +kernel
theorem dX10_sequence_70 : decode cX10_sequence 70 = .ok (.getfield 36, 3) := by decide +kernel
theorem dX10_sequence_73 : decode cX10_sequence 73 = .ok (.iload_n 1, 1) := by decide +kernel
theorem dX10_sequence_74 : decode cX10_sequence 74 = .ok (.iaload, 1) := by decide +kernel
theorem dX10_sequence_75 : decode cX10_sequence 75 = .ok (.goto 9, 3) := by decide +kernel
theorem dX10_sequence_78 : decode cX10_sequence 78 = .ok (.aload_n 0, 1) := by decide +kernel
theorem dX10_sequence_79 : decode cX10_sequence 79 = .ok (.getfield 20, 3) := by decide +kernel
theorem dX10_sequence_82 : decode cX10_sequence 82 = .ok (.iload_n 1, 1) := by decide +kernel
theorem dX10_sequence_83 : decode cX10_sequence 83 = .ok (.iaload, 1) := by decide +kernel
theorem dX10_sequence_84 : decode cX10_sequence 84 = .ok (.ireturn, 1) := by decide +kernel
theorem dX10_letter_0 : decode cX10_letter 0 = .ok (.aload_n 0, 1) := by decide +kernel
theorem dX10_letter_1 : decode cX10_letter 1 = .ok (.iload_n 1, 1) := by decide +kernel
theorem dX10_letter_2 : decode cX10_letter 2 = .ok (.iconst 0, 1) := by decide +kernel
theorem dX10_letter_3 : decode cX10_letter 3 = .ok (.aload_n 0, 1) := by decide +kernel
theorem dX10_letter_4 : decode cX10_letter 4 = .ok (.getfield 183, 3) := by decide +kernel
theorem dX10_letter_7 : decode cX10_letter 7 = .ok (.iconst 1, 1) := by decide +kernel
theorem dX10_letter_8 : decode cX10_letter 8 = .ok (.isub, 1) := by decide +kernel
theorem dX10_letter_9 : decode cX10_letter 9 = .ok (.invokestatic 136, 3) := by decide +kernel
theorem dX10_letter_12 : decode cX10_letter 12 = .ok (.ifCond .eq 35, 3) := by decide +kernel
theorem dX10_letter_15 : decode cX10_letter 15 = .ok (.iload_n 2, 1) := by decide +kernel
theorem dX10_letter_16 : decode cX10_letter 16 = .ok (.ifCond .le 16, 3) := by decide +kernel
theorem dX10_letter_19 : decode cX10_letter 19 = .ok (.iload_n 2, 1) := by decide +kernel
theorem dX10_letter_20 : decode cX10_letter 20 = .ok (.aload_n 0, 1) := by decide +kernel
theorem dX10_letter_21 : decode cX10_letter 21 = .ok (.getfield 30, 3) := by decide +kernel
theorem dX10_letter_24 : decode cX10_letter 24 = .ok (.iload_n 1, 1) := by decide +kernel
theorem dX10_letter_25 : decode cX10_letter 25 = .ok (.iaload, 1) := by decide +kernel
theorem dX10_letter_26 : decode cX10_letter 26 = .ok (.if_icmp .gt 21, 3) := by decide +kernel
theorem dX10_letter_29 : decode cX10_letter 29 = .ok (.goto 14, 3) := by decide +kernel
theorem dX10_letter_32 : decode cX10_letter 32 = .ok (.iload_n 2, 1) := by decide +kernel
theorem dX10_letter_33 : decode cX10_letter 33 = .ok (.aload_n 0, 1) := by decide +kernel
theorem dX10_letter_34 : decode cX10_letter 34 = .ok (.getfield 20, 3) := by decide +kernel
theorem dX10_letter_37 : decode cX10_letter 37 = .ok (.iload_n 1, 1) := by decide +kernel
theorem dX10_letter_38 : decode cX10_letter 38 = .ok (.iaload, 1) := by decide +kernel
theorem dX10_letter_39 : decode cX10_letter 39 = .ok (.ineg, 1) := by decide +kernel
theorem dX10_letter_40 : decode cX10_letter 40 = .ok (.if_icmp .le 7, 3) := by decide +kernel
theorem dX10_letter_43 : decode cX10_letter 43 = .ok (.iconst 1, 1) := by decide +kernel
theorem dX10_letter_44 : decode cX10_letter 44 = .ok (.goto 4, 3) := by decide +kernel
theorem dX10_letter_47 : decode cX10_letter 47 = .ok (.iconst 0, 1) := by decide +kernel
theorem dX10_letter_48 : decode cX10_letter 48 = .ok (.invokevirtual 143, 3) := by decide +kernel
theorem dX10_letter_51 : decode cX10_letter 51 = .ok (.ifCond .ne 5, 3) := by decide +kernel
theorem dX10_letter_54 : decode cX10_letter 54 = .ok (.iconst 0, 1) := by decide +kernel
theorem dX10_letter_55 : decode cX10_letter 55 = .ok (.ireturn, 1) := by decide +kernel
theorem dX10_letter_56 : decode cX10_letter 56 = .ok (.iload_n 2, 1) := by decide +kernel
theorem dX10_letter_57 : decode cX10_letter 57 = .ok (.ifCond .le 12, 3) := by decide +kernel
theorem dX10_letter_60 : decode cX10_letter 60 = .ok (.aload_n 0, 1) := by decide +kernel
theorem dX10_letter_61 : decode cX10_letter 61 = .ok (.iload_n 1, 1) := by decide +kernel
theorem dX10_letter_62 : decode cX10_letter 62 = .ok (.iload_n 2, 1) := by decide +kernel
theorem dX10_letter_63 : decode cX10_letter 63 = .ok (.invokevirtual 255, 3) := by decide +kernel
theorem dX10_letter_66 : decode cX10_letter 66 = .ok (.goto 14, 3) := by decide +kernel
theorem dX10_letter_69 : decode cX10_letter 69 = .ok (.aload_n 0, 1) := by decide +kernel
theorem dX10_letter_70 : decode cX10_letter 70 = .ok (.getfield 17, 3) := by decide +kernel
theorem dX10_letter_73 : decode cX10_letter 73 = .ok (.bipush 20, 2) := by decide +kernel
theorem dX10_letter_75 : decode cX10_letter 75 = .ok (.iload_n 1, 1) := by decide +kernel
theorem dX10_letter_76 : decode cX10_letter 76 = .ok (.imul, 1) := by decide +kernel
theorem dX10_letter_77 : decode cX10_letter 77 = .ok (.iload_n 2, 1) := by decide +kernel
theorem dX10_letter_78 : decode cX10_letter 78 = .ok (.isub, 1) := by decide +kernel
theorem dX10_letter_79 : decode cX10_letter 79 = .ok (.baload, 1) := by decide +kernel
theorem dX10_letter_80 : decode cX10_letter 80 = .ok (.ireturn, 1) := by decide +kernel
theorem dX10_table_0 : decode cX10_table 0 = .ok (.aload_n 0, 1) := by decide +kernel
theorem dX10_table_1 : decode cX10_table 1 = .ok (.iload_n 1, 1) := by decide +kernel
theorem dX10_table_2 : decode cX10_table 2 = .ok (.iconst 0, 1) := by decide +kernel
theorem dX10_table_3 : decode cX10_table 3 = .ok (.iconst 1, 1) := by decide +kernel
theorem dX10_table_4 : decode cX10_table 4 = .ok (.invokestatic 136, 3) := by decide +kernel
theorem dX10_table_7 : decode cX10_table 7 = .ok (.ifCond .eq 16, 3) := by decide +kernel
theorem dX10_table_10 : decode cX10_table 10 = .ok (.iload_n 2, 1) := by decide +kernel
theorem dX10_table_11 : decode cX10_table 11 = .ok (.iconst 0, 1) := by decide +kernel
theorem dX10_table_12 : decode cX10_table 12 = .ok (.iconst 4, 1) := by decide +kernel
theorem dX10_table_13 : decode cX10_table 13 = .ok (.invokestatic 136, 3) := by decide +kernel
theorem dX10_table_16 : decode cX10_table 16 = .ok (.ifCond .eq 7, 3) := by decide +kernel
theorem dX10_table_19 : decode cX10_table 19 = .ok (.iconst 1, 1) := by decide +kernel
theorem dX10_table_20 : decode cX10_table 20 = .ok (.goto 4, 3) := by decide +kernel
theorem dX10_table_23 : decode cX10_table 23 = .ok (.iconst 0, 1) := by decide +kernel
theorem dX10_table_24 : decode cX10_table 24 = .ok (.invokevirtual 143, 3) := by decide +kernel
theorem dX10_table_27 : decode cX10_table 27 = .ok (.ifCond .ne 5, 3) := by decide +kernel
theorem dX10_table_30 : decode cX10_table 30 = .ok (.iconst 0, 1) := by decide +kernel
theorem dX10_table_31 : decode cX10_table 31 = .ok (.ireturn, 1) := by decide +kernel
theorem dX10_table_32 : decode cX10_table 32 = .ok (.iload_n 2, 1) := by decide +kernel
theorem dX10_table_33 : decode cX10_table 33 = .ok (.ifCond .ne 12, 3) := by decide +kernel
theorem dX10_table_36 : decode cX10_table 36 = .ok (.aload_n 0, 1) := by decide +kernel
theorem dX10_table_37 : decode cX10_table 37 = .ok (.getfield 60, 3) := by decide +kernel
theorem dX10_table_40 : decode cX10_table 40 = .ok (.iload_n 1, 1) := by decide +kernel
theorem dX10_table_41 : decode cX10_table 41 = .ok (.iaload, 1) := by decide +kernel
theorem dX10_table_42 : decode cX10_table 42 = .ok (.goto 45, 3) := by decide +kernel
theorem dX10_table_45 : decode cX10_table 45 = .ok (.iload_n 2, 1) := by decide +kernel
theorem dX10_table_46 : decode cX10_table 46 = .ok (.iconst 1, 1) := by decide +kernel
theorem dX10_table_47 : decode cX10_table 47 = .ok (.if_icmp .ne 12, 3) := by decide +kernel
theorem dX10_table_50 : decode cX10_table 50 = .ok (.aload_n 0, 1) := by decide +kernel
theorem dX10_table_51 : decode cX10_table 51 = .ok (.getfield 63, 3) := by decide +kernel
theorem dX10_table_54 : decode cX10_table 54 = .ok (.iload_n 1, 1) := by decide +kernel
theorem dX10_table_55 : decode cX10_table 55 = .ok (.iaload, 1) := by decide +kernel
theorem dX10_table_56 : decode cX10_table 56 = .ok (.goto 31, 3) := by decide +kernel
theorem dX10_table_59 : decode cX10_table 59 = .ok (.iload_n 2, 1) := by decide +kernel
theorem dX10_table_60 : decode cX10_table 60 = .ok (.iconst 2, 1) := by decide +kernel
theorem dX10_table_61 : decode cX10_table 61 = .ok (.isub, 1) := by decide +kernel
theorem dX10_table_62 : decode cX10_table 62 = .ok (.aload_n 0, 1) := by decide +kernel
theorem dX10_table_63 : decode cX10_table 63 = .ok (.getfield 63, 3) := by decide +kernel
theorem dX10_table_66 : decode cX10_table 66 = .ok (.iload_n 1, 1) := by decide +kernel
theorem dX10_table_67 : decode cX10_table 67 = .ok (.iaload, 1) := by decide +kernel
theorem dX10_table_68 : decode cX10_table 68 = .ok (.if_icmp .ge 18, 3) := by decide +kernel
theorem dX10_table_71 : decode cX10_table 71 = .ok (.aload_n 0, 1) := by decide +kernel
theorem dX10_table_72 : decode cX10_table 72 = .ok (.getfield 69, 3) := by decide +kernel
theorem dX10_table_75 : decode cX10_table 75 = .ok (.iconst 3, 1) := by decide +kernel
theorem dX10_table_76 : decode cX10_table 76 = .ok (.iload_n 1, 1) := by decide +kernel
theorem dX10_table_77 : decode cX10_table 77 = .ok (.imul, 1) := by decide +kernel
theorem dX10_table_78 : decode cX10_table 78 = .ok (.iload_n 2, 1) := by decide +kernel
theorem dX10_table_79 : decode cX10_table 79 = .ok (.iadd, 1) := by decide +kernel
theorem dX10_table_80 : decode cX10_table 80 = .ok (.iconst 2, 1) := by decide +kernel
theorem dX10_table_81 : decode cX10_table 81 = .ok (.isub, 1) := by decide +kernel
theorem dX10_table_82 : decode cX10_table 82 = .ok (.iaload, 1) := by decide +kernel
theorem dX10_table_83 : decode cX10_table 83 = .ok (.goto 4, 3) := by decide +kernel
theorem dX10_table_86 : decode cX10_table 86 = .ok (.iconst (-1), 1) := by decide +kernel
theorem dX10_table_87 : decode cX10_table 87 = .ok (.ireturn, 1) := by decide +kernel
theorem dX10_isRecord_0 : decode cX10_isRecord 0 = .ok (.iload_n 1, 1) := by decide +kernel
theorem dX10_isRecord_1 : decode cX10_isRecord 1 = .ok (.iconst 0, 1) := by decide +kernel
theorem dX10_isRecord_2 : decode cX10_isRecord 2 = .ok (.iconst 1, 1) := by decide +kernel
theorem dX10_isRecord_3 : decode cX10_isRecord 3 = .ok (.invokestatic 136, 3) := by decide +kernel
theorem dX10_isRecord_6 : decode cX10_isRecord 6 = .ok (.ifCond .eq 23, 3) := by decide +kernel
theorem dX10_isRecord_9 : decode cX10_isRecord 9 = .ok (.iload_n 2, 1) := by decide +kernel
theorem dX10_isRecord_10 : decode cX10_isRecord 10 = .ok (.iconst 0, 1) := by decide +kernel
theorem dX10_isRecord_11 : decode cX10_isRecord 11 = .ok (.aload_n 0, 1) := by decide +kernel
theorem dX10_isRecord_12 : decode cX10_isRecord 12 = .ok (.getfield 60, 3) := by decide +kernel
theorem dX10_isRecord_15 : decode cX10_isRecord 15 = .ok (.iload_n 1, 1) := by decide +kernel
theorem dX10_isRecord_16 : decode cX10_isRecord 16 = .ok (.iaload, 1) := by decide +kernel
theorem dX10_isRecord_17 : decode cX10_isRecord 17 = .ok (.iconst 1, 1) := by decide +kernel
theorem dX10_isRecord_18 : decode cX10_isRecord 18 = .ok (.isub, 1) := by decide +kernel
theorem dX10_isRecord_19 : decode cX10_isRecord 19 = .ok (.invokestatic 136, 3) := by decide +kernel
theorem dX10_isRecord_22 : decode cX10_isRecord 22 = .ok (.ifCond .eq 7, 3) := by decide +kernel
theorem dX10_isRecord_25 : decode cX10_isRecord 25 = .ok (.iconst 1, 1) := by decide +kernel
theorem dX10_isRecord_26 : decode cX10_isRecord 26 = .ok (.goto 4, 3) := by decide +kernel
theorem dX10_isRecord_29 : decode cX10_isRecord 29 = .ok (.iconst 0, 1) := by decide +kernel
theorem dX10_isRecord_30 : decode cX10_isRecord 30 = .ok (.ireturn, 1) := by decide +kernel
theorem dX10_record_0 : decode cX10_record 0 = .ok (.aload_n 0, 1) := by decide +kernel
theorem dX10_record_1 : decode cX10_record 1 = .ok (.aload_n 0, 1) := by decide +kernel
theorem dX10_record_2 : decode cX10_record 2 = .ok (.iload_n 1, 1) := by decide +kernel
theorem dX10_record_3 : decode cX10_record 3 = .ok (.iload_n 2, 1) := by decide +kernel
theorem dX10_record_4 : decode cX10_record 4 = .ok (.invokevirtual 306, 3) := by decide +kernel
theorem dX10_record_7 : decode cX10_record 7 = .ok (.ifCond .eq 16, 3) := by decide +kernel
theorem dX10_record_10 : decode cX10_record 10 = .ok (.iload_n 3, 1) := by decide +kernel
theorem dX10_record_11 : decode cX10_record 11 = .ok (.iconst 0, 1) := by decide +kernel
theorem dX10_record_12 : decode cX10_record 12 = .ok (.iconst 5, 1) := by decide +kernel
theorem dX10_record_13 : decode cX10_record 13 = .ok (.invokestatic 136, 3) := by decide +kernel
theorem dX10_record_16 : decode cX10_record 16 = .ok (.ifCond .eq 7, 3) := by decide +kernel
theorem dX10_record_19 : decode cX10_record 19 = .ok (.iconst 1, 1) := by decide +kernel
theorem dX10_record_20 : decode cX10_record 20 = .ok (.goto 4, 3) := by decide +kernel
theorem dX10_record_23 : decode cX10_record 23 = .ok (.iconst 0, 1) := by decide +kernel
theorem dX10_record_24 : decode cX10_record 24 = .ok (.invokevirtual 143, 3) := by decide +kernel
theorem dX10_record_27 : decode cX10_record 27 = .ok (.ifCond .ne 5, 3) := by decide +kernel
theorem dX10_record_30 : decode cX10_record 30 = .ok (.iconst 0, 1) := by decide +kernel
theorem dX10_record_31 : decode cX10_record 31 = .ok (.ireturn, 1) := by decide +kernel
theorem dX10_record_32 : decode cX10_record 32 = .ok (.bipush 60, 2) := by decide +kernel
theorem dX10_record_34 : decode cX10_record 34 = .ok (.iload_n 1, 1) := by decide +kernel
theorem dX10_record_35 : decode cX10_record 35 = .ok (.imul, 1) := by decide +kernel
theorem dX10_record_36 : decode cX10_record 36 = .ok (.iload_n 2, 1) := by decide +kernel
theorem dX10_record_37 : decode cX10_record 37 = .ok (.iadd, 1) := by decide +kernel
theorem dX10_record_38 : decode cX10_record 38 = .ok (.istore 4, 2) := by decide +kernel
theorem dX10_record_40 : decode cX10_record 40 = .ok (.iload_n 3, 1) := by decide +kernel
theorem dX10_record_41 : decode cX10_record 41 = .ok (.tableswitch 83 0 4 #[35, 43, 51, 59, 67], 35) := by decide +kernel
theorem dX10_record_76 : decode cX10_record 76 = .ok (.aload_n 0, 1) := by decide +kernel
theorem dX10_record_77 : decode cX10_record 77 = .ok (.getfield 72, 3) := by decide +kernel
theorem dX10_record_80 : decode cX10_record 80 = .ok (.iload 4, 2) := by decide +kernel
theorem dX10_record_82 : decode cX10_record 82 = .ok (.iaload, 1) := by decide +kernel
theorem dX10_record_83 : decode cX10_record 83 = .ok (.ireturn, 1) := by decide +kernel
theorem dX10_record_84 : decode cX10_record 84 = .ok (.aload_n 0, 1) := by decide +kernel
theorem dX10_record_85 : decode cX10_record 85 = .ok (.getfield 75, 3) := by decide +kernel
theorem dX10_record_88 : decode cX10_record 88 = .ok (.iload 4, 2) := by decide +kernel
theorem dX10_record_90 : decode cX10_record 90 = .ok (.iaload, 1) := by decide +kernel
theorem dX10_record_91 : decode cX10_record 91 = .ok (.ireturn, 1) := by decide +kernel
theorem dX10_record_92 : decode cX10_record 92 = .ok (.aload_n 0, 1) := by decide +kernel
theorem dX10_record_93 : decode cX10_record 93 = .ok (.getfield 84, 3) := by decide +kernel
theorem dX10_record_96 : decode cX10_record 96 = .ok (.iload 4, 2) := by decide +kernel
theorem dX10_record_98 : decode cX10_record 98 = .ok (.iaload, 1) := by decide +kernel
theorem dX10_record_99 : decode cX10_record 99 = .ok (.ireturn, 1) := by decide +kernel
theorem dX10_record_100 : decode cX10_record 100 = .ok (.aload_n 0, 1) := by decide +kernel
theorem dX10_record_101 : decode cX10_record 101 = .ok (.getfield 93, 3) := by decide +kernel
theorem dX10_record_104 : decode cX10_record 104 = .ok (.iload 4, 2) := by decide +kernel
theorem dX10_record_106 : decode cX10_record 106 = .ok (.iaload, 1) := by decide +kernel
theorem dX10_record_107 : decode cX10_record 107 = .ok (.ireturn, 1) := by decide +kernel
theorem dX10_record_108 : decode cX10_record 108 = .ok (.aload_n 0, 1) := by decide +kernel
theorem dX10_record_109 : decode cX10_record 109 = .ok (.getfield 96, 3) := by decide +kernel
theorem dX10_record_112 : decode cX10_record 112 = .ok (.iload 4, 2) := by decide +kernel
theorem dX10_record_114 : decode cX10_record 114 = .ok (.baload, 1) := by decide +kernel
theorem dX10_record_115 : decode cX10_record 115 = .ok (.ifCond .eq 7, 3) := by decide +kernel
theorem dX10_record_118 : decode cX10_record 118 = .ok (.iconst 1, 1) := by decide +kernel
theorem dX10_record_119 : decode cX10_record 119 = .ok (.goto 4, 3) := by decide +kernel
theorem dX10_record_122 : decode cX10_record 122 = .ok (.iconst 0, 1) := by decide +kernel
theorem dX10_record_123 : decode cX10_record 123 = .ok (.ireturn, 1) := by decide +kernel
theorem dX10_record_124 : decode cX10_record 124 = .ok (.aload_n 0, 1) := by decide +kernel
theorem dX10_record_125 : decode cX10_record 125 = .ok (.getfield 81, 3) := by decide +kernel
theorem dX10_record_128 : decode cX10_record 128 = .ok (.iload 4, 2) := by decide +kernel
theorem dX10_record_130 : decode cX10_record 130 = .ok (.iaload, 1) := by decide +kernel
theorem dX10_record_131 : decode cX10_record 131 = .ok (.ireturn, 1) := by decide +kernel
theorem dX10_row_0 : decode cX10_row 0 = .ok (.aload_n 0, 1) := by decide +kernel
theorem dX10_row_1 : decode cX10_row 1 = .ok (.aload_n 0, 1) := by decide +kernel
theorem dX10_row_2 : decode cX10_row 2 = .ok (.iload_n 1, 1) := by decide +kernel
theorem dX10_row_3 : decode cX10_row 3 = .ok (.iload_n 2, 1) := by decide +kernel
theorem dX10_row_4 : decode cX10_row 4 = .ok (.invokevirtual 306, 3) := by decide +kernel
theorem dX10_row_7 : decode cX10_row 7 = .ok (.ifCond .eq 26, 3) := by decide +kernel
theorem dX10_row_10 : decode cX10_row 10 = .ok (.iload_n 3, 1) := by decide +kernel
theorem dX10_row_11 : decode cX10_row 11 = .ok (.iconst 0, 1) := by decide +kernel
theorem dX10_row_12 : decode cX10_row 12 = .ok (.aload_n 0, 1) := by decide +kernel
theorem dX10_row_13 : decode cX10_row 13 = .ok (.getfield 84, 3) := by decide +kernel
theorem dX10_row_16 : decode cX10_row 16 = .ok (.bipush 60, 2) := by decide +kernel
theorem dX10_row_18 : decode cX10_row 18 = .ok (.iload_n 1, 1) := by decide +kernel
theorem dX10_row_19 : decode cX10_row 19 = .ok (.imul, 1) := by decide +kernel
theorem dX10_row_20 : decode cX10_row 20 = .ok (.iload_n 2, 1) := by decide +kernel
theorem dX10_row_21 : decode cX10_row 21 = .ok (.iadd, 1) := by decide +kernel
theorem dX10_row_22 : decode cX10_row 22 = .ok (.iaload, 1) := by decide +kernel
theorem dX10_row_23 : decode cX10_row 23 = .ok (.invokestatic 136, 3) := by decide +kernel
theorem dX10_row_26 : decode cX10_row 26 = .ok (.ifCond .eq 7, 3) := by decide +kernel
theorem dX10_row_29 : decode cX10_row 29 = .ok (.iconst 1, 1) := by decide +kernel
theorem dX10_row_30 : decode cX10_row 30 = .ok (.goto 4, 3) := by decide +kernel
theorem dX10_row_33 : decode cX10_row 33 = .ok (.iconst 0, 1) := by decide +kernel
theorem dX10_row_34 : decode cX10_row 34 = .ok (.invokevirtual 143, 3) := by decide +kernel
theorem dX10_row_37 : decode cX10_row 37 = .ok (.ifCond .ne 5, 3) := by decide +kernel
theorem dX10_row_40 : decode cX10_row 40 = .ok (.iconst 0, 1) := by decide +kernel
theorem dX10_row_41 : decode cX10_row 41 = .ok (.ireturn, 1) := by decide +kernel
theorem dX10_row_42 : decode cX10_row 42 = .ok (.iconst 4, 1) := by decide +kernel
theorem dX10_row_43 : decode cX10_row 43 = .ok (.bipush 60, 2) := by decide +kernel
theorem dX10_row_45 : decode cX10_row 45 = .ok (.iload_n 1, 1) := by decide +kernel
theorem dX10_row_46 : decode cX10_row 46 = .ok (.imul, 1) := by decide +kernel
theorem dX10_row_47 : decode cX10_row 47 = .ok (.iload_n 2, 1) := by decide +kernel
theorem dX10_row_48 : decode cX10_row 48 = .ok (.iadd, 1) := by decide +kernel
theorem dX10_row_49 : decode cX10_row 49 = .ok (.imul, 1) := by decide +kernel
theorem dX10_row_50 : decode cX10_row 50 = .ok (.iload_n 3, 1) := by decide +kernel
theorem dX10_row_51 : decode cX10_row 51 = .ok (.iadd, 1) := by decide +kernel
theorem dX10_row_52 : decode cX10_row 52 = .ok (.istore 5, 2) := by decide +kernel
theorem dX10_row_54 : decode cX10_row 54 = .ok (.iload 4, 2) := by decide +kernel
theorem dX10_row_56 : decode cX10_row 56 = .ok (.iconst (-1), 1) := by decide +kernel
theorem dX10_row_57 : decode cX10_row 57 = .ok (.if_icmp .ne 13, 3) := by decide +kernel
theorem dX10_row_60 : decode cX10_row 60 = .ok (.aload_n 0, 1) := by decide +kernel
theorem dX10_row_61 : decode cX10_row 61 = .ok (.getfield 90, 3) := by decide +kernel
theorem dX10_row_64 : decode cX10_row 64 = .ok (.iload 5, 2) := by decide +kernel
theorem dX10_row_66 : decode cX10_row 66 = .ok (.iaload, 1) := by decide +kernel
theorem dX10_row_67 : decode cX10_row 67 = .ok (.goto 38, 3) := by decide +kernel
theorem dX10_row_70 : decode cX10_row 70 = .ok (.iload 4, 2) := by decide +kernel
theorem dX10_row_72 : decode cX10_row 72 = .ok (.iconst 0, 1) := by decide +kernel
theorem dX10_row_73 : decode cX10_row 73 = .ok (.aload_n 0, 1) := by decide +kernel
theorem dX10_row_74 : decode cX10_row 74 = .ok (.getfield 90, 3) := by decide +kernel
theorem dX10_row_77 : decode cX10_row 77 = .ok (.iload 5, 2) := by decide +kernel
theorem dX10_row_79 : decode cX10_row 79 = .ok (.iaload, 1) := by decide +kernel
theorem dX10_row_80 : decode cX10_row 80 = .ok (.iconst 1, 1) := by decide +kernel
theorem dX10_row_81 : decode cX10_row 81 = .ok (.isub, 1) := by decide +kernel
theorem dX10_row_82 : decode cX10_row 82 = .ok (.invokestatic 136, 3) := by decide +kernel
theorem dX10_row_85 : decode cX10_row 85 = .ok (.ifCond .eq 19, 3) := by decide +kernel
theorem dX10_row_88 : decode cX10_row 88 = .ok (.aload_n 0, 1) := by decide +kernel
theorem dX10_row_89 : decode cX10_row 89 = .ok (.getfield 87, 3) := by decide +kernel
theorem dX10_row_92 : decode cX10_row 92 = .ok (.bipush 26, 2) := by decide +kernel
theorem dX10_row_94 : decode cX10_row 94 = .ok (.iload 5, 2) := by decide +kernel
theorem dX10_row_96 : decode cX10_row 96 = .ok (.imul, 1) := by decide +kernel
theorem dX10_row_97 : decode cX10_row 97 = .ok (.iload 4, 2) := by decide +kernel
theorem dX10_row_99 : decode cX10_row 99 = .ok (.iadd, 1) := by decide +kernel
theorem dX10_row_100 : decode cX10_row 100 = .ok (.baload, 1) := by decide +kernel
theorem dX10_row_101 : decode cX10_row 101 = .ok (.goto 4, 3) := by decide +kernel
theorem dX10_row_104 : decode cX10_row 104 = .ok (.iconst (-1), 1) := by decide +kernel
theorem dX10_row_105 : decode cX10_row 105 = .ok (.ireturn, 1) := by decide +kernel
theorem dX10_call_0 : decode cX10_call 0 = .ok (.aload_n 0, 1) := by decide +kernel
theorem dX10_call_1 : decode cX10_call 1 = .ok (.aload_n 0, 1) := by decide +kernel
theorem dX10_call_2 : decode cX10_call 2 = .ok (.iload_n 1, 1) := by decide +kernel
theorem dX10_call_3 : decode cX10_call 3 = .ok (.iload_n 2, 1) := by decide +kernel
theorem dX10_call_4 : decode cX10_call 4 = .ok (.invokevirtual 306, 3) := by decide +kernel
theorem dX10_call_7 : decode cX10_call 7 = .ok (.ifCond .eq 33, 3) := by decide +kernel
theorem dX10_call_10 : decode cX10_call 10 = .ok (.iload_n 3, 1) := by decide +kernel
theorem dX10_call_11 : decode cX10_call 11 = .ok (.iconst 0, 1) := by decide +kernel
theorem dX10_call_12 : decode cX10_call 12 = .ok (.aload_n 0, 1) := by decide +kernel
theorem dX10_call_13 : decode cX10_call 13 = .ok (.getfield 63, 3) := by decide +kernel
theorem dX10_call_16 : decode cX10_call 16 = .ok (.iload_n 1, 1) := by decide +kernel
theorem dX10_call_17 : decode cX10_call 17 = .ok (.iaload, 1) := by decide +kernel
theorem dX10_call_18 : decode cX10_call 18 = .ok (.iconst 1, 1) := by decide +kernel
theorem dX10_call_19 : decode cX10_call 19 = .ok (.isub, 1) := by decide +kernel
theorem dX10_call_20 : decode cX10_call 20 = .ok (.invokestatic 136, 3) := by decide +kernel
theorem dX10_call_23 : decode cX10_call 23 = .ok (.ifCond .eq 17, 3) := by decide +kernel
theorem dX10_call_26 : decode cX10_call 26 = .ok (.iload 4, 2) := by decide +kernel
theorem dX10_call_28 : decode cX10_call 28 = .ok (.iconst 0, 1) := by decide +kernel
theorem dX10_call_29 : decode cX10_call 29 = .ok (.iconst 3, 1) := by decide +kernel
theorem dX10_call_30 : decode cX10_call 30 = .ok (.invokestatic 136, 3) := by decide +kernel
theorem dX10_call_33 : decode cX10_call 33 = .ok (.ifCond .eq 7, 3) := by decide +kernel
theorem dX10_call_36 : decode cX10_call 36 = .ok (.iconst 1, 1) := by decide +kernel
theorem dX10_call_37 : decode cX10_call 37 = .ok (.goto 4, 3) := by decide +kernel
theorem dX10_call_40 : decode cX10_call 40 = .ok (.iconst 0, 1) := by decide +kernel
theorem dX10_call_41 : decode cX10_call 41 = .ok (.invokevirtual 143, 3) := by decide +kernel
theorem dX10_call_44 : decode cX10_call 44 = .ok (.ifCond .ne 5, 3) := by decide +kernel
theorem dX10_call_47 : decode cX10_call 47 = .ok (.iconst 0, 1) := by decide +kernel
theorem dX10_call_48 : decode cX10_call 48 = .ok (.ireturn, 1) := by decide +kernel
theorem dX10_call_49 : decode cX10_call 49 = .ok (.iconst 3, 1) := by decide +kernel
theorem dX10_call_50 : decode cX10_call 50 = .ok (.bipush 60, 2) := by decide +kernel
theorem dX10_call_52 : decode cX10_call 52 = .ok (.iload_n 1, 1) := by decide +kernel
theorem dX10_call_53 : decode cX10_call 53 = .ok (.imul, 1) := by decide +kernel
theorem dX10_call_54 : decode cX10_call 54 = .ok (.iload_n 2, 1) := by decide +kernel
theorem dX10_call_55 : decode cX10_call 55 = .ok (.iadd, 1) := by decide +kernel
theorem dX10_call_56 : decode cX10_call 56 = .ok (.imul, 1) := by decide +kernel
theorem dX10_call_57 : decode cX10_call 57 = .ok (.iload_n 3, 1) := by decide +kernel
theorem dX10_call_58 : decode cX10_call 58 = .ok (.iadd, 1) := by decide +kernel
theorem dX10_call_59 : decode cX10_call 59 = .ok (.istore 5, 2) := by decide +kernel
theorem dX10_call_61 : decode cX10_call 61 = .ok (.iload 4, 2) := by decide +kernel
theorem dX10_call_63 : decode cX10_call 63 = .ok (.iconst 2, 1) := by decide +kernel
theorem dX10_call_64 : decode cX10_call 64 = .ok (.if_icmp .ne 13, 3) := by decide +kernel
theorem dX10_call_67 : decode cX10_call 67 = .ok (.aload_n 0, 1) := by decide +kernel
theorem dX10_call_68 : decode cX10_call 68 = .ok (.getfield 103, 3) := by decide +kernel
theorem dX10_call_71 : decode cX10_call 71 = .ok (.iload 5, 2) := by decide +kernel
theorem dX10_call_73 : decode cX10_call 73 = .ok (.iaload, 1) := by decide +kernel
theorem dX10_call_74 : decode cX10_call 74 = .ok (.goto 55, 3) := by decide +kernel
theorem dX10_call_77 : decode cX10_call 77 = .ok (.iload 4, 2) := by decide +kernel
theorem dX10_call_79 : decode cX10_call 79 = .ok (.iconst 3, 1) := by decide +kernel
theorem dX10_call_80 : decode cX10_call 80 = .ok (.if_icmp .ne 21, 3) := by decide +kernel
theorem dX10_call_83 : decode cX10_call 83 = .ok (.aload_n 0, 1) := by decide +kernel
theorem dX10_call_84 : decode cX10_call 84 = .ok (.getfield 106, 3) := by decide +kernel
theorem dX10_call_87 : decode cX10_call 87 = .ok (.iload 5, 2) := by decide +kernel
theorem dX10_call_89 : decode cX10_call 89 = .ok (.baload, 1) := by decide +kernel
theorem dX10_call_90 : decode cX10_call 90 = .ok (.ifCond .eq 7, 3) := by decide +kernel
theorem dX10_call_93 : decode cX10_call 93 = .ok (.iconst 1, 1) := by decide +kernel
theorem dX10_call_94 : decode cX10_call 94 = .ok (.goto 35, 3) := by decide +kernel
theorem dX10_call_97 : decode cX10_call 97 = .ok (.iconst 0, 1) := by decide +kernel
theorem dX10_call_98 : decode cX10_call 98 = .ok (.goto 31, 3) := by decide +kernel
theorem dX10_call_101 : decode cX10_call 101 = .ok (.iload 4, 2) := by decide +kernel
theorem dX10_call_103 : decode cX10_call 103 = .ok (.aload_n 0, 1) := by decide +kernel
theorem dX10_call_104 : decode cX10_call 104 = .ok (.getfield 103, 3) := by decide +kernel
theorem dX10_call_107 : decode cX10_call 107 = .ok (.iload 5, 2) := by decide +kernel
theorem dX10_call_109 : decode cX10_call 109 = .ok (.iaload, 1) := by decide +kernel
theorem dX10_call_110 : decode cX10_call 110 = .ok (.if_icmp .ge 18, 3) := by decide +kernel
theorem dX10_call_113 : decode cX10_call 113 = .ok (.aload_n 0, 1) := by decide +kernel
theorem dX10_call_114 : decode cX10_call 114 = .ok (.getfield 100, 3) := by decide +kernel
theorem dX10_call_117 : decode cX10_call 117 = .ok (.iconst 2, 1) := by decide +kernel
theorem dX10_call_118 : decode cX10_call 118 = .ok (.iload 5, 2) := by decide +kernel
theorem dX10_call_120 : decode cX10_call 120 = .ok (.imul, 1) := by decide +kernel
theorem dX10_call_121 : decode cX10_call 121 = .ok (.iload 4, 2) := by decide +kernel
theorem dX10_call_123 : decode cX10_call 123 = .ok (.iadd, 1) := by decide +kernel
theorem dX10_call_124 : decode cX10_call 124 = .ok (.iaload, 1) := by decide +kernel
theorem dX10_call_125 : decode cX10_call 125 = .ok (.goto 4, 3) := by decide +kernel
theorem dX10_call_128 : decode cX10_call 128 = .ok (.iconst (-1), 1) := by decide +kernel
theorem dX10_call_129 : decode cX10_call 129 = .ok (.ireturn, 1) := by decide +kernel
theorem dX10_lastOf_0 : decode cX10_lastOf 0 = .ok (.aload_n 0, 1) := by decide +kernel
theorem dX10_lastOf_1 : decode cX10_lastOf 1 = .ok (.getfield 87, 3) := by decide +kernel
theorem dX10_lastOf_4 : decode cX10_lastOf 4 = .ok (.bipush 26, 2) := by decide +kernel
theorem dX10_lastOf_6 : decode cX10_lastOf 6 = .ok (.iconst 4, 1) := by decide +kernel
theorem dX10_lastOf_7 : decode cX10_lastOf 7 = .ok (.iload_n 1, 1) := by decide +kernel
theorem dX10_lastOf_8 : decode cX10_lastOf 8 = .ok (.imul, 1) := by decide +kernel
theorem dX10_lastOf_9 : decode cX10_lastOf 9 = .ok (.iload_n 2, 1) := by decide +kernel
theorem dX10_lastOf_10 : decode cX10_lastOf 10 = .ok (.iadd, 1) := by decide +kernel
theorem dX10_lastOf_11 : decode cX10_lastOf 11 = .ok (.imul, 1) := by decide +kernel
theorem dX10_lastOf_12 : decode cX10_lastOf 12 = .ok (.aload_n 0, 1) := by decide +kernel
theorem dX10_lastOf_13 : decode cX10_lastOf 13 = .ok (.getfield 90, 3) := by decide +kernel
theorem dX10_lastOf_16 : decode cX10_lastOf 16 = .ok (.iconst 4, 1) := by decide +kernel
theorem dX10_lastOf_17 : decode cX10_lastOf 17 = .ok (.iload_n 1, 1) := by decide +kernel
theorem dX10_lastOf_18 : decode cX10_lastOf 18 = .ok (.imul, 1) := by decide +kernel
theorem dX10_lastOf_19 : decode cX10_lastOf 19 = .ok (.iload_n 2, 1) := by decide +kernel
theorem dX10_lastOf_20 : decode cX10_lastOf 20 = .ok (.iadd, 1) := by decide +kernel
theorem dX10_lastOf_21 : decode cX10_lastOf 21 = .ok (.iaload, 1) := by decide +kernel
theorem dX10_lastOf_22 : decode cX10_lastOf 22 = .ok (.iadd, 1) := by decide +kernel
theorem dX10_lastOf_23 : decode cX10_lastOf 23 = .ok (.iconst 1, 1) := by decide +kernel
theorem dX10_lastOf_24 : decode cX10_lastOf 24 = .ok (.isub, 1) := by decide +kernel
theorem dX10_lastOf_25 : decode cX10_lastOf 25 = .ok (.baload, 1) := by decide +kernel
theorem dX10_lastOf_26 : decode cX10_lastOf 26 = .ok (.ireturn, 1) := by decide +kernel
theorem dX10_endAlike_0 : decode cX10_endAlike 0 = .ok (.iconst 1, 1) := by decide +kernel
theorem dX10_endAlike_1 : decode cX10_endAlike 1 = .ok (.istore_n 2, 1) := by decide +kernel
theorem dX10_endAlike_2 : decode cX10_endAlike 2 = .ok (.iconst 1, 1) := by decide +kernel
theorem dX10_endAlike_3 : decode cX10_endAlike 3 = .ok (.istore_n 3, 1) := by decide +kernel
theorem dX10_endAlike_4 : decode cX10_endAlike 4 = .ok (.iload_n 3, 1) := by decide +kernel
theorem dX10_endAlike_5 : decode cX10_endAlike 5 = .ok (.aload_n 0, 1) := by decide +kernel
theorem dX10_endAlike_6 : decode cX10_endAlike 6 = .ok (.getfield 84, 3) := by decide +kernel
theorem dX10_endAlike_9 : decode cX10_endAlike 9 = .ok (.iload_n 1, 1) := by decide +kernel
theorem dX10_endAlike_10 : decode cX10_endAlike 10 = .ok (.iaload, 1) := by decide +kernel
theorem dX10_endAlike_11 : decode cX10_endAlike 11 = .ok (.if_icmp .gt 34, 3) := by decide +kernel
theorem dX10_endAlike_14 : decode cX10_endAlike 14 = .ok (.iload_n 2, 1) := by decide +kernel
theorem dX10_endAlike_15 : decode cX10_endAlike 15 = .ok (.ifCond .eq 22, 3) := by decide +kernel
theorem dX10_endAlike_18 : decode cX10_endAlike 18 = .ok (.aload_n 0, 1) := by decide +kernel
theorem dX10_endAlike_19 : decode cX10_endAlike 19 = .ok (.iload_n 1, 1) := by decide +kernel
theorem dX10_endAlike_20 : decode cX10_endAlike 20 = .ok (.iload_n 3, 1) := by decide +kernel
theorem dX10_endAlike_21 : decode cX10_endAlike 21 = .ok (.invokevirtual 309, 3) := by decide +kernel
theorem dX10_endAlike_24 : decode cX10_endAlike 24 = .ok (.aload_n 0, 1) := by decide +kernel
theorem dX10_endAlike_25 : decode cX10_endAlike 25 = .ok (.iload_n 1, 1) := by decide +kernel
theorem dX10_endAlike_26 : decode cX10_endAlike 26 = .ok (.iconst 0, 1) := by decide +kernel
theorem dX10_endAlike_27 : decode cX10_endAlike 27 = .ok (.invokevirtual 309, 3) := by decide +kernel
theorem dX10_endAlike_30 : decode cX10_endAlike 30 = .ok (.if_icmp .ne 7, 3) := by decide +kernel
theorem dX10_endAlike_33 : decode cX10_endAlike 33 = .ok (.iconst 1, 1) := by decide +kernel
theorem dX10_endAlike_34 : decode cX10_endAlike 34 = .ok (.goto 4, 3) := by decide +kernel
theorem dX10_endAlike_37 : decode cX10_endAlike 37 = .ok (.iconst 0, 1) := by decide +kernel
theorem dX10_endAlike_38 : decode cX10_endAlike 38 = .ok (.istore_n 2, 1) := by decide +kernel
theorem dX10_endAlike_39 : decode cX10_endAlike 39 = .ok (.iinc 3 1, 3) := by decide +kernel
theorem dX10_endAlike_42 : decode cX10_endAlike 42 = .ok (.goto (-38), 3) := by decide +kernel
theorem dX10_endAlike_45 : decode cX10_endAlike 45 = .ok (.iload_n 2, 1) := by decide +kernel
theorem dX10_endAlike_46 : decode cX10_endAlike 46 = .ok (.ireturn, 1) := by decide +kernel
theorem dX10_beginAlike_0 : decode cX10_beginAlike 0 = .ok (.iconst 1, 1) := by decide +kernel
theorem dX10_beginAlike_1 : decode cX10_beginAlike 1 = .ok (.istore_n 2, 1) := by decide +kernel
theorem dX10_beginAlike_2 : decode cX10_beginAlike 2 = .ok (.iconst 1, 1) := by decide +kernel
theorem dX10_beginAlike_3 : decode cX10_beginAlike 3 = .ok (.istore_n 3, 1) := by decide +kernel
theorem dX10_beginAlike_4 : decode cX10_beginAlike 4 = .ok (.iload_n 3, 1) := by decide +kernel
theorem dX10_beginAlike_5 : decode cX10_beginAlike 5 = .ok (.aload_n 0, 1) := by decide +kernel
theorem dX10_beginAlike_6 : decode cX10_beginAlike 6 = .ok (.getfield 84, 3) := by decide +kernel
theorem dX10_beginAlike_9 : decode cX10_beginAlike 9 = .ok (.iload_n 1, 1) := by decide +kernel
theorem dX10_beginAlike_10 : decode cX10_beginAlike 10 = .ok (.iaload, 1) := by decide +kernel
theorem dX10_beginAlike_11 : decode cX10_beginAlike 11 = .ok (.if_icmp .gt 44, 3) := by decide +kernel
theorem dX10_beginAlike_14 : decode cX10_beginAlike 14 = .ok (.iload_n 2, 1) := by decide +kernel
theorem dX10_beginAlike_15 : decode cX10_beginAlike 15 = .ok (.ifCond .eq 32, 3) := by decide +kernel
theorem dX10_beginAlike_18 : decode cX10_beginAlike 18 = .ok (.aload_n 0, 1) := by decide +kernel
theorem dX10_beginAlike_19 : decode cX10_beginAlike 19 = .ok (.getfield 87, 3) := by decide +kernel
theorem dX10_beginAlike_22 : decode cX10_beginAlike 22 = .ok (.bipush 26, 2) := by decide +kernel
theorem dX10_beginAlike_24 : decode cX10_beginAlike 24 = .ok (.iconst 4, 1) := by decide +kernel
theorem dX10_beginAlike_25 : decode cX10_beginAlike 25 = .ok (.iload_n 1, 1) := by decide +kernel
theorem dX10_beginAlike_26 : decode cX10_beginAlike 26 = .ok (.imul, 1) := by decide +kernel
theorem dX10_beginAlike_27 : decode cX10_beginAlike 27 = .ok (.iload_n 3, 1) := by decide +kernel
theorem dX10_beginAlike_28 : decode cX10_beginAlike 28 = .ok (.iadd, 1) := by decide +kernel
theorem dX10_beginAlike_29 : decode cX10_beginAlike 29 = .ok (.imul, 1) := by decide +kernel
theorem dX10_beginAlike_30 : decode cX10_beginAlike 30 = .ok (.baload, 1) := by decide +kernel
theorem dX10_beginAlike_31 : decode cX10_beginAlike 31 = .ok (.aload_n 0, 1) := by decide +kernel
theorem dX10_beginAlike_32 : decode cX10_beginAlike 32 = .ok (.getfield 87, 3) := by decide +kernel
theorem dX10_beginAlike_35 : decode cX10_beginAlike 35 = .ok (.bipush 104, 2) := by decide +kernel
theorem dX10_beginAlike_37 : decode cX10_beginAlike 37 = .ok (.iload_n 1, 1) := by decide +kernel
theorem dX10_beginAlike_38 : decode cX10_beginAlike 38 = .ok (.imul, 1) := by decide +kernel
theorem dX10_beginAlike_39 : decode cX10_beginAlike 39 = .ok (.baload, 1) := by decide +kernel
theorem dX10_beginAlike_40 : decode cX10_beginAlike 40 = .ok (.if_icmp .ne 7, 3) := by decide +kernel
theorem dX10_beginAlike_43 : decode cX10_beginAlike 43 = .ok (.iconst 1, 1) := by decide +kernel
theorem dX10_beginAlike_44 : decode cX10_beginAlike 44 = .ok (.goto 4, 3) := by decide +kernel
theorem dX10_beginAlike_47 : decode cX10_beginAlike 47 = .ok (.iconst 0, 1) := by decide +kernel
theorem dX10_beginAlike_48 : decode cX10_beginAlike 48 = .ok (.istore_n 2, 1) := by decide +kernel
theorem dX10_beginAlike_49 : decode cX10_beginAlike 49 = .ok (.iinc 3 1, 3) := by decide +kernel
theorem dX10_beginAlike_52 : decode cX10_beginAlike 52 = .ok (.goto (-48), 3) := by decide +kernel
theorem dX10_beginAlike_55 : decode cX10_beginAlike 55 = .ok (.iload_n 2, 1) := by decide +kernel
theorem dX10_beginAlike_56 : decode cX10_beginAlike 56 = .ok (.ireturn, 1) := by decide +kernel
theorem dX10_allLong_0 : decode cX10_allLong 0 = .ok (.iconst 1, 1) := by decide +kernel
theorem dX10_allLong_1 : decode cX10_allLong 1 = .ok (.istore_n 2, 1) := by decide +kernel
theorem dX10_allLong_2 : decode cX10_allLong 2 = .ok (.iconst 0, 1) := by decide +kernel
theorem dX10_allLong_3 : decode cX10_allLong 3 = .ok (.istore_n 3, 1) := by decide +kernel
theorem dX10_allLong_4 : decode cX10_allLong 4 = .ok (.iload_n 3, 1) := by decide +kernel
theorem dX10_allLong_5 : decode cX10_allLong 5 = .ok (.aload_n 0, 1) := by decide +kernel
theorem dX10_allLong_6 : decode cX10_allLong 6 = .ok (.getfield 84, 3) := by decide +kernel
theorem dX10_allLong_9 : decode cX10_allLong 9 = .ok (.iload_n 1, 1) := by decide +kernel
theorem dX10_allLong_10 : decode cX10_allLong 10 = .ok (.iaload, 1) := by decide +kernel
theorem dX10_allLong_11 : decode cX10_allLong 11 = .ok (.if_icmp .gt 33, 3) := by decide +kernel
theorem dX10_allLong_14 : decode cX10_allLong 14 = .ok (.iload_n 2, 1) := by decide +kernel
theorem dX10_allLong_15 : decode cX10_allLong 15 = .ok (.ifCond .eq 21, 3) := by decide +kernel
theorem dX10_allLong_18 : decode cX10_allLong 18 = .ok (.aload_n 0, 1) := by decide +kernel
theorem dX10_allLong_19 : decode cX10_allLong 19 = .ok (.getfield 90, 3) := by decide +kernel
theorem dX10_allLong_22 : decode cX10_allLong 22 = .ok (.iconst 4, 1) := by decide +kernel
theorem dX10_allLong_23 : decode cX10_allLong 23 = .ok (.iload_n 1, 1) := by decide +kernel
theorem dX10_allLong_24 : decode cX10_allLong 24 = .ok (.imul, 1) := by decide +kernel
theorem dX10_allLong_25 : decode cX10_allLong 25 = .ok (.iload_n 3, 1) := by decide +kernel
theorem dX10_allLong_26 : decode cX10_allLong 26 = .ok (.iadd, 1) := by decide +kernel
theorem dX10_allLong_27 : decode cX10_allLong 27 = .ok (.iaload, 1) := by decide +kernel
theorem dX10_allLong_28 : decode cX10_allLong 28 = .ok (.iconst 2, 1) := by decide +kernel
theorem dX10_allLong_29 : decode cX10_allLong 29 = .ok (.if_icmp .lt 7, 3) := by decide +kernel
theorem dX10_allLong_32 : decode cX10_allLong 32 = .ok (.iconst 1, 1) := by decide +kernel
theorem dX10_allLong_33 : decode cX10_allLong 33 = .ok (.goto 4, 3) := by decide +kernel
theorem dX10_allLong_36 : decode cX10_allLong 36 = .ok (.iconst 0, 1) := by decide +kernel
theorem dX10_allLong_37 : decode cX10_allLong 37 = .ok (.istore_n 2, 1) := by decide +kernel
theorem dX10_allLong_38 : decode cX10_allLong 38 = .ok (.iinc 3 1, 3) := by decide +kernel
theorem dX10_allLong_41 : decode cX10_allLong 41 = .ok (.goto (-37), 3) := by decide +kernel
theorem dX10_allLong_44 : decode cX10_allLong 44 = .ok (.iload_n 2, 1) := by decide +kernel
theorem dX10_allLong_45 : decode cX10_allLong 45 = .ok (.ireturn, 1) := by decide +kernel
theorem dX10_toFront_0 : decode cX10_toFront 0 = .ok (.iconst 0, 1) := by decide +kernel
theorem dX10_toFront_1 : decode cX10_toFront 1 = .ok (.istore_n 3, 1) := by decide +kernel
theorem dX10_toFront_2 : decode cX10_toFront 2 = .ok (.iload_n 3, 1) := by decide +kernel
theorem dX10_toFront_3 : decode cX10_toFront 3 = .ok (.aload_n 0, 1) := by decide +kernel
theorem dX10_toFront_4 : decode cX10_toFront 4 = .ok (.getfield 84, 3) := by decide +kernel
theorem dX10_toFront_7 : decode cX10_toFront 7 = .ok (.iload_n 1, 1) := by decide +kernel
theorem dX10_toFront_8 : decode cX10_toFront 8 = .ok (.iaload, 1) := by decide +kernel
theorem dX10_toFront_9 : decode cX10_toFront 9 = .ok (.if_icmp .gt 87, 3) := by decide +kernel
theorem dX10_toFront_12 : decode cX10_toFront 12 = .ok (.bipush 26, 2) := by decide +kernel
theorem dX10_toFront_14 : decode cX10_toFront 14 = .ok (.iconst 4, 1) := by decide +kernel
theorem dX10_toFront_15 : decode cX10_toFront 15 = .ok (.iload_n 1, 1) := by decide +kernel
theorem dX10_toFront_16 : decode cX10_toFront 16 = .ok (.imul, 1) := by decide +kernel
theorem dX10_toFront_17 : decode cX10_toFront 17 = .ok (.iload_n 3, 1) := by decide +kernel
theorem dX10_toFront_18 : decode cX10_toFront 18 = .ok (.iadd, 1) := by decide +kernel
theorem dX10_toFront_19 : decode cX10_toFront 19 = .ok (.imul, 1) := by decide +kernel
theorem dX10_toFront_20 : decode cX10_toFront 20 = .ok (.istore 4, 2) := by decide +kernel
theorem dX10_toFront_22 : decode cX10_toFront 22 = .ok (.aload_n 0, 1) := by decide +kernel
theorem dX10_toFront_23 : decode cX10_toFront 23 = .ok (.getfield 90, 3) := by decide +kernel
theorem dX10_toFront_26 : decode cX10_toFront 26 = .ok (.iconst 4, 1) := by decide +kernel
theorem dX10_toFront_27 : decode cX10_toFront 27 = .ok (.iload_n 1, 1) := by decide +kernel
theorem dX10_toFront_28 : decode cX10_toFront 28 = .ok (.imul, 1) := by decide +kernel
theorem dX10_toFront_29 : decode cX10_toFront 29 = .ok (.iload_n 3, 1) := by decide +kernel
theorem dX10_toFront_30 : decode cX10_toFront 30 = .ok (.iadd, 1) := by decide +kernel
theorem dX10_toFront_31 : decode cX10_toFront 31 = .ok (.iaload, 1) := by decide +kernel
theorem dX10_toFront_32 : decode cX10_toFront 32 = .ok (.istore 5, 2) := by decide +kernel
theorem dX10_toFront_34 : decode cX10_toFront 34 = .ok (.iload 5, 2) := by decide +kernel
theorem dX10_toFront_36 : decode cX10_toFront 36 = .ok (.ifCond .le 31, 3) := by decide +kernel
theorem dX10_toFront_39 : decode cX10_toFront 39 = .ok (.aload_n 0, 1) := by decide +kernel
theorem dX10_toFront_40 : decode cX10_toFront 40 = .ok (.getfield 87, 3) := by decide +kernel
theorem dX10_toFront_43 : decode cX10_toFront 43 = .ok (.iload 4, 2) := by decide +kernel
theorem dX10_toFront_45 : decode cX10_toFront 45 = .ok (.iload 5, 2) := by decide +kernel
theorem dX10_toFront_47 : decode cX10_toFront 47 = .ok (.iadd, 1) := by decide +kernel
theorem dX10_toFront_48 : decode cX10_toFront 48 = .ok (.aload_n 0, 1) := by decide +kernel
theorem dX10_toFront_49 : decode cX10_toFront 49 = .ok (.getfield 87, 3) := by decide +kernel
theorem dX10_toFront_52 : decode cX10_toFront 52 = .ok (.iload 4, 2) := by decide +kernel
theorem dX10_toFront_54 : decode cX10_toFront 54 = .ok (.iload 5, 2) := by decide +kernel
theorem dX10_toFront_56 : decode cX10_toFront 56 = .ok (.iadd, 1) := by decide +kernel
theorem dX10_toFront_57 : decode cX10_toFront 57 = .ok (.iconst 1, 1) := by decide +kernel
theorem dX10_toFront_58 : decode cX10_toFront 58 = .ok (.isub, 1) := by decide +kernel
theorem dX10_toFront_59 : decode cX10_toFront 59 = .ok (.baload, 1) := by decide +kernel
theorem dX10_toFront_60 : decode cX10_toFront 60 = .ok (.bastore, 1) := by decide +kernel
theorem dX10_toFront_61 : decode cX10_toFront 61 = .ok (.iinc 5 (-1), 3) := by decide +kernel
theorem dX10_toFront_64 : decode cX10_toFront 64 = .ok (.goto (-30), 3) := by decide +kernel
theorem dX10_toFront_67 : decode cX10_toFront 67 = .ok (.aload_n 0, 1) := by decide +kernel
theorem dX10_toFront_68 : decode cX10_toFront 68 = .ok (.getfield 87, 3) := by decide +kernel
theorem dX10_toFront_71 : decode cX10_toFront 71 = .ok (.iload 4, 2) := by decide +kernel
theorem dX10_toFront_73 : decode cX10_toFront 73 = .ok (.iload_n 2, 1) := by decide +kernel
theorem dX10_toFront_74 : decode cX10_toFront 74 = .ok (.i2b, 1) := by decide +kernel
theorem dX10_toFront_75 : decode cX10_toFront 75 = .ok (.bastore, 1) := by decide +kernel
theorem dX10_toFront_76 : decode cX10_toFront 76 = .ok (.aload_n 0, 1) := by decide +kernel
theorem dX10_toFront_77 : decode cX10_toFront 77 = .ok (.getfield 90, 3) := by decide +kernel
theorem dX10_toFront_80 : decode cX10_toFront 80 = .ok (.iconst 4, 1) := by decide +kernel
theorem dX10_toFront_81 : decode cX10_toFront 81 = .ok (.iload_n 1, 1) := by decide +kernel
theorem dX10_toFront_82 : decode cX10_toFront 82 = .ok (.imul, 1) := by decide +kernel
theorem dX10_toFront_83 : decode cX10_toFront 83 = .ok (.iload_n 3, 1) := by decide +kernel
theorem dX10_toFront_84 : decode cX10_toFront 84 = .ok (.iadd, 1) := by decide +kernel
theorem dX10_toFront_85 : decode cX10_toFront 85 = .ok (.dup2, 1) := by decide +kernel
theorem dX10_toFront_86 : decode cX10_toFront 86 = .ok (.iaload, 1) := by decide +kernel
theorem dX10_toFront_87 : decode cX10_toFront 87 = .ok (.iconst 1, 1) := by decide +kernel
theorem dX10_toFront_88 : decode cX10_toFront 88 = .ok (.iadd, 1) := by decide +kernel
theorem dX10_toFront_89 : decode cX10_toFront 89 = .ok (.iastore, 1) := by decide +kernel
theorem dX10_toFront_90 : decode cX10_toFront 90 = .ok (.iinc 3 1, 3) := by decide +kernel
theorem dX10_toFront_93 : decode cX10_toFront 93 = .ok (.goto (-91), 3) := by decide +kernel
theorem dX10_toFront_96 : decode cX10_toFront 96 = .ok (.return_, 1) := by decide +kernel
theorem dX10_fromFront_0 : decode cX10_fromFront 0 = .ok (.iconst 0, 1) := by decide +kernel
theorem dX10_fromFront_1 : decode cX10_fromFront 1 = .ok (.istore_n 2, 1) := by decide +kernel
theorem dX10_fromFront_2 : decode cX10_fromFront 2 = .ok (.iload_n 2, 1) := by decide +kernel
theorem dX10_fromFront_3 : decode cX10_fromFront 3 = .ok (.aload_n 0, 1) := by decide +kernel
theorem dX10_fromFront_4 : decode cX10_fromFront 4 = .ok (.getfield 84, 3) := by decide +kernel
theorem dX10_fromFront_7 : decode cX10_fromFront 7 = .ok (.iload_n 1, 1) := by decide +kernel
theorem dX10_fromFront_8 : decode cX10_fromFront 8 = .ok (.iaload, 1) := by decide +kernel
theorem dX10_fromFront_9 : decode cX10_fromFront 9 = .ok (.if_icmp .gt 76, 3) := by decide +kernel
theorem dX10_fromFront_12 : decode cX10_fromFront 12 = .ok (.bipush 26, 2) := by decide +kernel
theorem dX10_fromFront_14 : decode cX10_fromFront 14 = .ok (.iconst 4, 1) := by decide +kernel
theorem dX10_fromFront_15 : decode cX10_fromFront 15 = .ok (.iload_n 1, 1) := by decide +kernel
theorem dX10_fromFront_16 : decode cX10_fromFront 16 = .ok (.imul, 1) := by decide +kernel
theorem dX10_fromFront_17 : decode cX10_fromFront 17 = .ok (.iload_n 2, 1) := by decide +kernel
theorem dX10_fromFront_18 : decode cX10_fromFront 18 = .ok (.iadd, 1) := by decide +kernel
theorem dX10_fromFront_19 : decode cX10_fromFront 19 = .ok (.imul, 1) := by decide +kernel
theorem dX10_fromFront_20 : decode cX10_fromFront 20 = .ok (.istore_n 3, 1) := by decide +kernel
theorem dX10_fromFront_21 : decode cX10_fromFront 21 = .ok (.aload_n 0, 1) := by decide +kernel
theorem dX10_fromFront_22 : decode cX10_fromFront 22 = .ok (.getfield 90, 3) := by decide +kernel
theorem dX10_fromFront_25 : decode cX10_fromFront 25 = .ok (.iconst 4, 1) := by decide +kernel
theorem dX10_fromFront_26 : decode cX10_fromFront 26 = .ok (.iload_n 1, 1) := by decide +kernel
theorem dX10_fromFront_27 : decode cX10_fromFront 27 = .ok (.imul, 1) := by decide +kernel
theorem dX10_fromFront_28 : decode cX10_fromFront 28 = .ok (.iload_n 2, 1) := by decide +kernel
theorem dX10_fromFront_29 : decode cX10_fromFront 29 = .ok (.iadd, 1) := by decide +kernel
theorem dX10_fromFront_30 : decode cX10_fromFront 30 = .ok (.dup2, 1) := by decide +kernel
theorem dX10_fromFront_31 : decode cX10_fromFront 31 = .ok (.iaload, 1) := by decide +kernel
theorem dX10_fromFront_32 : decode cX10_fromFront 32 = .ok (.iconst 1, 1) := by decide +kernel
theorem dX10_fromFront_33 : decode cX10_fromFront 33 = .ok (.isub, 1) := by decide +kernel
theorem dX10_fromFront_34 : decode cX10_fromFront 34 = .ok (.iastore, 1) := by decide +kernel
theorem dX10_fromFront_35 : decode cX10_fromFront 35 = .ok (.iconst 0, 1) := by decide +kernel
theorem dX10_fromFront_36 : decode cX10_fromFront 36 = .ok (.istore 4, 2) := by decide +kernel
theorem dX10_fromFront_38 : decode cX10_fromFront 38 = .ok (.iload 4, 2) := by decide +kernel
theorem dX10_fromFront_40 : decode cX10_fromFront 40 = .ok (.aload_n 0, 1) := by decide +kernel
theorem dX10_fromFront_41 : decode cX10_fromFront 41 = .ok (.getfield 90, 3) := by decide +kernel
theorem dX10_fromFront_44 : decode cX10_fromFront 44 = .ok (.iconst 4, 1) := by decide +kernel
theorem dX10_fromFront_45 : decode cX10_fromFront 45 = .ok (.iload_n 1, 1) := by decide +kernel
theorem dX10_fromFront_46 : decode cX10_fromFront 46 = .ok (.imul, 1) := by decide +kernel
theorem dX10_fromFront_47 : decode cX10_fromFront 47 = .ok (.iload_n 2, 1) := by decide +kernel
theorem dX10_fromFront_48 : decode cX10_fromFront 48 = .ok (.iadd, 1) := by decide +kernel
theorem dX10_fromFront_49 : decode cX10_fromFront 49 = .ok (.iaload, 1) := by decide +kernel
theorem dX10_fromFront_50 : decode cX10_fromFront 50 = .ok (.if_icmp .ge 29, 3) := by decide +kernel
theorem dX10_fromFront_53 : decode cX10_fromFront 53 = .ok (.aload_n 0, 1) := by decide +kernel
theorem dX10_fromFront_54 : decode cX10_fromFront 54 = .ok (.getfield 87, 3) := by decide +kernel
theorem dX10_fromFront_57 : decode cX10_fromFront 57 = .ok (.iload_n 3, 1) := by decide +kernel
theorem dX10_fromFront_58 : decode cX10_fromFront 58 = .ok (.iload 4, 2) := by decide +kernel
theorem dX10_fromFront_60 : decode cX10_fromFront 60 = .ok (.iadd, 1) := by decide +kernel
theorem dX10_fromFront_61 : decode cX10_fromFront 61 = .ok (.aload_n 0, 1) := by decide +kernel
theorem dX10_fromFront_62 : decode cX10_fromFront 62 = .ok (.getfield 87, 3) := by decide +kernel
theorem dX10_fromFront_65 : decode cX10_fromFront 65 = .ok (.iload_n 3, 1) := by decide +kernel
theorem dX10_fromFront_66 : decode cX10_fromFront 66 = .ok (.iload 4, 2) := by decide +kernel
theorem dX10_fromFront_68 : decode cX10_fromFront 68 = .ok (.iadd, 1) := by decide +kernel
theorem dX10_fromFront_69 : decode cX10_fromFront 69 = .ok (.iconst 1, 1) := by decide +kernel
theorem dX10_fromFront_70 : decode cX10_fromFront 70 = .ok (.iadd, 1) := by decide +kernel
theorem dX10_fromFront_71 : decode cX10_fromFront 71 = .ok (.baload, 1) := by decide +kernel
theorem dX10_fromFront_72 : decode cX10_fromFront 72 = .ok (.bastore, 1) := by decide +kernel
theorem dX10_fromFront_73 : decode cX10_fromFront 73 = .ok (.iinc 4 1, 3) := by decide +kernel
theorem dX10_fromFront_76 : decode cX10_fromFront 76 = .ok (.goto (-38), 3) := by decide +kernel
theorem dX10_fromFront_79 : decode cX10_fromFront 79 = .ok (.iinc 2 1, 3) := by decide +kernel
theorem dX10_fromFront_82 : decode cX10_fromFront 82 = .ok (.goto (-80), 3) := by decide +kernel
theorem dX10_fromFront_85 : decode cX10_fromFront 85 = .ok (.return_, 1) := by decide +kernel
theorem dX10_makeNormal_0 : decode cX10_makeNormal 0 = .ok (.iconst 0, 1) := by decide +kernel
theorem dX10_makeNormal_1 : decode cX10_makeNormal 1 = .ok (.istore_n 2, 1) := by decide +kernel
theorem dX10_makeNormal_2 : decode cX10_makeNormal 2 = .ok (.aload_n 0, 1) := by decide +kernel
theorem dX10_makeNormal_3 : decode cX10_makeNormal 3 = .ok (.iload_n 1, 1) := by decide +kernel
theorem dX10_makeNormal_4 : decode cX10_makeNormal 4 = .ok (.invokevirtual 312, 3) := by decide +kernel
theorem dX10_makeNormal_7 : decode cX10_makeNormal 7 = .ok (.ifCond .eq 97, 3) := by decide +kernel
theorem dX10_makeNormal_10 : decode cX10_makeNormal 10 = .ok (.aload_n 0, 1) := by decide +kernel
theorem dX10_makeNormal_11 : decode cX10_makeNormal 11 = .ok (.iload_n 1, 1) := by decide +kernel
theorem dX10_makeNormal_12 : decode cX10_makeNormal 12 = .ok (.invokevirtual 315, 3) := by decide +kernel
theorem dX10_makeNormal_15 : decode cX10_makeNormal 15 = .ok (.ifCond .ne 13, 3) := by decide +kernel
theorem dX10_makeNormal_18 : decode cX10_makeNormal 18 = .ok (.aload_n 0, 1) := by decide +kernel
theorem dX10_makeNormal_19 : decode cX10_makeNormal 19 = .ok (.getfield 75, 3) := by decide +kernel
theorem dX10_makeNormal_22 : decode cX10_makeNormal 22 = .ok (.iload_n 1, 1) := by decide +kernel
theorem dX10_makeNormal_23 : decode cX10_makeNormal 23 = .ok (.iaload, 1) := by decide +kernel
theorem dX10_makeNormal_24 : decode cX10_makeNormal 24 = .ok (.iconst 1, 1) := by decide +kernel
theorem dX10_makeNormal_25 : decode cX10_makeNormal 25 = .ok (.if_icmp .le 79, 3) := by decide +kernel
theorem dX10_makeNormal_28 : decode cX10_makeNormal 28 = .ok (.aload_n 0, 1) := by decide +kernel
theorem dX10_makeNormal_29 : decode cX10_makeNormal 29 = .ok (.iload_n 1, 1) := by decide +kernel
theorem dX10_makeNormal_30 : decode cX10_makeNormal 30 = .ok (.invokevirtual 315, 3) := by decide +kernel
theorem dX10_makeNormal_33 : decode cX10_makeNormal 33 = .ok (.ifCond .ne 34, 3) := by decide +kernel
theorem dX10_makeNormal_36 : decode cX10_makeNormal 36 = .ok (.aload_n 0, 1) := by decide +kernel
theorem dX10_makeNormal_37 : decode cX10_makeNormal 37 = .ok (.getfield 75, 3) := by decide +kernel
theorem dX10_makeNormal_40 : decode cX10_makeNormal 40 = .ok (.iload_n 1, 1) := by decide +kernel
theorem dX10_makeNormal_41 : decode cX10_makeNormal 41 = .ok (.dup2, 1) := by decide +kernel
theorem dX10_makeNormal_42 : decode cX10_makeNormal 42 = .ok (.iaload, 1) := by decide +kernel
theorem dX10_makeNormal_43 : decode cX10_makeNormal 43 = .ok (.iconst 1, 1) := by decide +kernel
theorem dX10_makeNormal_44 : decode cX10_makeNormal 44 = .ok (.isub, 1) := by decide +kernel
theorem dX10_makeNormal_45 : decode cX10_makeNormal 45 = .ok (.iastore, 1) := by decide +kernel
theorem dX10_makeNormal_46 : decode cX10_makeNormal 46 = .ok (.aload_n 0, 1) := by decide +kernel
theorem dX10_makeNormal_47 : decode cX10_makeNormal 47 = .ok (.iload_n 1, 1) := by decide +kernel
theorem dX10_makeNormal_48 : decode cX10_makeNormal 48 = .ok (.aload_n 0, 1) := by decide +kernel
theorem dX10_makeNormal_49 : decode cX10_makeNormal 49 = .ok (.aload_n 0, 1) := by decide +kernel
theorem dX10_makeNormal_50 : decode cX10_makeNormal 50 = .ok (.getfield 72, 3) := by decide +kernel
theorem dX10_makeNormal_53 : decode cX10_makeNormal 53 = .ok (.iload_n 1, 1) := by decide +kernel
theorem dX10_makeNormal_54 : decode cX10_makeNormal 54 = .ok (.iaload, 1) := by decide +kernel
theorem dX10_makeNormal_55 : decode cX10_makeNormal 55 = .ok (.aload_n 0, 1) := by decide +kernel
theorem dX10_makeNormal_56 : decode cX10_makeNormal 56 = .ok (.getfield 75, 3) := by decide +kernel
theorem dX10_makeNormal_59 : decode cX10_makeNormal 59 = .ok (.iload_n 1, 1) := by decide +kernel
theorem dX10_makeNormal_60 : decode cX10_makeNormal 60 = .ok (.iaload, 1) := by decide +kernel
theorem dX10_makeNormal_61 : decode cX10_makeNormal 61 = .ok (.invokevirtual 255, 3) := by decide +kernel
theorem dX10_makeNormal_64 : decode cX10_makeNormal 64 = .ok (.invokevirtual 318, 3) := by decide +kernel
theorem dX10_makeNormal_67 : decode cX10_makeNormal 67 = .ok (.iconst 0, 1) := by decide +kernel
theorem dX10_makeNormal_68 : decode cX10_makeNormal 68 = .ok (.istore_n 3, 1) := by decide +kernel
theorem dX10_makeNormal_69 : decode cX10_makeNormal 69 = .ok (.iload_n 3, 1) := by decide +kernel
theorem dX10_makeNormal_70 : decode cX10_makeNormal 70 = .ok (.aload_n 0, 1) := by decide +kernel
theorem dX10_makeNormal_71 : decode cX10_makeNormal 71 = .ok (.getfield 84, 3) := by decide +kernel
theorem dX10_makeNormal_74 : decode cX10_makeNormal 74 = .ok (.iload_n 1, 1) := by decide +kernel
theorem dX10_makeNormal_75 : decode cX10_makeNormal 75 = .ok (.iaload, 1) := by decide +kernel
theorem dX10_makeNormal_76 : decode cX10_makeNormal 76 = .ok (.if_icmp .gt 23, 3) := by decide +kernel
theorem dX10_makeNormal_79 : decode cX10_makeNormal 79 = .ok (.aload_n 0, 1) := by decide +kernel
theorem dX10_makeNormal_80 : decode cX10_makeNormal 80 = .ok (.getfield 90, 3) := by decide +kernel
theorem dX10_makeNormal_83 : decode cX10_makeNormal 83 = .ok (.iconst 4, 1) := by decide +kernel
theorem dX10_makeNormal_84 : decode cX10_makeNormal 84 = .ok (.iload_n 1, 1) := by decide +kernel
theorem dX10_makeNormal_85 : decode cX10_makeNormal 85 = .ok (.imul, 1) := by decide +kernel
theorem dX10_makeNormal_86 : decode cX10_makeNormal 86 = .ok (.iload_n 3, 1) := by decide +kernel
theorem dX10_makeNormal_87 : decode cX10_makeNormal 87 = .ok (.iadd, 1) := by decide +kernel
theorem dX10_makeNormal_88 : decode cX10_makeNormal 88 = .ok (.dup2, 1) := by decide +kernel
theorem dX10_makeNormal_89 : decode cX10_makeNormal 89 = .ok (.iaload, 1) := by decide +kernel
theorem dX10_makeNormal_90 : decode cX10_makeNormal 90 = .ok (.iconst 1, 1) := by decide +kernel
theorem dX10_makeNormal_91 : decode cX10_makeNormal 91 = .ok (.isub, 1) := by decide +kernel
theorem dX10_makeNormal_92 : decode cX10_makeNormal 92 = .ok (.iastore, 1) := by decide +kernel
theorem dX10_makeNormal_93 : decode cX10_makeNormal 93 = .ok (.iinc 3 1, 3) := by decide +kernel
theorem dX10_makeNormal_96 : decode cX10_makeNormal 96 = .ok (.goto (-27), 3) := by decide +kernel
theorem dX10_makeNormal_99 : decode cX10_makeNormal 99 = .ok (.iconst 1, 1) := by decide +kernel
theorem dX10_makeNormal_100 : decode cX10_makeNormal 100 = .ok (.istore_n 2, 1) := by decide +kernel
theorem dX10_makeNormal_101 : decode cX10_makeNormal 101 = .ok (.goto (-99), 3) := by decide +kernel
theorem dX10_makeNormal_104 : decode cX10_makeNormal 104 = .ok (.aload_n 0, 1) := by decide +kernel
theorem dX10_makeNormal_105 : decode cX10_makeNormal 105 = .ok (.iload_n 1, 1) := by decide +kernel
theorem dX10_makeNormal_106 : decode cX10_makeNormal 106 = .ok (.invokevirtual 315, 3) := by decide +kernel
theorem dX10_makeNormal_109 : decode cX10_makeNormal 109 = .ok (.ifCond .eq 31, 3) := by decide +kernel
theorem dX10_makeNormal_112 : decode cX10_makeNormal 112 = .ok (.aload_n 0, 1) := by decide +kernel
theorem dX10_makeNormal_113 : decode cX10_makeNormal 113 = .ok (.iload_n 1, 1) := by decide +kernel
theorem dX10_makeNormal_114 : decode cX10_makeNormal 114 = .ok (.invokevirtual 321, 3) := by decide +kernel
theorem dX10_makeNormal_117 : decode cX10_makeNormal 117 = .ok (.ifCond .eq 23, 3) := by decide +kernel
theorem dX10_makeNormal_120 : decode cX10_makeNormal 120 = .ok (.aload_n 0, 1) := by decide +kernel
theorem dX10_makeNormal_121 : decode cX10_makeNormal 121 = .ok (.iload_n 1, 1) := by decide +kernel
theorem dX10_makeNormal_122 : decode cX10_makeNormal 122 = .ok (.invokevirtual 324, 3) := by decide +kernel
theorem dX10_makeNormal_125 : decode cX10_makeNormal 125 = .ok (.aload_n 0, 1) := by decide +kernel
theorem dX10_makeNormal_126 : decode cX10_makeNormal 126 = .ok (.getfield 75, 3) := by decide +kernel
theorem dX10_makeNormal_129 : decode cX10_makeNormal 129 = .ok (.iload_n 1, 1) := by decide +kernel
theorem dX10_makeNormal_130 : decode cX10_makeNormal 130 = .ok (.dup2, 1) := by decide +kernel
theorem dX10_makeNormal_131 : decode cX10_makeNormal 131 = .ok (.iaload, 1) := by decide +kernel
theorem dX10_makeNormal_132 : decode cX10_makeNormal 132 = .ok (.iconst 1, 1) := by decide +kernel
theorem dX10_makeNormal_133 : decode cX10_makeNormal 133 = .ok (.iadd, 1) := by decide +kernel
theorem dX10_makeNormal_134 : decode cX10_makeNormal 134 = .ok (.iastore, 1) := by decide +kernel
theorem dX10_makeNormal_135 : decode cX10_makeNormal 135 = .ok (.iconst 1, 1) := by decide +kernel
theorem dX10_makeNormal_136 : decode cX10_makeNormal 136 = .ok (.istore_n 2, 1) := by decide +kernel
theorem dX10_makeNormal_137 : decode cX10_makeNormal 137 = .ok (.goto (-33), 3) := by decide +kernel
theorem dX10_makeNormal_140 : decode cX10_makeNormal 140 = .ok (.iload_n 2, 1) := by decide +kernel
theorem dX10_makeNormal_141 : decode cX10_makeNormal 141 = .ok (.ireturn, 1) := by decide +kernel
theorem dX10_normalise_0 : decode cX10_normalise 0 = .ok (.aload_n 0, 1) := by decide +kernel
theorem dX10_normalise_1 : decode cX10_normalise 1 = .ok (.iload_n 1, 1) := by decide +kernel
theorem dX10_normalise_2 : decode cX10_normalise 2 = .ok (.iconst 0, 1) := by decide +kernel
theorem dX10_normalise_3 : decode cX10_normalise 3 = .ok (.iconst 1, 1) := by decide +kernel
theorem dX10_normalise_4 : decode cX10_normalise 4 = .ok (.invokestatic 136, 3) := by decide +kernel
theorem dX10_normalise_7 : decode cX10_normalise 7 = .ok (.invokevirtual 143, 3) := by decide +kernel
theorem dX10_normalise_10 : decode cX10_normalise 10 = .ok (.ifCond .ne 5, 3) := by decide +kernel
theorem dX10_normalise_13 : decode cX10_normalise 13 = .ok (.iconst 0, 1) := by decide +kernel
theorem dX10_normalise_14 : decode cX10_normalise 14 = .ok (.ireturn, 1) := by decide +kernel
theorem dX10_normalise_15 : decode cX10_normalise 15 = .ok (.iconst 0, 1) := by decide +kernel
theorem dX10_normalise_16 : decode cX10_normalise 16 = .ok (.istore_n 2, 1) := by decide +kernel
theorem dX10_normalise_17 : decode cX10_normalise 17 = .ok (.iconst 0, 1) := by decide +kernel
theorem dX10_normalise_18 : decode cX10_normalise 18 = .ok (.istore_n 3, 1) := by decide +kernel
theorem dX10_normalise_19 : decode cX10_normalise 19 = .ok (.iload_n 3, 1) := by decide +kernel
theorem dX10_normalise_20 : decode cX10_normalise 20 = .ok (.aload_n 0, 1) := by decide +kernel
theorem dX10_normalise_21 : decode cX10_normalise 21 = .ok (.getfield 60, 3) := by decide +kernel
theorem dX10_normalise_24 : decode cX10_normalise 24 = .ok (.iload_n 1, 1) := by decide +kernel
theorem dX10_normalise_25 : decode cX10_normalise 25 = .ok (.iaload, 1) := by decide +kernel
theorem dX10_normalise_26 : decode cX10_normalise 26 = .ok (.if_icmp .ge 39, 3) := by decide +kernel
theorem dX10_normalise_29 : decode cX10_normalise 29 = .ok (.bipush 60, 2) := by decide +kernel
theorem dX10_normalise_31 : decode cX10_normalise 31 = .ok (.iload_n 1, 1) := by decide +kernel
theorem dX10_normalise_32 : decode cX10_normalise 32 = .ok (.imul, 1) := by decide +kernel
theorem dX10_normalise_33 : decode cX10_normalise 33 = .ok (.iload_n 3, 1) := by decide +kernel
theorem dX10_normalise_34 : decode cX10_normalise 34 = .ok (.iadd, 1) := by decide +kernel
theorem dX10_normalise_35 : decode cX10_normalise 35 = .ok (.istore 4, 2) := by decide +kernel
theorem dX10_normalise_37 : decode cX10_normalise 37 = .ok (.aload_n 0, 1) := by decide +kernel
theorem dX10_normalise_38 : decode cX10_normalise 38 = .ok (.getfield 84, 3) := by decide +kernel
theorem dX10_normalise_41 : decode cX10_normalise 41 = .ok (.iload 4, 2) := by decide +kernel
theorem dX10_normalise_43 : decode cX10_normalise 43 = .ok (.iaload, 1) := by decide +kernel
theorem dX10_normalise_44 : decode cX10_normalise 44 = .ok (.ifCond .le 15, 3) := by decide +kernel
theorem dX10_normalise_47 : decode cX10_normalise 47 = .ok (.aload_n 0, 1) := by decide +kernel
theorem dX10_normalise_48 : decode cX10_normalise 48 = .ok (.iload 4, 2) := by decide +kernel
theorem dX10_normalise_50 : decode cX10_normalise 50 = .ok (.invokevirtual 328, 3) := by decide +kernel
theorem dX10_normalise_53 : decode cX10_normalise 53 = .ok (.ifCond .eq 6, 3) := by decide +kernel
theorem dX10_normalise_56 : decode cX10_normalise 56 = .ok (.iinc 2 1, 3) := by decide +kernel
theorem dX10_normalise_59 : decode cX10_normalise 59 = .ok (.iinc 3 1, 3) := by decide +kernel
theorem dX10_normalise_62 : decode cX10_normalise 62 = .ok (.goto (-43), 3) := by decide +kernel
theorem dX10_normalise_65 : decode cX10_normalise 65 = .ok (.iload_n 2, 1) := by decide +kernel
theorem dX10_normalise_66 : decode cX10_normalise 66 = .ok (.ireturn, 1) := by decide +kernel
theorem dX10_split_0 : decode cX10_split 0 = .ok (.aload_n 0, 1) := by decide +kernel
theorem dX10_split_1 : decode cX10_split 1 = .ok (.iload_n 1, 1) := by decide +kernel
theorem dX10_split_2 : decode cX10_split 2 = .ok (.iconst 0, 1) := by decide +kernel
theorem dX10_split_3 : decode cX10_split 3 = .ok (.iconst 1, 1) := by decide +kernel
theorem dX10_split_4 : decode cX10_split 4 = .ok (.invokestatic 136, 3) := by decide +kernel
theorem dX10_split_7 : decode cX10_split 7 = .ok (.invokevirtual 143, 3) := by decide +kernel
theorem dX10_split_10 : decode cX10_split 10 = .ok (.ifCond .ne 5, 3) := by decide +kernel
theorem dX10_split_13 : decode cX10_split 13 = .ok (.iconst 0, 1) := by decide +kernel
theorem dX10_split_14 : decode cX10_split 14 = .ok (.ireturn, 1) := by decide +kernel
theorem dX10_split_15 : decode cX10_split 15 = .ok (.iconst 0, 1) := by decide +kernel
theorem dX10_split_16 : decode cX10_split 16 = .ok (.istore_n 2, 1) := by decide +kernel
theorem dX10_split_17 : decode cX10_split 17 = .ok (.iconst 0, 1) := by decide +kernel
theorem dX10_split_18 : decode cX10_split 18 = .ok (.istore_n 3, 1) := by decide +kernel
theorem dX10_split_19 : decode cX10_split 19 = .ok (.iload_n 3, 1) := by decide +kernel
theorem dX10_split_20 : decode cX10_split 20 = .ok (.aload_n 0, 1) := by decide +kernel
theorem dX10_split_21 : decode cX10_split 21 = .ok (.getfield 60, 3) := by decide +kernel
theorem dX10_split_24 : decode cX10_split 24 = .ok (.iload_n 1, 1) := by decide +kernel
theorem dX10_split_25 : decode cX10_split 25 = .ok (.iaload, 1) := by decide +kernel
theorem dX10_split_26 : decode cX10_split 26 = .ok (.if_icmp .ge 42, 3) := by decide +kernel
theorem dX10_split_29 : decode cX10_split 29 = .ok (.iload_n 2, 1) := by decide +kernel
theorem dX10_split_30 : decode cX10_split 30 = .ok (.aload_n 0, 1) := by decide +kernel
theorem dX10_split_31 : decode cX10_split 31 = .ok (.getfield 84, 3) := by decide +kernel
theorem dX10_split_34 : decode cX10_split 34 = .ok (.bipush 60, 2) := by decide +kernel
theorem dX10_split_36 : decode cX10_split 36 = .ok (.iload_n 1, 1) := by decide +kernel
theorem dX10_split_37 : decode cX10_split 37 = .ok (.imul, 1) := by decide +kernel
theorem dX10_split_38 : decode cX10_split 38 = .ok (.iload_n 3, 1) := by decide +kernel
theorem dX10_split_39 : decode cX10_split 39 = .ok (.iadd, 1) := by decide +kernel
theorem dX10_split_40 : decode cX10_split 40 = .ok (.iaload, 1) := by decide +kernel
theorem dX10_split_41 : decode cX10_split 41 = .ok (.iconst 1, 1) := by decide +kernel
theorem dX10_split_42 : decode cX10_split 42 = .ok (.if_icmp .le 17, 3) := by decide +kernel
theorem dX10_split_45 : decode cX10_split 45 = .ok (.aload_n 0, 1) := by decide +kernel
theorem dX10_split_46 : decode cX10_split 46 = .ok (.getfield 84, 3) := by decide +kernel
theorem dX10_split_49 : decode cX10_split 49 = .ok (.bipush 60, 2) := by decide +kernel
theorem dX10_split_51 : decode cX10_split 51 = .ok (.iload_n 1, 1) := by decide +kernel
theorem dX10_split_52 : decode cX10_split 52 = .ok (.imul, 1) := by decide +kernel
theorem dX10_split_53 : decode cX10_split 53 = .ok (.iload_n 3, 1) := by decide +kernel
theorem dX10_split_54 : decode cX10_split 54 = .ok (.iadd, 1) := by decide +kernel
theorem dX10_split_55 : decode cX10_split 55 = .ok (.iaload, 1) := by decide +kernel
theorem dX10_split_56 : decode cX10_split 56 = .ok (.goto 4, 3) := by decide +kernel
theorem dX10_split_59 : decode cX10_split 59 = .ok (.iconst 1, 1) := by decide +kernel
theorem dX10_split_60 : decode cX10_split 60 = .ok (.iadd, 1) := by decide +kernel
theorem dX10_split_61 : decode cX10_split 61 = .ok (.istore_n 2, 1) := by decide +kernel
theorem dX10_split_62 : decode cX10_split 62 = .ok (.iinc 3 1, 3) := by decide +kernel
theorem dX10_split_65 : decode cX10_split 65 = .ok (.goto (-46), 3) := by decide +kernel
theorem dX10_split_68 : decode cX10_split 68 = .ok (.iload_n 2, 1) := by decide +kernel
theorem dX10_split_69 : decode cX10_split 69 = .ok (.bipush 60, 2) := by decide +kernel
theorem dX10_split_71 : decode cX10_split 71 = .ok (.if_icmp .le 5, 3) := by decide +kernel
theorem dX10_split_74 : decode cX10_split 74 = .ok (.iconst (-1), 1) := by decide +kernel
theorem dX10_split_75 : decode cX10_split 75 = .ok (.ireturn, 1) := by decide +kernel
theorem dX10_split_76 : decode cX10_split 76 = .ok (.bipush 120, 2) := by decide +kernel
theorem dX10_split_78 : decode cX10_split 78 = .ok (.istore_n 3, 1) := by decide +kernel
theorem dX10_split_79 : decode cX10_split 79 = .ok (.iconst 0, 1) := by decide +kernel
theorem dX10_split_80 : decode cX10_split 80 = .ok (.istore 4, 2) := by decide +kernel
theorem dX10_split_82 : decode cX10_split 82 = .ok (.iload 4, 2) := by decide +kernel
theorem dX10_split_84 : decode cX10_split 84 = .ok (.aload_n 0, 1) := by decide +kernel
theorem dX10_split_85 : decode cX10_split 85 = .ok (.getfield 60, 3) := by decide +kernel
theorem dX10_split_88 : decode cX10_split 88 = .ok (.iload_n 1, 1) := by decide +kernel
theorem dX10_split_89 : decode cX10_split 89 = .ok (.iaload, 1) := by decide +kernel
theorem dX10_split_90 : decode cX10_split 90 = .ok (.if_icmp .ge 218, 3) := by decide +kernel
theorem dX10_split_93 : decode cX10_split 93 = .ok (.bipush 60, 2) := by decide +kernel
theorem dX10_split_95 : decode cX10_split 95 = .ok (.iload_n 1, 1) := by decide +kernel
theorem dX10_split_96 : decode cX10_split 96 = .ok (.imul, 1) := by decide +kernel
theorem dX10_split_97 : decode cX10_split 97 = .ok (.iload 4, 2) := by decide +kernel
theorem dX10_split_99 : decode cX10_split 99 = .ok (.iadd, 1) := by decide +kernel
theorem dX10_split_100 : decode cX10_split 100 = .ok (.istore 5, 2) := by decide +kernel
theorem dX10_split_102 : decode cX10_split 102 = .ok (.aload_n 0, 1) := by decide +kernel
theorem dX10_split_103 : decode cX10_split 103 = .ok (.getfield 84, 3) := by decide +kernel
theorem dX10_split_106 : decode cX10_split 106 = .ok (.iload 5, 2) := by decide +kernel
theorem dX10_split_108 : decode cX10_split 108 = .ok (.iaload, 1) := by decide +kernel
theorem dX10_split_109 : decode cX10_split 109 = .ok (.iconst 1, 1) := by decide +kernel
theorem dX10_split_110 : decode cX10_split 110 = .ok (.if_icmp .le 13, 3) := by decide +kernel
theorem dX10_split_113 : decode cX10_split 113 = .ok (.aload_n 0, 1) := by decide +kernel
theorem dX10_split_114 : decode cX10_split 114 = .ok (.getfield 84, 3) := by decide +kernel
theorem dX10_split_117 : decode cX10_split 117 = .ok (.iload 5, 2) := by decide +kernel
theorem dX10_split_119 : decode cX10_split 119 = .ok (.iaload, 1) := by decide +kernel
theorem dX10_split_120 : decode cX10_split 120 = .ok (.goto 4, 3) := by decide +kernel
theorem dX10_split_123 : decode cX10_split 123 = .ok (.iconst 1, 1) := by decide +kernel
theorem dX10_split_124 : decode cX10_split 124 = .ok (.istore 6, 2) := by decide +kernel
theorem dX10_split_126 : decode cX10_split 126 = .ok (.iconst 1, 1) := by decide +kernel
theorem dX10_split_127 : decode cX10_split 127 = .ok (.istore 7, 2) := by decide +kernel
theorem dX10_split_129 : decode cX10_split 129 = .ok (.iload 7, 2) := by decide +kernel
theorem dX10_split_131 : decode cX10_split 131 = .ok (.iload 6, 2) := by decide +kernel
theorem dX10_split_133 : decode cX10_split 133 = .ok (.if_icmp .gt 169, 3) := by decide +kernel
theorem dX10_split_136 : decode cX10_split 136 = .ok (.aload_n 0, 1) := by decide +kernel
theorem dX10_split_137 : decode cX10_split 137 = .ok (.iload_n 3, 1) := by decide +kernel
theorem dX10_split_138 : decode cX10_split 138 = .ok (.iload 5, 2) := by decide +kernel
theorem dX10_split_140 : decode cX10_split 140 = .ok (.invokevirtual 197, 3) := by decide +kernel
theorem dX10_split_143 : decode cX10_split 143 = .ok (.iload 6, 2) := by decide +kernel
theorem dX10_split_145 : decode cX10_split 145 = .ok (.iconst 1, 1) := by decide +kernel
theorem dX10_split_146 : decode cX10_split 146 = .ok (.if_icmp .le 147, 3) := by decide +kernel
theorem dX10_split_149 : decode cX10_split 149 = .ok (.aload_n 0, 1) := by decide +kernel
theorem dX10_split_150 : decode cX10_split 150 = .ok (.getfield 84, 3) := by decide +kernel
theorem dX10_split_153 : decode cX10_split 153 = .ok (.iload_n 3, 1) := by decide +kernel
theorem dX10_split_154 : decode cX10_split 154 = .ok (.iconst 1, 1) := by decide +kernel
theorem dX10_split_155 : decode cX10_split 155 = .ok (.iastore, 1) := by decide +kernel
theorem dX10_split_156 : decode cX10_split 156 = .ok (.aload_n 0, 1) := by decide +kernel
theorem dX10_split_157 : decode cX10_split 157 = .ok (.getfield 90, 3) := by decide +kernel
theorem dX10_split_160 : decode cX10_split 160 = .ok (.iconst 4, 1) := by decide +kernel
theorem dX10_split_161 : decode cX10_split 161 = .ok (.iload_n 3, 1) := by decide +kernel
theorem dX10_split_162 : decode cX10_split 162 = .ok (.imul, 1) := by decide +kernel
theorem dX10_split_163 : decode cX10_split 163 = .ok (.iconst 1, 1) := by decide +kernel
theorem dX10_split_164 : decode cX10_split 164 = .ok (.iadd, 1) := by decide +kernel
theorem dX10_split_165 : decode cX10_split 165 = .ok (.aload_n 0, 1) := by decide +kernel
theorem dX10_split_166 : decode cX10_split 166 = .ok (.getfield 90, 3) := by decide +kernel
theorem dX10_split_169 : decode cX10_split 169 = .ok (.iconst 4, 1) := by decide +kernel
theorem dX10_split_170 : decode cX10_split 170 = .ok (.iload 5, 2) := by decide +kernel
theorem dX10_split_172 : decode cX10_split 172 = .ok (.imul, 1) := by decide +kernel
theorem dX10_split_173 : decode cX10_split 173 = .ok (.iload 7, 2) := by decide +kernel
theorem dX10_split_175 : decode cX10_split 175 = .ok (.iadd, 1) := by decide +kernel
theorem dX10_split_176 : decode cX10_split 176 = .ok (.iaload, 1) := by decide +kernel
theorem dX10_split_177 : decode cX10_split 177 = .ok (.iastore, 1) := by decide +kernel
theorem dX10_split_178 : decode cX10_split 178 = .ok (.iconst 0, 1) := by decide +kernel
theorem dX10_split_179 : decode cX10_split 179 = .ok (.istore 8, 2) := by decide +kernel
theorem dX10_split_181 : decode cX10_split 181 = .ok (.iload 8, 2) := by decide +kernel
theorem dX10_split_183 : decode cX10_split 183 = .ok (.bipush 26, 2) := by decide +kernel
theorem dX10_split_185 : decode cX10_split 185 = .ok (.if_icmp .ge 43, 3) := by decide +kernel
theorem dX10_split_188 : decode cX10_split 188 = .ok (.aload_n 0, 1) := by decide +kernel
theorem dX10_split_189 : decode cX10_split 189 = .ok (.getfield 87, 3) := by decide +kernel
theorem dX10_split_192 : decode cX10_split 192 = .ok (.bipush 26, 2) := by decide +kernel
theorem dX10_split_194 : decode cX10_split 194 = .ok (.iconst 4, 1) := by decide +kernel
theorem dX10_split_195 : decode cX10_split 195 = .ok (.iload_n 3, 1) := by decide +kernel
theorem dX10_split_196 : decode cX10_split 196 = .ok (.imul, 1) := by decide +kernel
theorem dX10_split_197 : decode cX10_split 197 = .ok (.iconst 1, 1) := by decide +kernel
theorem dX10_split_198 : decode cX10_split 198 = .ok (.iadd, 1) := by decide +kernel
theorem dX10_split_199 : decode cX10_split 199 = .ok (.imul, 1) := by decide +kernel
theorem dX10_split_200 : decode cX10_split 200 = .ok (.iload 8, 2) := by decide +kernel
theorem dX10_split_202 : decode cX10_split 202 = .ok (.iadd, 1) := by decide +kernel
theorem dX10_split_203 : decode cX10_split 203 = .ok (.aload_n 0, 1) := by decide +kernel
theorem dX10_split_204 : decode cX10_split 204 = .ok (.getfield 87, 3) := by decide +kernel
theorem dX10_split_207 : decode cX10_split 207 = .ok (.bipush 26, 2) := by decide +kernel
theorem dX10_split_209 : decode cX10_split 209 = .ok (.iconst 4, 1) := by decide +kernel
theorem dX10_split_210 : decode cX10_split 210 = .ok (.iload 5, 2) := by decide +kernel
theorem dX10_split_212 : decode cX10_split 212 = .ok (.imul, 1) := by decide +kernel
theorem dX10_split_213 : decode cX10_split 213 = .ok (.iload 7, 2) := by decide +kernel
theorem dX10_split_215 : decode cX10_split 215 = .ok (.iadd, 1) := by decide +kernel
theorem dX10_split_216 : decode cX10_split 216 = .ok (.imul, 1) := by decide +kernel
theorem dX10_split_217 : decode cX10_split 217 = .ok (.iload 8, 2) := by decide +kernel
theorem dX10_split_219 : decode cX10_split 219 = .ok (.iadd, 1) := by decide +kernel
theorem dX10_split_220 : decode cX10_split 220 = .ok (.baload, 1) := by decide +kernel
theorem dX10_split_221 : decode cX10_split 221 = .ok (.bastore, 1) := by decide +kernel
theorem dX10_split_222 : decode cX10_split 222 = .ok (.iinc 8 1, 3) := by decide +kernel
theorem dX10_split_225 : decode cX10_split 225 = .ok (.goto (-44), 3) := by decide +kernel
theorem dX10_split_228 : decode cX10_split 228 = .ok (.iconst 0, 1) := by decide +kernel
theorem dX10_split_229 : decode cX10_split 229 = .ok (.istore 8, 2) := by decide +kernel
theorem dX10_split_231 : decode cX10_split 231 = .ok (.iload 8, 2) := by decide +kernel
theorem dX10_split_233 : decode cX10_split 233 = .ok (.bipush 6, 2) := by decide +kernel
theorem dX10_split_235 : decode cX10_split 235 = .ok (.if_icmp .ge 58, 3) := by decide +kernel
theorem dX10_split_238 : decode cX10_split 238 = .ok (.aload_n 0, 1) := by decide +kernel
theorem dX10_split_239 : decode cX10_split 239 = .ok (.getfield 100, 3) := by decide +kernel
theorem dX10_split_242 : decode cX10_split 242 = .ok (.bipush 6, 2) := by decide +kernel
theorem dX10_split_244 : decode cX10_split 244 = .ok (.iload 5, 2) := by decide +kernel
theorem dX10_split_246 : decode cX10_split 246 = .ok (.imul, 1) := by decide +kernel
theorem dX10_split_247 : decode cX10_split 247 = .ok (.iload 8, 2) := by decide +kernel
theorem dX10_split_249 : decode cX10_split 249 = .ok (.iadd, 1) := by decide +kernel
theorem dX10_split_250 : decode cX10_split 250 = .ok (.iaload, 1) := by decide +kernel
theorem dX10_split_251 : decode cX10_split 251 = .ok (.istore 9, 2) := by decide +kernel
theorem dX10_split_253 : decode cX10_split 253 = .ok (.aload_n 0, 1) := by decide +kernel
theorem dX10_split_254 : decode cX10_split 254 = .ok (.getfield 100, 3) := by decide +kernel
theorem dX10_split_257 : decode cX10_split 257 = .ok (.bipush 6, 2) := by decide +kernel
theorem dX10_split_259 : decode cX10_split 259 = .ok (.iload_n 3, 1) := by decide +kernel
theorem dX10_split_260 : decode cX10_split 260 = .ok (.imul, 1) := by decide +kernel
theorem dX10_split_261 : decode cX10_split 261 = .ok (.iload 8, 2) := by decide +kernel
theorem dX10_split_263 : decode cX10_split 263 = .ok (.iadd, 1) := by decide +kernel
theorem dX10_split_264 : decode cX10_split 264 = .ok (.iload 9, 2) := by decide +kernel
theorem dX10_split_266 : decode cX10_split 266 = .ok (.ifCond .le 18, 3) := by decide +kernel
theorem dX10_split_269 : decode cX10_split 269 = .ok (.iload 9, 2) := by decide +kernel
theorem dX10_split_271 : decode cX10_split 271 = .ok (.iload 7, 2) := by decide +kernel
theorem dX10_split_273 : decode cX10_split 273 = .ok (.if_icmp .ne 7, 3) := by decide +kernel
theorem dX10_split_276 : decode cX10_split 276 = .ok (.iconst 1, 1) := by decide +kernel
theorem dX10_split_277 : decode cX10_split 277 = .ok (.goto 9, 3) := by decide +kernel
theorem dX10_split_280 : decode cX10_split 280 = .ok (.iconst 0, 1) := by decide +kernel
theorem dX10_split_281 : decode cX10_split 281 = .ok (.goto 5, 3) := by decide +kernel
theorem dX10_split_284 : decode cX10_split 284 = .ok (.iload 9, 2) := by decide +kernel
theorem dX10_split_286 : decode cX10_split 286 = .ok (.iastore, 1) := by decide +kernel
theorem dX10_split_287 : decode cX10_split 287 = .ok (.iinc 8 1, 3) := by decide +kernel
theorem dX10_split_290 : decode cX10_split 290 = .ok (.goto (-59), 3) := by decide +kernel
theorem dX10_split_293 : decode cX10_split 293 = .ok (.iinc 3 1, 3) := by decide +kernel
theorem dX10_split_296 : decode cX10_split 296 = .ok (.iinc 7 1, 3) := by decide +kernel
theorem dX10_split_299 : decode cX10_split 299 = .ok (.goto (-170), 3) := by decide +kernel
theorem dX10_split_302 : decode cX10_split 302 = .ok (.iinc 4 1, 3) := by decide +kernel
theorem dX10_split_305 : decode cX10_split 305 = .ok (.goto (-223), 3) := by decide +kernel
theorem dX10_split_308 : decode cX10_split 308 = .ok (.aload_n 0, 1) := by decide +kernel
theorem dX10_split_309 : decode cX10_split 309 = .ok (.getfield 60, 3) := by decide +kernel
theorem dX10_split_312 : decode cX10_split 312 = .ok (.iload_n 1, 1) := by decide +kernel
theorem dX10_split_313 : decode cX10_split 313 = .ok (.iload_n 2, 1) := by decide +kernel
theorem dX10_split_314 : decode cX10_split 314 = .ok (.iastore, 1) := by decide +kernel
theorem dX10_split_315 : decode cX10_split 315 = .ok (.iconst 0, 1) := by decide +kernel
theorem dX10_split_316 : decode cX10_split 316 = .ok (.istore 4, 2) := by decide +kernel
theorem dX10_split_318 : decode cX10_split 318 = .ok (.iload 4, 2) := by decide +kernel
theorem dX10_split_320 : decode cX10_split 320 = .ok (.iload_n 2, 1) := by decide +kernel
theorem dX10_split_321 : decode cX10_split 321 = .ok (.if_icmp .ge 25, 3) := by decide +kernel
theorem dX10_split_324 : decode cX10_split 324 = .ok (.aload_n 0, 1) := by decide +kernel
theorem dX10_split_325 : decode cX10_split 325 = .ok (.bipush 60, 2) := by decide +kernel
theorem dX10_split_327 : decode cX10_split 327 = .ok (.iload_n 1, 1) := by decide +kernel
theorem dX10_split_328 : decode cX10_split 328 = .ok (.imul, 1) := by decide +kernel
theorem dX10_split_329 : decode cX10_split 329 = .ok (.iload 4, 2) := by decide +kernel
theorem dX10_split_331 : decode cX10_split 331 = .ok (.iadd, 1) := by decide +kernel
theorem dX10_split_332 : decode cX10_split 332 = .ok (.bipush 120, 2) := by decide +kernel
theorem dX10_split_334 : decode cX10_split 334 = .ok (.iload 4, 2) := by decide +kernel
theorem dX10_split_336 : decode cX10_split 336 = .ok (.iadd, 1) := by decide +kernel
theorem dX10_split_337 : decode cX10_split 337 = .ok (.invokevirtual 197, 3) := by decide +kernel
theorem dX10_split_340 : decode cX10_split 340 = .ok (.iinc 4 1, 3) := by decide +kernel
theorem dX10_split_343 : decode cX10_split 343 = .ok (.goto (-25), 3) := by decide +kernel
theorem dX10_split_346 : decode cX10_split 346 = .ok (.iload_n 2, 1) := by decide +kernel
theorem dX10_split_347 : decode cX10_split 347 = .ok (.ireturn, 1) := by decide +kernel
theorem dX10_longer_0 : decode cX10_longer 0 = .ok (.bipush 26, 2) := by decide +kernel
theorem dX10_longer_2 : decode cX10_longer 2 = .ok (.iconst 4, 1) := by decide +kernel
theorem dX10_longer_3 : decode cX10_longer 3 = .ok (.iload_n 1, 1) := by decide +kernel
theorem dX10_longer_4 : decode cX10_longer 4 = .ok (.imul, 1) := by decide +kernel
theorem dX10_longer_5 : decode cX10_longer 5 = .ok (.iload_n 2, 1) := by decide +kernel
theorem dX10_longer_6 : decode cX10_longer 6 = .ok (.iadd, 1) := by decide +kernel
theorem dX10_longer_7 : decode cX10_longer 7 = .ok (.imul, 1) := by decide +kernel
theorem dX10_longer_8 : decode cX10_longer 8 = .ok (.istore 6, 2) := by decide +kernel
theorem dX10_longer_10 : decode cX10_longer 10 = .ok (.aload_n 0, 1) := by decide +kernel
theorem dX10_longer_11 : decode cX10_longer 11 = .ok (.getfield 90, 3) := by decide +kernel
theorem dX10_longer_14 : decode cX10_longer 14 = .ok (.iconst 4, 1) := by decide +kernel
theorem dX10_longer_15 : decode cX10_longer 15 = .ok (.iload_n 3, 1) := by decide +kernel
theorem dX10_longer_16 : decode cX10_longer 16 = .ok (.imul, 1) := by decide +kernel
theorem dX10_longer_17 : decode cX10_longer 17 = .ok (.iload 4, 2) := by decide +kernel
theorem dX10_longer_19 : decode cX10_longer 19 = .ok (.iadd, 1) := by decide +kernel
theorem dX10_longer_20 : decode cX10_longer 20 = .ok (.iaload, 1) := by decide +kernel
theorem dX10_longer_21 : decode cX10_longer 21 = .ok (.istore 7, 2) := by decide +kernel
theorem dX10_longer_23 : decode cX10_longer 23 = .ok (.iconst 0, 1) := by decide +kernel
theorem dX10_longer_24 : decode cX10_longer 24 = .ok (.istore 8, 2) := by decide +kernel
theorem dX10_longer_26 : decode cX10_longer 26 = .ok (.iload 8, 2) := by decide +kernel
theorem dX10_longer_28 : decode cX10_longer 28 = .ok (.iload 7, 2) := by decide +kernel
theorem dX10_longer_30 : decode cX10_longer 30 = .ok (.if_icmp .ge 36, 3) := by decide +kernel
theorem dX10_longer_33 : decode cX10_longer 33 = .ok (.aload_n 0, 1) := by decide +kernel
theorem dX10_longer_34 : decode cX10_longer 34 = .ok (.getfield 87, 3) := by decide +kernel
theorem dX10_longer_37 : decode cX10_longer 37 = .ok (.iload 6, 2) := by decide +kernel
theorem dX10_longer_39 : decode cX10_longer 39 = .ok (.iload 8, 2) := by decide +kernel
theorem dX10_longer_41 : decode cX10_longer 41 = .ok (.iadd, 1) := by decide +kernel
theorem dX10_longer_42 : decode cX10_longer 42 = .ok (.aload_n 0, 1) := by decide +kernel
theorem dX10_longer_43 : decode cX10_longer 43 = .ok (.getfield 87, 3) := by decide +kernel
theorem dX10_longer_46 : decode cX10_longer 46 = .ok (.bipush 26, 2) := by decide +kernel
theorem dX10_longer_48 : decode cX10_longer 48 = .ok (.iconst 4, 1) := by decide +kernel
theorem dX10_longer_49 : decode cX10_longer 49 = .ok (.iload_n 3, 1) := by decide +kernel
theorem dX10_longer_50 : decode cX10_longer 50 = .ok (.imul, 1) := by decide +kernel
theorem dX10_longer_51 : decode cX10_longer 51 = .ok (.iload 4, 2) := by decide +kernel
theorem dX10_longer_53 : decode cX10_longer 53 = .ok (.iadd, 1) := by decide +kernel
theorem dX10_longer_54 : decode cX10_longer 54 = .ok (.imul, 1) := by decide +kernel
theorem dX10_longer_55 : decode cX10_longer 55 = .ok (.iload 8, 2) := by decide +kernel
theorem dX10_longer_57 : decode cX10_longer 57 = .ok (.iadd, 1) := by decide +kernel
theorem dX10_longer_58 : decode cX10_longer 58 = .ok (.baload, 1) := by decide +kernel
theorem dX10_longer_59 : decode cX10_longer 59 = .ok (.bastore, 1) := by decide +kernel
theorem dX10_longer_60 : decode cX10_longer 60 = .ok (.iinc 8 1, 3) := by decide +kernel
theorem dX10_longer_63 : decode cX10_longer 63 = .ok (.goto (-37), 3) := by decide +kernel
theorem dX10_longer_66 : decode cX10_longer 66 = .ok (.aload_n 0, 1) := by decide +kernel
theorem dX10_longer_67 : decode cX10_longer 67 = .ok (.getfield 90, 3) := by decide +kernel
theorem dX10_longer_70 : decode cX10_longer 70 = .ok (.iconst 4, 1) := by decide +kernel
theorem dX10_longer_71 : decode cX10_longer 71 = .ok (.iload_n 3, 1) := by decide +kernel
theorem dX10_longer_72 : decode cX10_longer 72 = .ok (.imul, 1) := by decide +kernel
theorem dX10_longer_73 : decode cX10_longer 73 = .ok (.iaload, 1) := by decide +kernel
theorem dX10_longer_74 : decode cX10_longer 74 = .ok (.istore 8, 2) := by decide +kernel
theorem dX10_longer_76 : decode cX10_longer 76 = .ok (.iload 8, 2) := by decide +kernel
theorem dX10_longer_78 : decode cX10_longer 78 = .ok (.aload_n 0, 1) := by decide +kernel
theorem dX10_longer_79 : decode cX10_longer 79 = .ok (.getfield 90, 3) := by decide +kernel
theorem dX10_longer_82 : decode cX10_longer 82 = .ok (.iconst 4, 1) := by decide +kernel
theorem dX10_longer_83 : decode cX10_longer 83 = .ok (.iload 5, 2) := by decide +kernel
theorem dX10_longer_85 : decode cX10_longer 85 = .ok (.imul, 1) := by decide +kernel
theorem dX10_longer_86 : decode cX10_longer 86 = .ok (.iaload, 1) := by decide +kernel
theorem dX10_longer_87 : decode cX10_longer 87 = .ok (.if_icmp .ge 42, 3) := by decide +kernel
theorem dX10_longer_90 : decode cX10_longer 90 = .ok (.iload 7, 2) := by decide +kernel
theorem dX10_longer_92 : decode cX10_longer 92 = .ok (.bipush 26, 2) := by decide +kernel
theorem dX10_longer_94 : decode cX10_longer 94 = .ok (.if_icmp .ge 35, 3) := by decide +kernel
theorem dX10_longer_97 : decode cX10_longer 97 = .ok (.aload_n 0, 1) := by decide +kernel
theorem dX10_longer_98 : decode cX10_longer 98 = .ok (.getfield 87, 3) := by decide +kernel
theorem dX10_longer_101 : decode cX10_longer 101 = .ok (.iload 6, 2) := by decide +kernel
theorem dX10_longer_103 : decode cX10_longer 103 = .ok (.iload 7, 2) := by decide +kernel
theorem dX10_longer_105 : decode cX10_longer 105 = .ok (.iadd, 1) := by decide +kernel
theorem dX10_longer_106 : decode cX10_longer 106 = .ok (.aload_n 0, 1) := by decide +kernel
theorem dX10_longer_107 : decode cX10_longer 107 = .ok (.getfield 87, 3) := by decide +kernel
theorem dX10_longer_110 : decode cX10_longer 110 = .ok (.bipush 104, 2) := by decide +kernel
theorem dX10_longer_112 : decode cX10_longer 112 = .ok (.iload 5, 2) := by decide +kernel
theorem dX10_longer_114 : decode cX10_longer 114 = .ok (.imul, 1) := by decide +kernel
theorem dX10_longer_115 : decode cX10_longer 115 = .ok (.iload 8, 2) := by decide +kernel
theorem dX10_longer_117 : decode cX10_longer 117 = .ok (.iadd, 1) := by decide +kernel
theorem dX10_longer_118 : decode cX10_longer 118 = .ok (.baload, 1) := by decide +kernel
theorem dX10_longer_119 : decode cX10_longer 119 = .ok (.bastore, 1) := by decide +kernel
theorem dX10_longer_120 : decode cX10_longer 120 = .ok (.iinc 7 1, 3) := by decide +kernel
theorem dX10_longer_123 : decode cX10_longer 123 = .ok (.iinc 8 1, 3) := by decide +kernel
theorem dX10_longer_126 : decode cX10_longer 126 = .ok (.goto (-50), 3) := by decide +kernel
theorem dX10_longer_129 : decode cX10_longer 129 = .ok (.aload_n 0, 1) := by decide +kernel
theorem dX10_longer_130 : decode cX10_longer 130 = .ok (.getfield 90, 3) := by decide +kernel
theorem dX10_longer_133 : decode cX10_longer 133 = .ok (.iconst 4, 1) := by decide +kernel
theorem dX10_longer_134 : decode cX10_longer 134 = .ok (.iload_n 1, 1) := by decide +kernel
theorem dX10_longer_135 : decode cX10_longer 135 = .ok (.imul, 1) := by decide +kernel
theorem dX10_longer_136 : decode cX10_longer 136 = .ok (.iload_n 2, 1) := by decide +kernel
theorem dX10_longer_137 : decode cX10_longer 137 = .ok (.iadd, 1) := by decide +kernel
theorem dX10_longer_138 : decode cX10_longer 138 = .ok (.iload 7, 2) := by decide +kernel
theorem dX10_longer_140 : decode cX10_longer 140 = .ok (.iastore, 1) := by decide +kernel
theorem dX10_longer_141 : decode cX10_longer 141 = .ok (.return_, 1) := by decide +kernel
theorem dX10_tryJoin_0 : decode cX10_tryJoin 0 = .ok (.aload_n 0, 1) := by decide +kernel
theorem dX10_tryJoin_1 : decode cX10_tryJoin 1 = .ok (.getfield 84, 3) := by decide +kernel
theorem dX10_tryJoin_4 : decode cX10_tryJoin 4 = .ok (.iload_n 2, 1) := by decide +kernel
theorem dX10_tryJoin_5 : decode cX10_tryJoin 5 = .ok (.iaload, 1) := by decide +kernel
theorem dX10_tryJoin_6 : decode cX10_tryJoin 6 = .ok (.ifCond .eq 42, 3) := by decide +kernel
theorem dX10_tryJoin_9 : decode cX10_tryJoin 9 = .ok (.aload_n 0, 1) := by decide +kernel
theorem dX10_tryJoin_10 : decode cX10_tryJoin 10 = .ok (.getfield 84, 3) := by decide +kernel
theorem dX10_tryJoin_13 : decode cX10_tryJoin 13 = .ok (.iload_n 3, 1) := by decide +kernel
theorem dX10_tryJoin_14 : decode cX10_tryJoin 14 = .ok (.iaload, 1) := by decide +kernel
theorem dX10_tryJoin_15 : decode cX10_tryJoin 15 = .ok (.ifCond .eq 33, 3) := by decide +kernel
theorem dX10_tryJoin_18 : decode cX10_tryJoin 18 = .ok (.aload_n 0, 1) := by decide +kernel
theorem dX10_tryJoin_19 : decode cX10_tryJoin 19 = .ok (.getfield 72, 3) := by decide +kernel
theorem dX10_tryJoin_22 : decode cX10_tryJoin 22 = .ok (.iload_n 2, 1) := by decide +kernel
theorem dX10_tryJoin_23 : decode cX10_tryJoin 23 = .ok (.iaload, 1) := by decide +kernel
theorem dX10_tryJoin_24 : decode cX10_tryJoin 24 = .ok (.aload_n 0, 1) := by decide +kernel
theorem dX10_tryJoin_25 : decode cX10_tryJoin 25 = .ok (.getfield 72, 3) := by decide +kernel
theorem dX10_tryJoin_28 : decode cX10_tryJoin 28 = .ok (.iload_n 3, 1) := by decide +kernel
theorem dX10_tryJoin_29 : decode cX10_tryJoin 29 = .ok (.iaload, 1) := by decide +kernel
theorem dX10_tryJoin_30 : decode cX10_tryJoin 30 = .ok (.if_icmp .ne 18, 3) := by decide +kernel
theorem dX10_tryJoin_33 : decode cX10_tryJoin 33 = .ok (.aload_n 0, 1) := by decide +kernel
theorem dX10_tryJoin_34 : decode cX10_tryJoin 34 = .ok (.getfield 75, 3) := by decide +kernel
theorem dX10_tryJoin_37 : decode cX10_tryJoin 37 = .ok (.iload_n 2, 1) := by decide +kernel
theorem dX10_tryJoin_38 : decode cX10_tryJoin 38 = .ok (.iaload, 1) := by decide +kernel
theorem dX10_tryJoin_39 : decode cX10_tryJoin 39 = .ok (.aload_n 0, 1) := by decide +kernel
theorem dX10_tryJoin_40 : decode cX10_tryJoin 40 = .ok (.getfield 75, 3) := by decide +kernel
theorem dX10_tryJoin_43 : decode cX10_tryJoin 43 = .ok (.iload_n 3, 1) := by decide +kernel
theorem dX10_tryJoin_44 : decode cX10_tryJoin 44 = .ok (.iaload, 1) := by decide +kernel
theorem dX10_tryJoin_45 : decode cX10_tryJoin 45 = .ok (.if_icmp .eq 5, 3) := by decide +kernel
theorem dX10_tryJoin_48 : decode cX10_tryJoin 48 = .ok (.iconst 0, 1) := by decide +kernel
theorem dX10_tryJoin_49 : decode cX10_tryJoin 49 = .ok (.ireturn, 1) := by decide +kernel
theorem dX10_tryJoin_50 : decode cX10_tryJoin 50 = .ok (.aload_n 0, 1) := by decide +kernel
theorem dX10_tryJoin_51 : decode cX10_tryJoin 51 = .ok (.getfield 90, 3) := by decide +kernel
theorem dX10_tryJoin_54 : decode cX10_tryJoin 54 = .ok (.iconst 4, 1) := by decide +kernel
theorem dX10_tryJoin_55 : decode cX10_tryJoin 55 = .ok (.iload_n 3, 1) := by decide +kernel
theorem dX10_tryJoin_56 : decode cX10_tryJoin 56 = .ok (.imul, 1) := by decide +kernel
theorem dX10_tryJoin_57 : decode cX10_tryJoin 57 = .ok (.iaload, 1) := by decide +kernel
theorem dX10_tryJoin_58 : decode cX10_tryJoin 58 = .ok (.aload_n 0, 1) := by decide +kernel
theorem dX10_tryJoin_59 : decode cX10_tryJoin 59 = .ok (.getfield 90, 3) := by decide +kernel
theorem dX10_tryJoin_62 : decode cX10_tryJoin 62 = .ok (.iconst 4, 1) := by decide +kernel
theorem dX10_tryJoin_63 : decode cX10_tryJoin 63 = .ok (.iload_n 2, 1) := by decide +kernel
theorem dX10_tryJoin_64 : decode cX10_tryJoin 64 = .ok (.imul, 1) := by decide +kernel
theorem dX10_tryJoin_65 : decode cX10_tryJoin 65 = .ok (.iaload, 1) := by decide +kernel
theorem dX10_tryJoin_66 : decode cX10_tryJoin 66 = .ok (.if_icmp .le 7, 3) := by decide +kernel
theorem dX10_tryJoin_69 : decode cX10_tryJoin 69 = .ok (.iload_n 3, 1) := by decide +kernel
theorem dX10_tryJoin_70 : decode cX10_tryJoin 70 = .ok (.goto 4, 3) := by decide +kernel
theorem dX10_tryJoin_73 : decode cX10_tryJoin 73 = .ok (.iload_n 2, 1) := by decide +kernel
theorem dX10_tryJoin_74 : decode cX10_tryJoin 74 = .ok (.istore 4, 2) := by decide +kernel
theorem dX10_tryJoin_76 : decode cX10_tryJoin 76 = .ok (.aload_n 0, 1) := by decide +kernel
theorem dX10_tryJoin_77 : decode cX10_tryJoin 77 = .ok (.iload_n 1, 1) := by decide +kernel
theorem dX10_tryJoin_78 : decode cX10_tryJoin 78 = .ok (.iload_n 2, 1) := by decide +kernel
theorem dX10_tryJoin_79 : decode cX10_tryJoin 79 = .ok (.invokevirtual 197, 3) := by decide +kernel
theorem dX10_tryJoin_82 : decode cX10_tryJoin 82 = .ok (.iconst 0, 1) := by decide +kernel
theorem dX10_tryJoin_83 : decode cX10_tryJoin 83 = .ok (.istore 5, 2) := by decide +kernel
theorem dX10_tryJoin_85 : decode cX10_tryJoin 85 = .ok (.iload 5, 2) := by decide +kernel
theorem dX10_tryJoin_87 : decode cX10_tryJoin 87 = .ok (.aload_n 0, 1) := by decide +kernel
theorem dX10_tryJoin_88 : decode cX10_tryJoin 88 = .ok (.getfield 84, 3) := by decide +kernel
theorem dX10_tryJoin_91 : decode cX10_tryJoin 91 = .ok (.iload_n 2, 1) := by decide +kernel
theorem dX10_tryJoin_92 : decode cX10_tryJoin 92 = .ok (.iaload, 1) := by decide +kernel
theorem dX10_tryJoin_93 : decode cX10_tryJoin 93 = .ok (.if_icmp .gt 21, 3) := by decide +kernel
theorem dX10_tryJoin_96 : decode cX10_tryJoin 96 = .ok (.aload_n 0, 1) := by decide +kernel
theorem dX10_tryJoin_97 : decode cX10_tryJoin 97 = .ok (.iload_n 1, 1) := by decide +kernel
theorem dX10_tryJoin_98 : decode cX10_tryJoin 98 = .ok (.iload 5, 2) := by decide +kernel
theorem dX10_tryJoin_100 : decode cX10_tryJoin 100 = .ok (.iload_n 2, 1) := by decide +kernel
theorem dX10_tryJoin_101 : decode cX10_tryJoin 101 = .ok (.iload 5, 2) := by decide +kernel
theorem dX10_tryJoin_103 : decode cX10_tryJoin 103 = .ok (.iload 4, 2) := by decide +kernel
theorem dX10_tryJoin_105 : decode cX10_tryJoin 105 = .ok (.invokevirtual 331, 3) := by decide +kernel
theorem dX10_tryJoin_108 : decode cX10_tryJoin 108 = .ok (.iinc 5 1, 3) := by decide +kernel
theorem dX10_tryJoin_111 : decode cX10_tryJoin 111 = .ok (.goto (-26), 3) := by decide +kernel
theorem dX10_tryJoin_114 : decode cX10_tryJoin 114 = .ok (.aload_n 0, 1) := by decide +kernel
theorem dX10_tryJoin_115 : decode cX10_tryJoin 115 = .ok (.getfield 118, 3) := by decide +kernel
theorem dX10_tryJoin_118 : decode cX10_tryJoin 118 = .ok (.iconst 0, 1) := by decide +kernel
theorem dX10_tryJoin_119 : decode cX10_tryJoin 119 = .ok (.iconst 0, 1) := by decide +kernel
theorem dX10_tryJoin_120 : decode cX10_tryJoin 120 = .ok (.iastore, 1) := by decide +kernel
theorem dX10_tryJoin_121 : decode cX10_tryJoin 121 = .ok (.iconst 1, 1) := by decide +kernel
theorem dX10_tryJoin_122 : decode cX10_tryJoin 122 = .ok (.istore 5, 2) := by decide +kernel
theorem dX10_tryJoin_124 : decode cX10_tryJoin 124 = .ok (.iload 5, 2) := by decide +kernel
theorem dX10_tryJoin_126 : decode cX10_tryJoin 126 = .ok (.aload_n 0, 1) := by decide +kernel
theorem dX10_tryJoin_127 : decode cX10_tryJoin 127 = .ok (.getfield 84, 3) := by decide +kernel
theorem dX10_tryJoin_130 : decode cX10_tryJoin 130 = .ok (.iload_n 3, 1) := by decide +kernel
theorem dX10_tryJoin_131 : decode cX10_tryJoin 131 = .ok (.iaload, 1) := by decide +kernel
theorem dX10_tryJoin_132 : decode cX10_tryJoin 132 = .ok (.if_icmp .gt 148, 3) := by decide +kernel
theorem dX10_tryJoin_135 : decode cX10_tryJoin 135 = .ok (.sipush 239, 3) := by decide +kernel
theorem dX10_tryJoin_138 : decode cX10_tryJoin 138 = .ok (.istore 6, 2) := by decide +kernel
theorem dX10_tryJoin_140 : decode cX10_tryJoin 140 = .ok (.aload_n 0, 1) := by decide +kernel
theorem dX10_tryJoin_141 : decode cX10_tryJoin 141 = .ok (.iload 6, 2) := by decide +kernel
theorem dX10_tryJoin_143 : decode cX10_tryJoin 143 = .ok (.iconst 1, 1) := by decide +kernel
theorem dX10_tryJoin_144 : decode cX10_tryJoin 144 = .ok (.iload_n 3, 1) := by decide +kernel
theorem dX10_tryJoin_145 : decode cX10_tryJoin 145 = .ok (.iload 5, 2) := by decide +kernel
theorem dX10_tryJoin_147 : decode cX10_tryJoin 147 = .ok (.iload 4, 2) := by decide +kernel
theorem dX10_tryJoin_149 : decode cX10_tryJoin 149 = .ok (.invokevirtual 331, 3) := by decide +kernel
theorem dX10_tryJoin_152 : decode cX10_tryJoin 152 = .ok (.aload_n 0, 1) := by decide +kernel
theorem dX10_tryJoin_153 : decode cX10_tryJoin 153 = .ok (.getfield 118, 3) := by decide +kernel
theorem dX10_tryJoin_156 : decode cX10_tryJoin 156 = .ok (.iload 5, 2) := by decide +kernel
theorem dX10_tryJoin_158 : decode cX10_tryJoin 158 = .ok (.iconst 0, 1) := by decide +kernel
theorem dX10_tryJoin_159 : decode cX10_tryJoin 159 = .ok (.iastore, 1) := by decide +kernel
theorem dX10_tryJoin_160 : decode cX10_tryJoin 160 = .ok (.iconst 1, 1) := by decide +kernel
theorem dX10_tryJoin_161 : decode cX10_tryJoin 161 = .ok (.istore 7, 2) := by decide +kernel
theorem dX10_tryJoin_163 : decode cX10_tryJoin 163 = .ok (.iload 7, 2) := by decide +kernel
theorem dX10_tryJoin_165 : decode cX10_tryJoin 165 = .ok (.aload_n 0, 1) := by decide +kernel
theorem dX10_tryJoin_166 : decode cX10_tryJoin 166 = .ok (.getfield 84, 3) := by decide +kernel
theorem dX10_tryJoin_169 : decode cX10_tryJoin 169 = .ok (.iload_n 1, 1) := by decide +kernel
theorem dX10_tryJoin_170 : decode cX10_tryJoin 170 = .ok (.iaload, 1) := by decide +kernel
theorem dX10_tryJoin_171 : decode cX10_tryJoin 171 = .ok (.if_icmp .gt 41, 3) := by decide +kernel
theorem dX10_tryJoin_174 : decode cX10_tryJoin 174 = .ok (.aload_n 0, 1) := by decide +kernel
theorem dX10_tryJoin_175 : decode cX10_tryJoin 175 = .ok (.getfield 118, 3) := by decide +kernel
theorem dX10_tryJoin_178 : decode cX10_tryJoin 178 = .ok (.iload 5, 2) := by decide +kernel
theorem dX10_tryJoin_180 : decode cX10_tryJoin 180 = .ok (.aload_n 0, 1) := by decide +kernel
theorem dX10_tryJoin_181 : decode cX10_tryJoin 181 = .ok (.iload_n 1, 1) := by decide +kernel
theorem dX10_tryJoin_182 : decode cX10_tryJoin 182 = .ok (.iload 7, 2) := by decide +kernel
theorem dX10_tryJoin_184 : decode cX10_tryJoin 184 = .ok (.iload 6, 2) := by decide +kernel
theorem dX10_tryJoin_186 : decode cX10_tryJoin 186 = .ok (.iconst 1, 1) := by decide +kernel
theorem dX10_tryJoin_187 : decode cX10_tryJoin 187 = .ok (.invokevirtual 258, 3) := by decide +kernel
theorem dX10_tryJoin_190 : decode cX10_tryJoin 190 = .ok (.ifCond .eq 8, 3) := by decide +kernel
theorem dX10_tryJoin_193 : decode cX10_tryJoin 193 = .ok (.iload 7, 2) := by decide +kernel
theorem dX10_tryJoin_195 : decode cX10_tryJoin 195 = .ok (.goto 10, 3) := by decide +kernel
theorem dX10_tryJoin_198 : decode cX10_tryJoin 198 = .ok (.aload_n 0, 1) := by decide +kernel
theorem dX10_tryJoin_199 : decode cX10_tryJoin 199 = .ok (.getfield 118, 3) := by decide +kernel
theorem dX10_tryJoin_202 : decode cX10_tryJoin 202 = .ok (.iload 5, 2) := by decide +kernel
theorem dX10_tryJoin_204 : decode cX10_tryJoin 204 = .ok (.iaload, 1) := by decide +kernel
theorem dX10_tryJoin_205 : decode cX10_tryJoin 205 = .ok (.iastore, 1) := by decide +kernel
theorem dX10_tryJoin_206 : decode cX10_tryJoin 206 = .ok (.iinc 7 1, 3) := by decide +kernel
theorem dX10_tryJoin_209 : decode cX10_tryJoin 209 = .ok (.goto (-46), 3) := by decide +kernel
theorem dX10_tryJoin_212 : decode cX10_tryJoin 212 = .ok (.aload_n 0, 1) := by decide +kernel
theorem dX10_tryJoin_213 : decode cX10_tryJoin 213 = .ok (.getfield 118, 3) := by decide +kernel
theorem dX10_tryJoin_216 : decode cX10_tryJoin 216 = .ok (.iload 5, 2) := by decide +kernel
theorem dX10_tryJoin_218 : decode cX10_tryJoin 218 = .ok (.iaload, 1) := by decide +kernel
theorem dX10_tryJoin_219 : decode cX10_tryJoin 219 = .ok (.ifCond .ne 55, 3) := by decide +kernel
theorem dX10_tryJoin_222 : decode cX10_tryJoin 222 = .ok (.aload_n 0, 1) := by decide +kernel
theorem dX10_tryJoin_223 : decode cX10_tryJoin 223 = .ok (.getfield 84, 3) := by decide +kernel
theorem dX10_tryJoin_226 : decode cX10_tryJoin 226 = .ok (.iload_n 1, 1) := by decide +kernel
theorem dX10_tryJoin_227 : decode cX10_tryJoin 227 = .ok (.iaload, 1) := by decide +kernel
theorem dX10_tryJoin_228 : decode cX10_tryJoin 228 = .ok (.iconst 3, 1) := by decide +kernel
theorem dX10_tryJoin_229 : decode cX10_tryJoin 229 = .ok (.if_icmp .ne 5, 3) := by decide +kernel
theorem dX10_tryJoin_232 : decode cX10_tryJoin 232 = .ok (.iconst 0, 1) := by decide +kernel
theorem dX10_tryJoin_233 : decode cX10_tryJoin 233 = .ok (.ireturn, 1) := by decide +kernel
theorem dX10_tryJoin_234 : decode cX10_tryJoin 234 = .ok (.aload_n 0, 1) := by decide +kernel
theorem dX10_tryJoin_235 : decode cX10_tryJoin 235 = .ok (.getfield 84, 3) := by decide +kernel
theorem dX10_tryJoin_238 : decode cX10_tryJoin 238 = .ok (.iload_n 1, 1) := by decide +kernel
theorem dX10_tryJoin_239 : decode cX10_tryJoin 239 = .ok (.dup2, 1) := by decide +kernel
theorem dX10_tryJoin_240 : decode cX10_tryJoin 240 = .ok (.iaload, 1) := by decide +kernel
theorem dX10_tryJoin_241 : decode cX10_tryJoin 241 = .ok (.iconst 1, 1) := by decide +kernel
theorem dX10_tryJoin_242 : decode cX10_tryJoin 242 = .ok (.iadd, 1) := by decide +kernel
theorem dX10_tryJoin_243 : decode cX10_tryJoin 243 = .ok (.iastore, 1) := by decide +kernel
theorem dX10_tryJoin_244 : decode cX10_tryJoin 244 = .ok (.aload_n 0, 1) := by decide +kernel
theorem dX10_tryJoin_245 : decode cX10_tryJoin 245 = .ok (.getfield 118, 3) := by decide +kernel
theorem dX10_tryJoin_248 : decode cX10_tryJoin 248 = .ok (.iload 5, 2) := by decide +kernel
theorem dX10_tryJoin_250 : decode cX10_tryJoin 250 = .ok (.aload_n 0, 1) := by decide +kernel
theorem dX10_tryJoin_251 : decode cX10_tryJoin 251 = .ok (.getfield 84, 3) := by decide +kernel
theorem dX10_tryJoin_254 : decode cX10_tryJoin 254 = .ok (.iload_n 1, 1) := by decide +kernel
theorem dX10_tryJoin_255 : decode cX10_tryJoin 255 = .ok (.iaload, 1) := by decide +kernel
theorem dX10_tryJoin_256 : decode cX10_tryJoin 256 = .ok (.iastore, 1) := by decide +kernel
theorem dX10_tryJoin_257 : decode cX10_tryJoin 257 = .ok (.aload_n 0, 1) := by decide +kernel
theorem dX10_tryJoin_258 : decode cX10_tryJoin 258 = .ok (.iload_n 1, 1) := by decide +kernel
theorem dX10_tryJoin_259 : decode cX10_tryJoin 259 = .ok (.aload_n 0, 1) := by decide +kernel
theorem dX10_tryJoin_260 : decode cX10_tryJoin 260 = .ok (.getfield 118, 3) := by decide +kernel
theorem dX10_tryJoin_263 : decode cX10_tryJoin 263 = .ok (.iload 5, 2) := by decide +kernel
theorem dX10_tryJoin_265 : decode cX10_tryJoin 265 = .ok (.iaload, 1) := by decide +kernel
theorem dX10_tryJoin_266 : decode cX10_tryJoin 266 = .ok (.iload_n 3, 1) := by decide +kernel
theorem dX10_tryJoin_267 : decode cX10_tryJoin 267 = .ok (.iload 5, 2) := by decide +kernel
theorem dX10_tryJoin_269 : decode cX10_tryJoin 269 = .ok (.iload 4, 2) := by decide +kernel
theorem dX10_tryJoin_271 : decode cX10_tryJoin 271 = .ok (.invokevirtual 331, 3) := by decide +kernel
theorem dX10_tryJoin_274 : decode cX10_tryJoin 274 = .ok (.iinc 5 1, 3) := by decide +kernel
theorem dX10_tryJoin_277 : decode cX10_tryJoin 277 = .ok (.goto (-153), 3) := by decide +kernel
theorem dX10_tryJoin_280 : decode cX10_tryJoin 280 = .ok (.iconst 0, 1) := by decide +kernel
theorem dX10_tryJoin_281 : decode cX10_tryJoin 281 = .ok (.istore 5, 2) := by decide +kernel
theorem dX10_tryJoin_283 : decode cX10_tryJoin 283 = .ok (.iload 5, 2) := by decide +kernel
theorem dX10_tryJoin_285 : decode cX10_tryJoin 285 = .ok (.aload_n 0, 1) := by decide +kernel
theorem dX10_tryJoin_286 : decode cX10_tryJoin 286 = .ok (.getfield 84, 3) := by decide +kernel
theorem dX10_tryJoin_289 : decode cX10_tryJoin 289 = .ok (.iload_n 1, 1) := by decide +kernel
theorem dX10_tryJoin_290 : decode cX10_tryJoin 290 = .ok (.iaload, 1) := by decide +kernel
theorem dX10_tryJoin_291 : decode cX10_tryJoin 291 = .ok (.if_icmp .gt 27, 3) := by decide +kernel
theorem dX10_tryJoin_294 : decode cX10_tryJoin 294 = .ok (.aload_n 0, 1) := by decide +kernel
theorem dX10_tryJoin_295 : decode cX10_tryJoin 295 = .ok (.getfield 90, 3) := by decide +kernel
theorem dX10_tryJoin_298 : decode cX10_tryJoin 298 = .ok (.iconst 4, 1) := by decide +kernel
theorem dX10_tryJoin_299 : decode cX10_tryJoin 299 = .ok (.iload_n 1, 1) := by decide +kernel
theorem dX10_tryJoin_300 : decode cX10_tryJoin 300 = .ok (.imul, 1) := by decide +kernel
theorem dX10_tryJoin_301 : decode cX10_tryJoin 301 = .ok (.iload 5, 2) := by decide +kernel
theorem dX10_tryJoin_303 : decode cX10_tryJoin 303 = .ok (.iadd, 1) := by decide +kernel
theorem dX10_tryJoin_304 : decode cX10_tryJoin 304 = .ok (.iaload, 1) := by decide +kernel
theorem dX10_tryJoin_305 : decode cX10_tryJoin 305 = .ok (.bipush 24, 2) := by decide +kernel
theorem dX10_tryJoin_307 : decode cX10_tryJoin 307 = .ok (.if_icmp .le 5, 3) := by decide +kernel
theorem dX10_tryJoin_310 : decode cX10_tryJoin 310 = .ok (.iconst 0, 1) := by decide +kernel
theorem dX10_tryJoin_311 : decode cX10_tryJoin 311 = .ok (.ireturn, 1) := by decide +kernel
theorem dX10_tryJoin_312 : decode cX10_tryJoin 312 = .ok (.iinc 5 1, 3) := by decide +kernel
theorem dX10_tryJoin_315 : decode cX10_tryJoin 315 = .ok (.goto (-32), 3) := by decide +kernel
theorem dX10_tryJoin_318 : decode cX10_tryJoin 318 = .ok (.iconst 0, 1) := by decide +kernel
theorem dX10_tryJoin_319 : decode cX10_tryJoin 319 = .ok (.istore 5, 2) := by decide +kernel
theorem dX10_tryJoin_321 : decode cX10_tryJoin 321 = .ok (.iload 5, 2) := by decide +kernel
theorem dX10_tryJoin_323 : decode cX10_tryJoin 323 = .ok (.iconst 3, 1) := by decide +kernel
theorem dX10_tryJoin_324 : decode cX10_tryJoin 324 = .ok (.if_icmp .ge 18, 3) := by decide +kernel
theorem dX10_tryJoin_327 : decode cX10_tryJoin 327 = .ok (.aload_n 0, 1) := by decide +kernel
theorem dX10_tryJoin_328 : decode cX10_tryJoin 328 = .ok (.iload_n 1, 1) := by decide +kernel
theorem dX10_tryJoin_329 : decode cX10_tryJoin 329 = .ok (.iload 5, 2) := by decide +kernel
theorem dX10_tryJoin_331 : decode cX10_tryJoin 331 = .ok (.iload_n 2, 1) := by decide +kernel
theorem dX10_tryJoin_332 : decode cX10_tryJoin 332 = .ok (.iload_n 3, 1) := by decide +kernel
theorem dX10_tryJoin_333 : decode cX10_tryJoin 333 = .ok (.invokevirtual 335, 3) := by decide +kernel
theorem dX10_tryJoin_336 : decode cX10_tryJoin 336 = .ok (.iinc 5 1, 3) := by decide +kernel
theorem dX10_tryJoin_339 : decode cX10_tryJoin 339 = .ok (.goto (-18), 3) := by decide +kernel
theorem dX10_tryJoin_342 : decode cX10_tryJoin 342 = .ok (.iconst 1, 1) := by decide +kernel
theorem dX10_tryJoin_343 : decode cX10_tryJoin 343 = .ok (.ireturn, 1) := by decide +kernel
theorem dX10_callAt_0 : decode cX10_callAt 0 = .ok (.iload_n 3, 1) := by decide +kernel
theorem dX10_callAt_1 : decode cX10_callAt 1 = .ok (.aload_n 0, 1) := by decide +kernel
theorem dX10_callAt_2 : decode cX10_callAt 2 = .ok (.getfield 103, 3) := by decide +kernel
theorem dX10_callAt_5 : decode cX10_callAt 5 = .ok (.iconst 3, 1) := by decide +kernel
theorem dX10_callAt_6 : decode cX10_callAt 6 = .ok (.iload_n 1, 1) := by decide +kernel
theorem dX10_callAt_7 : decode cX10_callAt 7 = .ok (.imul, 1) := by decide +kernel
theorem dX10_callAt_8 : decode cX10_callAt 8 = .ok (.iload_n 2, 1) := by decide +kernel
theorem dX10_callAt_9 : decode cX10_callAt 9 = .ok (.iadd, 1) := by decide +kernel
theorem dX10_callAt_10 : decode cX10_callAt 10 = .ok (.iaload, 1) := by decide +kernel
theorem dX10_callAt_11 : decode cX10_callAt 11 = .ok (.if_icmp .ge 21, 3) := by decide +kernel
theorem dX10_callAt_14 : decode cX10_callAt 14 = .ok (.aload_n 0, 1) := by decide +kernel
theorem dX10_callAt_15 : decode cX10_callAt 15 = .ok (.getfield 100, 3) := by decide +kernel
theorem dX10_callAt_18 : decode cX10_callAt 18 = .ok (.bipush 6, 2) := by decide +kernel
theorem dX10_callAt_20 : decode cX10_callAt 20 = .ok (.iload_n 1, 1) := by decide +kernel
theorem dX10_callAt_21 : decode cX10_callAt 21 = .ok (.imul, 1) := by decide +kernel
theorem dX10_callAt_22 : decode cX10_callAt 22 = .ok (.iconst 2, 1) := by decide +kernel
theorem dX10_callAt_23 : decode cX10_callAt 23 = .ok (.iload_n 2, 1) := by decide +kernel
theorem dX10_callAt_24 : decode cX10_callAt 24 = .ok (.imul, 1) := by decide +kernel
theorem dX10_callAt_25 : decode cX10_callAt 25 = .ok (.iadd, 1) := by decide +kernel
theorem dX10_callAt_26 : decode cX10_callAt 26 = .ok (.iload_n 3, 1) := by decide +kernel
theorem dX10_callAt_27 : decode cX10_callAt 27 = .ok (.iadd, 1) := by decide +kernel
theorem dX10_callAt_28 : decode cX10_callAt 28 = .ok (.iaload, 1) := by decide +kernel
theorem dX10_callAt_29 : decode cX10_callAt 29 = .ok (.goto 4, 3) := by decide +kernel
theorem dX10_callAt_32 : decode cX10_callAt 32 = .ok (.iconst (-1), 1) := by decide +kernel
theorem dX10_callAt_33 : decode cX10_callAt 33 = .ok (.ireturn, 1) := by decide +kernel
theorem dX10_joinCalls_0 : decode cX10_joinCalls 0 = .ok (.aload_n 0, 1) := by decide +kernel
theorem dX10_joinCalls_1 : decode cX10_joinCalls 1 = .ok (.getfield 103, 3) := by decide +kernel
theorem dX10_joinCalls_4 : decode cX10_joinCalls 4 = .ok (.iconst 3, 1) := by decide +kernel
theorem dX10_joinCalls_5 : decode cX10_joinCalls 5 = .ok (.iload_n 3, 1) := by decide +kernel
theorem dX10_joinCalls_6 : decode cX10_joinCalls 6 = .ok (.imul, 1) := by decide +kernel
theorem dX10_joinCalls_7 : decode cX10_joinCalls 7 = .ok (.iload_n 2, 1) := by decide +kernel
theorem dX10_joinCalls_8 : decode cX10_joinCalls 8 = .ok (.iadd, 1) := by decide +kernel
theorem dX10_joinCalls_9 : decode cX10_joinCalls 9 = .ok (.iaload, 1) := by decide +kernel
theorem dX10_joinCalls_10 : decode cX10_joinCalls 10 = .ok (.istore 5, 2) := by decide +kernel
theorem dX10_joinCalls_12 : decode cX10_joinCalls 12 = .ok (.aload_n 0, 1) := by decide +kernel
theorem dX10_joinCalls_13 : decode cX10_joinCalls 13 = .ok (.getfield 103, 3) := by decide +kernel
theorem dX10_joinCalls_16 : decode cX10_joinCalls 16 = .ok (.iconst 3, 1) := by decide +kernel
theorem dX10_joinCalls_17 : decode cX10_joinCalls 17 = .ok (.iload 4, 2) := by decide +kernel
theorem dX10_joinCalls_19 : decode cX10_joinCalls 19 = .ok (.imul, 1) := by decide +kernel
theorem dX10_joinCalls_20 : decode cX10_joinCalls 20 = .ok (.iload_n 2, 1) := by decide +kernel
theorem dX10_joinCalls_21 : decode cX10_joinCalls 21 = .ok (.iadd, 1) := by decide +kernel
theorem dX10_joinCalls_22 : decode cX10_joinCalls 22 = .ok (.iaload, 1) := by decide +kernel
theorem dX10_joinCalls_23 : decode cX10_joinCalls 23 = .ok (.istore 6, 2) := by decide +kernel
theorem dX10_joinCalls_25 : decode cX10_joinCalls 25 = .ok (.aload_n 0, 1) := by decide +kernel
theorem dX10_joinCalls_26 : decode cX10_joinCalls 26 = .ok (.getfield 106, 3) := by decide +kernel
theorem dX10_joinCalls_29 : decode cX10_joinCalls 29 = .ok (.iconst 3, 1) := by decide +kernel
theorem dX10_joinCalls_30 : decode cX10_joinCalls 30 = .ok (.iload_n 3, 1) := by decide +kernel
theorem dX10_joinCalls_31 : decode cX10_joinCalls 31 = .ok (.imul, 1) := by decide +kernel
theorem dX10_joinCalls_32 : decode cX10_joinCalls 32 = .ok (.iload_n 2, 1) := by decide +kernel
theorem dX10_joinCalls_33 : decode cX10_joinCalls 33 = .ok (.iadd, 1) := by decide +kernel
theorem dX10_joinCalls_34 : decode cX10_joinCalls 34 = .ok (.baload, 1) := by decide +kernel
theorem dX10_joinCalls_35 : decode cX10_joinCalls 35 = .ok (.istore 7, 2) := by decide +kernel
theorem dX10_joinCalls_37 : decode cX10_joinCalls 37 = .ok (.aload_n 0, 1) := by decide +kernel
theorem dX10_joinCalls_38 : decode cX10_joinCalls 38 = .ok (.getfield 106, 3) := by decide +kernel
theorem dX10_joinCalls_41 : decode cX10_joinCalls 41 = .ok (.iconst 3, 1) := by decide +kernel
theorem dX10_joinCalls_42 : decode cX10_joinCalls 42 = .ok (.iload 4, 2) := by decide +kernel
theorem dX10_joinCalls_44 : decode cX10_joinCalls 44 = .ok (.imul, 1) := by decide +kernel
theorem dX10_joinCalls_45 : decode cX10_joinCalls 45 = .ok (.iload_n 2, 1) := by decide +kernel
theorem dX10_joinCalls_46 : decode cX10_joinCalls 46 = .ok (.iadd, 1) := by decide +kernel
theorem dX10_joinCalls_47 : decode cX10_joinCalls 47 = .ok (.baload, 1) := by decide +kernel
theorem dX10_joinCalls_48 : decode cX10_joinCalls 48 = .ok (.istore 8, 2) := by decide +kernel
theorem dX10_joinCalls_50 : decode cX10_joinCalls 50 = .ok (.aload_n 0, 1) := by decide +kernel
theorem dX10_joinCalls_51 : decode cX10_joinCalls 51 = .ok (.getfield 103, 3) := by decide +kernel
theorem dX10_joinCalls_54 : decode cX10_joinCalls 54 = .ok (.iconst 3, 1) := by decide +kernel
theorem dX10_joinCalls_55 : decode cX10_joinCalls 55 = .ok (.iload_n 1, 1) := by decide +kernel
theorem dX10_joinCalls_56 : decode cX10_joinCalls 56 = .ok (.imul, 1) := by decide +kernel
theorem dX10_joinCalls_57 : decode cX10_joinCalls 57 = .ok (.iload_n 2, 1) := by decide +kernel
theorem dX10_joinCalls_58 : decode cX10_joinCalls 58 = .ok (.iadd, 1) := by decide +kernel
theorem dX10_joinCalls_59 : decode cX10_joinCalls 59 = .ok (.iload 5, 2) := by decide +kernel
theorem dX10_joinCalls_61 : decode cX10_joinCalls 61 = .ok (.iload 6, 2) := by decide +kernel
theorem dX10_joinCalls_63 : decode cX10_joinCalls 63 = .ok (.if_icmp .le 8, 3) := by decide +kernel
theorem dX10_joinCalls_66 : decode cX10_joinCalls 66 = .ok (.iload 5, 2) := by decide +kernel
theorem dX10_joinCalls_68 : decode cX10_joinCalls 68 = .ok (.goto 5, 3) := by decide +kernel
theorem dX10_joinCalls_71 : decode cX10_joinCalls 71 = .ok (.iload 6, 2) := by decide +kernel
theorem dX10_joinCalls_73 : decode cX10_joinCalls 73 = .ok (.iastore, 1) := by decide +kernel
theorem dX10_joinCalls_74 : decode cX10_joinCalls 74 = .ok (.aload_n 0, 1) := by decide +kernel
theorem dX10_joinCalls_75 : decode cX10_joinCalls 75 = .ok (.getfield 106, 3) := by decide +kernel
theorem dX10_joinCalls_78 : decode cX10_joinCalls 78 = .ok (.iconst 3, 1) := by decide +kernel
theorem dX10_joinCalls_79 : decode cX10_joinCalls 79 = .ok (.iload_n 1, 1) := by decide +kernel
theorem dX10_joinCalls_80 : decode cX10_joinCalls 80 = .ok (.imul, 1) := by decide +kernel
theorem dX10_joinCalls_81 : decode cX10_joinCalls 81 = .ok (.iload_n 2, 1) := by decide +kernel
theorem dX10_joinCalls_82 : decode cX10_joinCalls 82 = .ok (.iadd, 1) := by decide +kernel
theorem dX10_joinCalls_83 : decode cX10_joinCalls 83 = .ok (.iload 5, 2) := by decide +kernel
theorem dX10_joinCalls_85 : decode cX10_joinCalls 85 = .ok (.iconst 1, 1) := by decide +kernel
theorem dX10_joinCalls_86 : decode cX10_joinCalls 86 = .ok (.if_icmp .ne 8, 3) := by decide +kernel
theorem dX10_joinCalls_89 : decode cX10_joinCalls 89 = .ok (.iload 8, 2) := by decide +kernel
theorem dX10_joinCalls_91 : decode cX10_joinCalls 91 = .ok (.goto 29, 3) := by decide +kernel
theorem dX10_joinCalls_94 : decode cX10_joinCalls 94 = .ok (.iload 6, 2) := by decide +kernel
theorem dX10_joinCalls_96 : decode cX10_joinCalls 96 = .ok (.iconst 1, 1) := by decide +kernel
theorem dX10_joinCalls_97 : decode cX10_joinCalls 97 = .ok (.if_icmp .ne 8, 3) := by decide +kernel
theorem dX10_joinCalls_100 : decode cX10_joinCalls 100 = .ok (.iload 7, 2) := by decide +kernel
theorem dX10_joinCalls_102 : decode cX10_joinCalls 102 = .ok (.goto 18, 3) := by decide +kernel
theorem dX10_joinCalls_105 : decode cX10_joinCalls 105 = .ok (.iload 7, 2) := by decide +kernel
theorem dX10_joinCalls_107 : decode cX10_joinCalls 107 = .ok (.ifCond .eq 12, 3) := by decide +kernel
theorem dX10_joinCalls_110 : decode cX10_joinCalls 110 = .ok (.iload 8, 2) := by decide +kernel
theorem dX10_joinCalls_112 : decode cX10_joinCalls 112 = .ok (.ifCond .eq 7, 3) := by decide +kernel
theorem dX10_joinCalls_115 : decode cX10_joinCalls 115 = .ok (.iconst 1, 1) := by decide +kernel
theorem dX10_joinCalls_116 : decode cX10_joinCalls 116 = .ok (.goto 4, 3) := by decide +kernel
theorem dX10_joinCalls_119 : decode cX10_joinCalls 119 = .ok (.iconst 0, 1) := by decide +kernel
theorem dX10_joinCalls_120 : decode cX10_joinCalls 120 = .ok (.bastore, 1) := by decide +kernel
theorem dX10_joinCalls_121 : decode cX10_joinCalls 121 = .ok (.iconst 0, 1) := by decide +kernel
theorem dX10_joinCalls_122 : decode cX10_joinCalls 122 = .ok (.istore 9, 2) := by decide +kernel
theorem dX10_joinCalls_124 : decode cX10_joinCalls 124 = .ok (.iload 9, 2) := by decide +kernel
theorem dX10_joinCalls_126 : decode cX10_joinCalls 126 = .ok (.iconst 2, 1) := by decide +kernel
theorem dX10_joinCalls_127 : decode cX10_joinCalls 127 = .ok (.if_icmp .ge 86, 3) := by decide +kernel
theorem dX10_joinCalls_130 : decode cX10_joinCalls 130 = .ok (.aload_n 0, 1) := by decide +kernel
theorem dX10_joinCalls_131 : decode cX10_joinCalls 131 = .ok (.iload_n 3, 1) := by decide +kernel
theorem dX10_joinCalls_132 : decode cX10_joinCalls 132 = .ok (.iload_n 2, 1) := by decide +kernel
theorem dX10_joinCalls_133 : decode cX10_joinCalls 133 = .ok (.iload 9, 2) := by decide +kernel
theorem dX10_joinCalls_135 : decode cX10_joinCalls 135 = .ok (.invokevirtual 338, 3) := by decide +kernel
theorem dX10_joinCalls_138 : decode cX10_joinCalls 138 = .ok (.istore 10, 2) := by decide +kernel
theorem dX10_joinCalls_140 : decode cX10_joinCalls 140 = .ok (.aload_n 0, 1) := by decide +kernel
theorem dX10_joinCalls_141 : decode cX10_joinCalls 141 = .ok (.iload 4, 2) := by decide +kernel
theorem dX10_joinCalls_143 : decode cX10_joinCalls 143 = .ok (.iload_n 2, 1) := by decide +kernel
theorem dX10_joinCalls_144 : decode cX10_joinCalls 144 = .ok (.iload 9, 2) := by decide +kernel
theorem dX10_joinCalls_146 : decode cX10_joinCalls 146 = .ok (.invokevirtual 338, 3) := by decide +kernel
theorem dX10_joinCalls_149 : decode cX10_joinCalls 149 = .ok (.istore 11, 2) := by decide +kernel
theorem dX10_joinCalls_151 : decode cX10_joinCalls 151 = .ok (.aload_n 0, 1) := by decide +kernel
theorem dX10_joinCalls_152 : decode cX10_joinCalls 152 = .ok (.getfield 100, 3) := by decide +kernel
theorem dX10_joinCalls_155 : decode cX10_joinCalls 155 = .ok (.bipush 6, 2) := by decide +kernel
theorem dX10_joinCalls_157 : decode cX10_joinCalls 157 = .ok (.iload_n 1, 1) := by decide +kernel
theorem dX10_joinCalls_158 : decode cX10_joinCalls 158 = .ok (.imul, 1) := by decide +kernel
theorem dX10_joinCalls_159 : decode cX10_joinCalls 159 = .ok (.iconst 2, 1) := by decide +kernel
theorem dX10_joinCalls_160 : decode cX10_joinCalls 160 = .ok (.iload_n 2, 1) := by decide +kernel
theorem dX10_joinCalls_161 : decode cX10_joinCalls 161 = .ok (.imul, 1) := by decide +kernel
theorem dX10_joinCalls_162 : decode cX10_joinCalls 162 = .ok (.iadd, 1) := by decide +kernel
theorem dX10_joinCalls_163 : decode cX10_joinCalls 163 = .ok (.iload 9, 2) := by decide +kernel
theorem dX10_joinCalls_165 : decode cX10_joinCalls 165 = .ok (.iadd, 1) := by decide +kernel
theorem dX10_joinCalls_166 : decode cX10_joinCalls 166 = .ok (.iload 10, 2) := by decide +kernel
theorem dX10_joinCalls_168 : decode cX10_joinCalls 168 = .ok (.ifCond .le 8, 3) := by decide +kernel
theorem dX10_joinCalls_171 : decode cX10_joinCalls 171 = .ok (.iload 10, 2) := by decide +kernel
theorem dX10_joinCalls_173 : decode cX10_joinCalls 173 = .ok (.goto 33, 3) := by decide +kernel
theorem dX10_joinCalls_176 : decode cX10_joinCalls 176 = .ok (.iload 11, 2) := by decide +kernel
theorem dX10_joinCalls_178 : decode cX10_joinCalls 178 = .ok (.ifCond .le 13, 3) := by decide +kernel
theorem dX10_joinCalls_181 : decode cX10_joinCalls 181 = .ok (.aload_n 0, 1) := by decide +kernel
theorem dX10_joinCalls_182 : decode cX10_joinCalls 182 = .ok (.getfield 118, 3) := by decide +kernel
theorem dX10_joinCalls_185 : decode cX10_joinCalls 185 = .ok (.iload 11, 2) := by decide +kernel
theorem dX10_joinCalls_187 : decode cX10_joinCalls 187 = .ok (.iaload, 1) := by decide +kernel
theorem dX10_joinCalls_188 : decode cX10_joinCalls 188 = .ok (.goto 18, 3) := by decide +kernel
theorem dX10_joinCalls_191 : decode cX10_joinCalls 191 = .ok (.iload 10, 2) := by decide +kernel
theorem dX10_joinCalls_193 : decode cX10_joinCalls 193 = .ok (.ifCond .eq 8, 3) := by decide +kernel
theorem dX10_joinCalls_196 : decode cX10_joinCalls 196 = .ok (.iload 11, 2) := by decide +kernel
theorem dX10_joinCalls_198 : decode cX10_joinCalls 198 = .ok (.ifCond .ne 7, 3) := by decide +kernel
theorem dX10_joinCalls_201 : decode cX10_joinCalls 201 = .ok (.iconst 0, 1) := by decide +kernel
theorem dX10_joinCalls_202 : decode cX10_joinCalls 202 = .ok (.goto 4, 3) := by decide +kernel
theorem dX10_joinCalls_205 : decode cX10_joinCalls 205 = .ok (.iconst (-1), 1) := by decide +kernel
theorem dX10_joinCalls_206 : decode cX10_joinCalls 206 = .ok (.iastore, 1) := by decide +kernel
theorem dX10_joinCalls_207 : decode cX10_joinCalls 207 = .ok (.iinc 9 1, 3) := by decide +kernel
theorem dX10_joinCalls_210 : decode cX10_joinCalls 210 = .ok (.goto (-86), 3) := by decide +kernel
theorem dX10_joinCalls_213 : decode cX10_joinCalls 213 = .ok (.return_, 1) := by decide +kernel
theorem dX10_join_0 : decode cX10_join 0 = .ok (.aload_n 0, 1) := by decide +kernel
theorem dX10_join_1 : decode cX10_join 1 = .ok (.iload_n 1, 1) := by decide +kernel
theorem dX10_join_2 : decode cX10_join 2 = .ok (.iconst 0, 1) := by decide +kernel
theorem dX10_join_3 : decode cX10_join 3 = .ok (.iconst 1, 1) := by decide +kernel
theorem dX10_join_4 : decode cX10_join 4 = .ok (.invokestatic 136, 3) := by decide +kernel
theorem dX10_join_7 : decode cX10_join 7 = .ok (.invokevirtual 143, 3) := by decide +kernel
theorem dX10_join_10 : decode cX10_join 10 = .ok (.ifCond .ne 5, 3) := by decide +kernel
theorem dX10_join_13 : decode cX10_join 13 = .ok (.iconst 0, 1) := by decide +kernel
theorem dX10_join_14 : decode cX10_join 14 = .ok (.ireturn, 1) := by decide +kernel
theorem dX10_join_15 : decode cX10_join 15 = .ok (.iconst 0, 1) := by decide +kernel
theorem dX10_join_16 : decode cX10_join 16 = .ok (.istore_n 2, 1) := by decide +kernel
theorem dX10_join_17 : decode cX10_join 17 = .ok (.iconst 0, 1) := by decide +kernel
theorem dX10_join_18 : decode cX10_join 18 = .ok (.istore_n 3, 1) := by decide +kernel
theorem dX10_join_19 : decode cX10_join 19 = .ok (.iload_n 3, 1) := by decide +kernel
theorem dX10_join_20 : decode cX10_join 20 = .ok (.aload_n 0, 1) := by decide +kernel
theorem dX10_join_21 : decode cX10_join 21 = .ok (.getfield 60, 3) := by decide +kernel
theorem dX10_join_24 : decode cX10_join 24 = .ok (.iload_n 1, 1) := by decide +kernel
theorem dX10_join_25 : decode cX10_join 25 = .ok (.iaload, 1) := by decide +kernel
theorem dX10_join_26 : decode cX10_join 26 = .ok (.if_icmp .ge 71, 3) := by decide +kernel
theorem dX10_join_29 : decode cX10_join 29 = .ok (.bipush 60, 2) := by decide +kernel
theorem dX10_join_31 : decode cX10_join 31 = .ok (.iload_n 1, 1) := by decide +kernel
theorem dX10_join_32 : decode cX10_join 32 = .ok (.imul, 1) := by decide +kernel
theorem dX10_join_33 : decode cX10_join 33 = .ok (.iload_n 3, 1) := by decide +kernel
theorem dX10_join_34 : decode cX10_join 34 = .ok (.iadd, 1) := by decide +kernel
theorem dX10_join_35 : decode cX10_join 35 = .ok (.istore 4, 2) := by decide +kernel
theorem dX10_join_37 : decode cX10_join 37 = .ok (.bipush 120, 2) := by decide +kernel
theorem dX10_join_39 : decode cX10_join 39 = .ok (.iload_n 2, 1) := by decide +kernel
theorem dX10_join_40 : decode cX10_join 40 = .ok (.iadd, 1) := by decide +kernel
theorem dX10_join_41 : decode cX10_join 41 = .ok (.iconst 1, 1) := by decide +kernel
theorem dX10_join_42 : decode cX10_join 42 = .ok (.isub, 1) := by decide +kernel
theorem dX10_join_43 : decode cX10_join 43 = .ok (.istore 5, 2) := by decide +kernel
theorem dX10_join_45 : decode cX10_join 45 = .ok (.sipush 180, 3) := by decide +kernel
theorem dX10_join_48 : decode cX10_join 48 = .ok (.istore 6, 2) := by decide +kernel
theorem dX10_join_50 : decode cX10_join 50 = .ok (.iload_n 2, 1) := by decide +kernel
theorem dX10_join_51 : decode cX10_join 51 = .ok (.ifCond .le 27, 3) := by decide +kernel
theorem dX10_join_54 : decode cX10_join 54 = .ok (.aload_n 0, 1) := by decide +kernel
theorem dX10_join_55 : decode cX10_join 55 = .ok (.iload 6, 2) := by decide +kernel
theorem dX10_join_57 : decode cX10_join 57 = .ok (.iload 5, 2) := by decide +kernel
theorem dX10_join_59 : decode cX10_join 59 = .ok (.iload 4, 2) := by decide +kernel
