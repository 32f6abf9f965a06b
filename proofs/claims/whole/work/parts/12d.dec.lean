theorem dX10_join_61 : decode cX10_join 61 = .ok (.invokevirtual 341, 3) := by decide +kernel
theorem dX10_join_64 : decode cX10_join 64 = .ok (.ifCond .eq 14, 3) := by decide +kernel
theorem dX10_join_67 : decode cX10_join 67 = .ok (.aload_n 0, 1) := by decide +kernel
theorem dX10_join_68 : decode cX10_join 68 = .ok (.iload 5, 2) := by decide +kernel
theorem dX10_join_70 : decode cX10_join 70 = .ok (.iload 6, 2) := by decide +kernel
theorem dX10_join_72 : decode cX10_join 72 = .ok (.invokevirtual 197, 3) := by decide +kernel
theorem dX10_join_75 : decode cX10_join 75 = .ok (.goto 16, 3) := by decide +kernel
theorem dX10_join_78 : decode cX10_join 78 = .ok (.aload_n 0, 1) := by decide +kernel
theorem dX10_join_79 : decode cX10_join 79 = .ok (.bipush 120, 2) := by decide +kernel
theorem dX10_join_81 : decode cX10_join 81 = .ok (.iload_n 2, 1) := by decide +kernel
theorem dX10_join_82 : decode cX10_join 82 = .ok (.iadd, 1) := by decide +kernel
theorem dX10_join_83 : decode cX10_join 83 = .ok (.iload 4, 2) := by decide +kernel
theorem dX10_join_85 : decode cX10_join 85 = .ok (.invokevirtual 197, 3) := by decide +kernel
theorem dX10_join_88 : decode cX10_join 88 = .ok (.iinc 2 1, 3) := by decide +kernel
theorem dX10_join_91 : decode cX10_join 91 = .ok (.iinc 3 1, 3) := by decide +kernel
theorem dX10_join_94 : decode cX10_join 94 = .ok (.goto (-75), 3) := by decide +kernel
theorem dX10_join_97 : decode cX10_join 97 = .ok (.aload_n 0, 1) := by decide +kernel
theorem dX10_join_98 : decode cX10_join 98 = .ok (.getfield 60, 3) := by decide +kernel
theorem dX10_join_101 : decode cX10_join 101 = .ok (.iload_n 1, 1) := by decide +kernel
theorem dX10_join_102 : decode cX10_join 102 = .ok (.iload_n 2, 1) := by decide +kernel
theorem dX10_join_103 : decode cX10_join 103 = .ok (.iastore, 1) := by decide +kernel
theorem dX10_join_104 : decode cX10_join 104 = .ok (.iconst 0, 1) := by decide +kernel
theorem dX10_join_105 : decode cX10_join 105 = .ok (.istore_n 3, 1) := by decide +kernel
theorem dX10_join_106 : decode cX10_join 106 = .ok (.iload_n 3, 1) := by decide +kernel
theorem dX10_join_107 : decode cX10_join 107 = .ok (.iload_n 2, 1) := by decide +kernel
theorem dX10_join_108 : decode cX10_join 108 = .ok (.if_icmp .ge 23, 3) := by decide +kernel
theorem dX10_join_111 : decode cX10_join 111 = .ok (.aload_n 0, 1) := by decide +kernel
theorem dX10_join_112 : decode cX10_join 112 = .ok (.bipush 60, 2) := by decide +kernel
theorem dX10_join_114 : decode cX10_join 114 = .ok (.iload_n 1, 1) := by decide +kernel
theorem dX10_join_115 : decode cX10_join 115 = .ok (.imul, 1) := by decide +kernel
theorem dX10_join_116 : decode cX10_join 116 = .ok (.iload_n 3, 1) := by decide +kernel
theorem dX10_join_117 : decode cX10_join 117 = .ok (.iadd, 1) := by decide +kernel
theorem dX10_join_118 : decode cX10_join 118 = .ok (.bipush 120, 2) := by decide +kernel
theorem dX10_join_120 : decode cX10_join 120 = .ok (.iload_n 3, 1) := by decide +kernel
theorem dX10_join_121 : decode cX10_join 121 = .ok (.iadd, 1) := by decide +kernel
theorem dX10_join_122 : decode cX10_join 122 = .ok (.invokevirtual 197, 3) := by decide +kernel
theorem dX10_join_125 : decode cX10_join 125 = .ok (.iinc 3 1, 3) := by decide +kernel
theorem dX10_join_128 : decode cX10_join 128 = .ok (.goto (-22), 3) := by decide +kernel
theorem dX10_join_131 : decode cX10_join 131 = .ok (.iload_n 2, 1) := by decide +kernel
theorem dX10_join_132 : decode cX10_join 132 = .ok (.ireturn, 1) := by decide +kernel
theorem dX10_isBefore_0 : decode cX10_isBefore 0 = .ok (.aload_n 0, 1) := by decide +kernel
theorem dX10_isBefore_1 : decode cX10_isBefore 1 = .ok (.getfield 72, 3) := by decide +kernel
theorem dX10_isBefore_4 : decode cX10_isBefore 4 = .ok (.iload_n 1, 1) := by decide +kernel
theorem dX10_isBefore_5 : decode cX10_isBefore 5 = .ok (.iaload, 1) := by decide +kernel
theorem dX10_isBefore_6 : decode cX10_isBefore 6 = .ok (.aload_n 0, 1) := by decide +kernel
theorem dX10_isBefore_7 : decode cX10_isBefore 7 = .ok (.getfield 72, 3) := by decide +kernel
theorem dX10_isBefore_10 : decode cX10_isBefore 10 = .ok (.iload_n 2, 1) := by decide +kernel
theorem dX10_isBefore_11 : decode cX10_isBefore 11 = .ok (.iaload, 1) := by decide +kernel
theorem dX10_isBefore_12 : decode cX10_isBefore 12 = .ok (.if_icmp .lt 33, 3) := by decide +kernel
theorem dX10_isBefore_15 : decode cX10_isBefore 15 = .ok (.aload_n 0, 1) := by decide +kernel
theorem dX10_isBefore_16 : decode cX10_isBefore 16 = .ok (.getfield 72, 3) := by decide +kernel
theorem dX10_isBefore_19 : decode cX10_isBefore 19 = .ok (.iload_n 1, 1) := by decide +kernel
theorem dX10_isBefore_20 : decode cX10_isBefore 20 = .ok (.iaload, 1) := by decide +kernel
theorem dX10_isBefore_21 : decode cX10_isBefore 21 = .ok (.aload_n 0, 1) := by decide +kernel
theorem dX10_isBefore_22 : decode cX10_isBefore 22 = .ok (.getfield 72, 3) := by decide +kernel
theorem dX10_isBefore_25 : decode cX10_isBefore 25 = .ok (.iload_n 2, 1) := by decide +kernel
theorem dX10_isBefore_26 : decode cX10_isBefore 26 = .ok (.iaload, 1) := by decide +kernel
theorem dX10_isBefore_27 : decode cX10_isBefore 27 = .ok (.if_icmp .ne 22, 3) := by decide +kernel
theorem dX10_isBefore_30 : decode cX10_isBefore 30 = .ok (.aload_n 0, 1) := by decide +kernel
theorem dX10_isBefore_31 : decode cX10_isBefore 31 = .ok (.getfield 75, 3) := by decide +kernel
theorem dX10_isBefore_34 : decode cX10_isBefore 34 = .ok (.iload_n 1, 1) := by decide +kernel
theorem dX10_isBefore_35 : decode cX10_isBefore 35 = .ok (.iaload, 1) := by decide +kernel
theorem dX10_isBefore_36 : decode cX10_isBefore 36 = .ok (.aload_n 0, 1) := by decide +kernel
theorem dX10_isBefore_37 : decode cX10_isBefore 37 = .ok (.getfield 75, 3) := by decide +kernel
theorem dX10_isBefore_40 : decode cX10_isBefore 40 = .ok (.iload_n 2, 1) := by decide +kernel
theorem dX10_isBefore_41 : decode cX10_isBefore 41 = .ok (.iaload, 1) := by decide +kernel
theorem dX10_isBefore_42 : decode cX10_isBefore 42 = .ok (.if_icmp .ge 7, 3) := by decide +kernel
theorem dX10_isBefore_45 : decode cX10_isBefore 45 = .ok (.iconst 1, 1) := by decide +kernel
theorem dX10_isBefore_46 : decode cX10_isBefore 46 = .ok (.goto 4, 3) := by decide +kernel
theorem dX10_isBefore_49 : decode cX10_isBefore 49 = .ok (.iconst 0, 1) := by decide +kernel
theorem dX10_isBefore_50 : decode cX10_isBefore 50 = .ok (.ireturn, 1) := by decide +kernel
theorem dX10_rank_0 : decode cX10_rank 0 = .ok (.bipush 60, 2) := by decide +kernel
theorem dX10_rank_2 : decode cX10_rank 2 = .ok (.iload_n 1, 1) := by decide +kernel
theorem dX10_rank_3 : decode cX10_rank 3 = .ok (.imul, 1) := by decide +kernel
theorem dX10_rank_4 : decode cX10_rank 4 = .ok (.iload_n 2, 1) := by decide +kernel
theorem dX10_rank_5 : decode cX10_rank 5 = .ok (.iadd, 1) := by decide +kernel
theorem dX10_rank_6 : decode cX10_rank 6 = .ok (.istore_n 3, 1) := by decide +kernel
theorem dX10_rank_7 : decode cX10_rank 7 = .ok (.iconst 0, 1) := by decide +kernel
theorem dX10_rank_8 : decode cX10_rank 8 = .ok (.istore 4, 2) := by decide +kernel
theorem dX10_rank_10 : decode cX10_rank 10 = .ok (.iconst 0, 1) := by decide +kernel
theorem dX10_rank_11 : decode cX10_rank 11 = .ok (.istore 5, 2) := by decide +kernel
theorem dX10_rank_13 : decode cX10_rank 13 = .ok (.iload 5, 2) := by decide +kernel
theorem dX10_rank_15 : decode cX10_rank 15 = .ok (.aload_n 0, 1) := by decide +kernel
theorem dX10_rank_16 : decode cX10_rank 16 = .ok (.getfield 60, 3) := by decide +kernel
theorem dX10_rank_19 : decode cX10_rank 19 = .ok (.iload_n 1, 1) := by decide +kernel
theorem dX10_rank_20 : decode cX10_rank 20 = .ok (.iaload, 1) := by decide +kernel
theorem dX10_rank_21 : decode cX10_rank 21 = .ok (.if_icmp .ge 47, 3) := by decide +kernel
theorem dX10_rank_24 : decode cX10_rank 24 = .ok (.bipush 60, 2) := by decide +kernel
theorem dX10_rank_26 : decode cX10_rank 26 = .ok (.iload_n 1, 1) := by decide +kernel
theorem dX10_rank_27 : decode cX10_rank 27 = .ok (.imul, 1) := by decide +kernel
theorem dX10_rank_28 : decode cX10_rank 28 = .ok (.iload 5, 2) := by decide +kernel
theorem dX10_rank_30 : decode cX10_rank 30 = .ok (.iadd, 1) := by decide +kernel
theorem dX10_rank_31 : decode cX10_rank 31 = .ok (.istore 6, 2) := by decide +kernel
theorem dX10_rank_33 : decode cX10_rank 33 = .ok (.aload_n 0, 1) := by decide +kernel
theorem dX10_rank_34 : decode cX10_rank 34 = .ok (.iload 6, 2) := by decide +kernel
theorem dX10_rank_36 : decode cX10_rank 36 = .ok (.iload_n 3, 1) := by decide +kernel
theorem dX10_rank_37 : decode cX10_rank 37 = .ok (.invokevirtual 344, 3) := by decide +kernel
theorem dX10_rank_40 : decode cX10_rank 40 = .ok (.ifCond .ne 19, 3) := by decide +kernel
theorem dX10_rank_43 : decode cX10_rank 43 = .ok (.aload_n 0, 1) := by decide +kernel
theorem dX10_rank_44 : decode cX10_rank 44 = .ok (.iload_n 3, 1) := by decide +kernel
theorem dX10_rank_45 : decode cX10_rank 45 = .ok (.iload 6, 2) := by decide +kernel
theorem dX10_rank_47 : decode cX10_rank 47 = .ok (.invokevirtual 344, 3) := by decide +kernel
theorem dX10_rank_50 : decode cX10_rank 50 = .ok (.ifCond .ne 12, 3) := by decide +kernel
theorem dX10_rank_53 : decode cX10_rank 53 = .ok (.iload 5, 2) := by decide +kernel
theorem dX10_rank_55 : decode cX10_rank 55 = .ok (.iload_n 2, 1) := by decide +kernel
theorem dX10_rank_56 : decode cX10_rank 56 = .ok (.if_icmp .ge 6, 3) := by decide +kernel
theorem dX10_rank_59 : decode cX10_rank 59 = .ok (.iinc 4 1, 3) := by decide +kernel
theorem dX10_rank_62 : decode cX10_rank 62 = .ok (.iinc 5 1, 3) := by decide +kernel
theorem dX10_rank_65 : decode cX10_rank 65 = .ok (.goto (-52), 3) := by decide +kernel
theorem dX10_rank_68 : decode cX10_rank 68 = .ok (.iload 4, 2) := by decide +kernel
theorem dX10_rank_70 : decode cX10_rank 70 = .ok (.ireturn, 1) := by decide +kernel
theorem dX10_sortInto_0 : decode cX10_sortInto 0 = .ok (.iconst 0, 1) := by decide +kernel
theorem dX10_sortInto_1 : decode cX10_sortInto 1 = .ok (.istore_n 3, 1) := by decide +kernel
theorem dX10_sortInto_2 : decode cX10_sortInto 2 = .ok (.iconst 0, 1) := by decide +kernel
theorem dX10_sortInto_3 : decode cX10_sortInto 3 = .ok (.istore 4, 2) := by decide +kernel
theorem dX10_sortInto_5 : decode cX10_sortInto 5 = .ok (.iload 4, 2) := by decide +kernel
theorem dX10_sortInto_7 : decode cX10_sortInto 7 = .ok (.aload_n 0, 1) := by decide +kernel
theorem dX10_sortInto_8 : decode cX10_sortInto 8 = .ok (.getfield 60, 3) := by decide +kernel
theorem dX10_sortInto_11 : decode cX10_sortInto 11 = .ok (.iload_n 2, 1) := by decide +kernel
theorem dX10_sortInto_12 : decode cX10_sortInto 12 = .ok (.iaload, 1) := by decide +kernel
theorem dX10_sortInto_13 : decode cX10_sortInto 13 = .ok (.if_icmp .ge 51, 3) := by decide +kernel
theorem dX10_sortInto_16 : decode cX10_sortInto 16 = .ok (.aload_n 0, 1) := by decide +kernel
theorem dX10_sortInto_17 : decode cX10_sortInto 17 = .ok (.iload_n 2, 1) := by decide +kernel
theorem dX10_sortInto_18 : decode cX10_sortInto 18 = .ok (.iload 4, 2) := by decide +kernel
theorem dX10_sortInto_20 : decode cX10_sortInto 20 = .ok (.invokevirtual 347, 3) := by decide +kernel
theorem dX10_sortInto_23 : decode cX10_sortInto 23 = .ok (.istore 5, 2) := by decide +kernel
theorem dX10_sortInto_25 : decode cX10_sortInto 25 = .ok (.aload_n 0, 1) := by decide +kernel
theorem dX10_sortInto_26 : decode cX10_sortInto 26 = .ok (.bipush 60, 2) := by decide +kernel
theorem dX10_sortInto_28 : decode cX10_sortInto 28 = .ok (.iload_n 1, 1) := by decide +kernel
theorem dX10_sortInto_29 : decode cX10_sortInto 29 = .ok (.imul, 1) := by decide +kernel
theorem dX10_sortInto_30 : decode cX10_sortInto 30 = .ok (.iload 5, 2) := by decide +kernel
theorem dX10_sortInto_32 : decode cX10_sortInto 32 = .ok (.iadd, 1) := by decide +kernel
theorem dX10_sortInto_33 : decode cX10_sortInto 33 = .ok (.bipush 60, 2) := by decide +kernel
theorem dX10_sortInto_35 : decode cX10_sortInto 35 = .ok (.iload_n 2, 1) := by decide +kernel
theorem dX10_sortInto_36 : decode cX10_sortInto 36 = .ok (.imul, 1) := by decide +kernel
theorem dX10_sortInto_37 : decode cX10_sortInto 37 = .ok (.iload 4, 2) := by decide +kernel
theorem dX10_sortInto_39 : decode cX10_sortInto 39 = .ok (.iadd, 1) := by decide +kernel
theorem dX10_sortInto_40 : decode cX10_sortInto 40 = .ok (.invokevirtual 197, 3) := by decide +kernel
theorem dX10_sortInto_43 : decode cX10_sortInto 43 = .ok (.iload 5, 2) := by decide +kernel
theorem dX10_sortInto_45 : decode cX10_sortInto 45 = .ok (.iload 4, 2) := by decide +kernel
theorem dX10_sortInto_47 : decode cX10_sortInto 47 = .ok (.if_icmp .eq 9, 3) := by decide +kernel
theorem dX10_sortInto_50 : decode cX10_sortInto 50 = .ok (.iload_n 3, 1) := by decide +kernel
theorem dX10_sortInto_51 : decode cX10_sortInto 51 = .ok (.iconst 1, 1) := by decide +kernel
theorem dX10_sortInto_52 : decode cX10_sortInto 52 = .ok (.iadd, 1) := by decide +kernel
theorem dX10_sortInto_53 : decode cX10_sortInto 53 = .ok (.goto 4, 3) := by decide +kernel
theorem dX10_sortInto_56 : decode cX10_sortInto 56 = .ok (.iload_n 3, 1) := by decide +kernel
theorem dX10_sortInto_57 : decode cX10_sortInto 57 = .ok (.istore_n 3, 1) := by decide +kernel
theorem dX10_sortInto_58 : decode cX10_sortInto 58 = .ok (.iinc 4 1, 3) := by decide +kernel
theorem dX10_sortInto_61 : decode cX10_sortInto 61 = .ok (.goto (-56), 3) := by decide +kernel
theorem dX10_sortInto_64 : decode cX10_sortInto 64 = .ok (.aload_n 0, 1) := by decide +kernel
theorem dX10_sortInto_65 : decode cX10_sortInto 65 = .ok (.getfield 60, 3) := by decide +kernel
theorem dX10_sortInto_68 : decode cX10_sortInto 68 = .ok (.iload_n 1, 1) := by decide +kernel
theorem dX10_sortInto_69 : decode cX10_sortInto 69 = .ok (.aload_n 0, 1) := by decide +kernel
theorem dX10_sortInto_70 : decode cX10_sortInto 70 = .ok (.getfield 60, 3) := by decide +kernel
theorem dX10_sortInto_73 : decode cX10_sortInto 73 = .ok (.iload_n 2, 1) := by decide +kernel
theorem dX10_sortInto_74 : decode cX10_sortInto 74 = .ok (.iaload, 1) := by decide +kernel
theorem dX10_sortInto_75 : decode cX10_sortInto 75 = .ok (.iastore, 1) := by decide +kernel
theorem dX10_sortInto_76 : decode cX10_sortInto 76 = .ok (.iload_n 3, 1) := by decide +kernel
theorem dX10_sortInto_77 : decode cX10_sortInto 77 = .ok (.ireturn, 1) := by decide +kernel
theorem dX10_sort_0 : decode cX10_sort 0 = .ok (.aload_n 0, 1) := by decide +kernel
theorem dX10_sort_1 : decode cX10_sort 1 = .ok (.iload_n 1, 1) := by decide +kernel
theorem dX10_sort_2 : decode cX10_sort 2 = .ok (.iconst 0, 1) := by decide +kernel
theorem dX10_sort_3 : decode cX10_sort 3 = .ok (.iconst 1, 1) := by decide +kernel
theorem dX10_sort_4 : decode cX10_sort 4 = .ok (.invokestatic 136, 3) := by decide +kernel
theorem dX10_sort_7 : decode cX10_sort 7 = .ok (.invokevirtual 143, 3) := by decide +kernel
theorem dX10_sort_10 : decode cX10_sort 10 = .ok (.ifCond .ne 5, 3) := by decide +kernel
theorem dX10_sort_13 : decode cX10_sort 13 = .ok (.iconst 0, 1) := by decide +kernel
theorem dX10_sort_14 : decode cX10_sort 14 = .ok (.ireturn, 1) := by decide +kernel
theorem dX10_sort_15 : decode cX10_sort 15 = .ok (.aload_n 0, 1) := by decide +kernel
theorem dX10_sort_16 : decode cX10_sort 16 = .ok (.iconst 2, 1) := by decide +kernel
theorem dX10_sort_17 : decode cX10_sort 17 = .ok (.iload_n 1, 1) := by decide +kernel
theorem dX10_sort_18 : decode cX10_sort 18 = .ok (.invokevirtual 350, 3) := by decide +kernel
theorem dX10_sort_21 : decode cX10_sort 21 = .ok (.istore_n 2, 1) := by decide +kernel
theorem dX10_sort_22 : decode cX10_sort 22 = .ok (.iconst 0, 1) := by decide +kernel
theorem dX10_sort_23 : decode cX10_sort 23 = .ok (.istore_n 3, 1) := by decide +kernel
theorem dX10_sort_24 : decode cX10_sort 24 = .ok (.iload_n 3, 1) := by decide +kernel
theorem dX10_sort_25 : decode cX10_sort 25 = .ok (.aload_n 0, 1) := by decide +kernel
theorem dX10_sort_26 : decode cX10_sort 26 = .ok (.getfield 60, 3) := by decide +kernel
theorem dX10_sort_29 : decode cX10_sort 29 = .ok (.iload_n 1, 1) := by decide +kernel
theorem dX10_sort_30 : decode cX10_sort 30 = .ok (.iaload, 1) := by decide +kernel
theorem dX10_sort_31 : decode cX10_sort 31 = .ok (.if_icmp .ge 23, 3) := by decide +kernel
theorem dX10_sort_34 : decode cX10_sort 34 = .ok (.aload_n 0, 1) := by decide +kernel
theorem dX10_sort_35 : decode cX10_sort 35 = .ok (.bipush 60, 2) := by decide +kernel
theorem dX10_sort_37 : decode cX10_sort 37 = .ok (.iload_n 1, 1) := by decide +kernel
theorem dX10_sort_38 : decode cX10_sort 38 = .ok (.imul, 1) := by decide +kernel
theorem dX10_sort_39 : decode cX10_sort 39 = .ok (.iload_n 3, 1) := by decide +kernel
theorem dX10_sort_40 : decode cX10_sort 40 = .ok (.iadd, 1) := by decide +kernel
theorem dX10_sort_41 : decode cX10_sort 41 = .ok (.bipush 120, 2) := by decide +kernel
theorem dX10_sort_43 : decode cX10_sort 43 = .ok (.iload_n 3, 1) := by decide +kernel
theorem dX10_sort_44 : decode cX10_sort 44 = .ok (.iadd, 1) := by decide +kernel
theorem dX10_sort_45 : decode cX10_sort 45 = .ok (.invokevirtual 197, 3) := by decide +kernel
theorem dX10_sort_48 : decode cX10_sort 48 = .ok (.iinc 3 1, 3) := by decide +kernel
theorem dX10_sort_51 : decode cX10_sort 51 = .ok (.goto (-27), 3) := by decide +kernel
theorem dX10_sort_54 : decode cX10_sort 54 = .ok (.iload_n 2, 1) := by decide +kernel
theorem dX10_sort_55 : decode cX10_sort 55 = .ok (.ireturn, 1) := by decide +kernel
theorem dX10_sameRecord_0 : decode cX10_sameRecord 0 = .ok (.aload_n 0, 1) := by decide +kernel
theorem dX10_sameRecord_1 : decode cX10_sameRecord 1 = .ok (.getfield 72, 3) := by decide +kernel
theorem dX10_sameRecord_4 : decode cX10_sameRecord 4 = .ok (.iload_n 1, 1) := by decide +kernel
theorem dX10_sameRecord_5 : decode cX10_sameRecord 5 = .ok (.iaload, 1) := by decide +kernel
theorem dX10_sameRecord_6 : decode cX10_sameRecord 6 = .ok (.aload_n 0, 1) := by decide +kernel
theorem dX10_sameRecord_7 : decode cX10_sameRecord 7 = .ok (.getfield 72, 3) := by decide +kernel
theorem dX10_sameRecord_10 : decode cX10_sameRecord 10 = .ok (.iload_n 2, 1) := by decide +kernel
theorem dX10_sameRecord_11 : decode cX10_sameRecord 11 = .ok (.iaload, 1) := by decide +kernel
theorem dX10_sameRecord_12 : decode cX10_sameRecord 12 = .ok (.if_icmp .ne 37, 3) := by decide +kernel
theorem dX10_sameRecord_15 : decode cX10_sameRecord 15 = .ok (.aload_n 0, 1) := by decide +kernel
theorem dX10_sameRecord_16 : decode cX10_sameRecord 16 = .ok (.getfield 75, 3) := by decide +kernel
theorem dX10_sameRecord_19 : decode cX10_sameRecord 19 = .ok (.iload_n 1, 1) := by decide +kernel
theorem dX10_sameRecord_20 : decode cX10_sameRecord 20 = .ok (.iaload, 1) := by decide +kernel
theorem dX10_sameRecord_21 : decode cX10_sameRecord 21 = .ok (.aload_n 0, 1) := by decide +kernel
theorem dX10_sameRecord_22 : decode cX10_sameRecord 22 = .ok (.getfield 75, 3) := by decide +kernel
theorem dX10_sameRecord_25 : decode cX10_sameRecord 25 = .ok (.iload_n 2, 1) := by decide +kernel
theorem dX10_sameRecord_26 : decode cX10_sameRecord 26 = .ok (.iaload, 1) := by decide +kernel
theorem dX10_sameRecord_27 : decode cX10_sameRecord 27 = .ok (.if_icmp .ne 22, 3) := by decide +kernel
theorem dX10_sameRecord_30 : decode cX10_sameRecord 30 = .ok (.aload_n 0, 1) := by decide +kernel
theorem dX10_sameRecord_31 : decode cX10_sameRecord 31 = .ok (.getfield 84, 3) := by decide +kernel
theorem dX10_sameRecord_34 : decode cX10_sameRecord 34 = .ok (.iload_n 1, 1) := by decide +kernel
theorem dX10_sameRecord_35 : decode cX10_sameRecord 35 = .ok (.iaload, 1) := by decide +kernel
theorem dX10_sameRecord_36 : decode cX10_sameRecord 36 = .ok (.aload_n 0, 1) := by decide +kernel
theorem dX10_sameRecord_37 : decode cX10_sameRecord 37 = .ok (.getfield 84, 3) := by decide +kernel
theorem dX10_sameRecord_40 : decode cX10_sameRecord 40 = .ok (.iload_n 2, 1) := by decide +kernel
theorem dX10_sameRecord_41 : decode cX10_sameRecord 41 = .ok (.iaload, 1) := by decide +kernel
theorem dX10_sameRecord_42 : decode cX10_sameRecord 42 = .ok (.if_icmp .ne 7, 3) := by decide +kernel
theorem dX10_sameRecord_45 : decode cX10_sameRecord 45 = .ok (.iconst 1, 1) := by decide +kernel
theorem dX10_sameRecord_46 : decode cX10_sameRecord 46 = .ok (.goto 4, 3) := by decide +kernel
theorem dX10_sameRecord_49 : decode cX10_sameRecord 49 = .ok (.iconst 0, 1) := by decide +kernel
theorem dX10_sameRecord_50 : decode cX10_sameRecord 50 = .ok (.istore_n 3, 1) := by decide +kernel
theorem dX10_sameRecord_51 : decode cX10_sameRecord 51 = .ok (.iconst 0, 1) := by decide +kernel
theorem dX10_sameRecord_52 : decode cX10_sameRecord 52 = .ok (.istore 4, 2) := by decide +kernel
theorem dX10_sameRecord_54 : decode cX10_sameRecord 54 = .ok (.iload 4, 2) := by decide +kernel
theorem dX10_sameRecord_56 : decode cX10_sameRecord 56 = .ok (.aload_n 0, 1) := by decide +kernel
theorem dX10_sameRecord_57 : decode cX10_sameRecord 57 = .ok (.getfield 84, 3) := by decide +kernel
theorem dX10_sameRecord_60 : decode cX10_sameRecord 60 = .ok (.iload_n 1, 1) := by decide +kernel
theorem dX10_sameRecord_61 : decode cX10_sameRecord 61 = .ok (.iaload, 1) := by decide +kernel
theorem dX10_sameRecord_62 : decode cX10_sameRecord 62 = .ok (.if_icmp .gt 24, 3) := by decide +kernel
theorem dX10_sameRecord_65 : decode cX10_sameRecord 65 = .ok (.iload_n 3, 1) := by decide +kernel
theorem dX10_sameRecord_66 : decode cX10_sameRecord 66 = .ok (.ifCond .eq 20, 3) := by decide +kernel
theorem dX10_sameRecord_69 : decode cX10_sameRecord 69 = .ok (.aload_n 0, 1) := by decide +kernel
theorem dX10_sameRecord_70 : decode cX10_sameRecord 70 = .ok (.iload_n 1, 1) := by decide +kernel
theorem dX10_sameRecord_71 : decode cX10_sameRecord 71 = .ok (.iload 4, 2) := by decide +kernel
theorem dX10_sameRecord_73 : decode cX10_sameRecord 73 = .ok (.iload_n 2, 1) := by decide +kernel
theorem dX10_sameRecord_74 : decode cX10_sameRecord 74 = .ok (.iload 4, 2) := by decide +kernel
theorem dX10_sameRecord_76 : decode cX10_sameRecord 76 = .ok (.invokevirtual 258, 3) := by decide +kernel
theorem dX10_sameRecord_79 : decode cX10_sameRecord 79 = .ok (.istore_n 3, 1) := by decide +kernel
theorem dX10_sameRecord_80 : decode cX10_sameRecord 80 = .ok (.iinc 4 1, 3) := by decide +kernel
theorem dX10_sameRecord_83 : decode cX10_sameRecord 83 = .ok (.goto (-29), 3) := by decide +kernel
theorem dX10_sameRecord_86 : decode cX10_sameRecord 86 = .ok (.iload_n 3, 1) := by decide +kernel
theorem dX10_sameRecord_87 : decode cX10_sameRecord 87 = .ok (.ireturn, 1) := by decide +kernel
theorem dX10_merge_0 : decode cX10_merge 0 = .ok (.aload_n 0, 1) := by decide +kernel
theorem dX10_merge_1 : decode cX10_merge 1 = .ok (.iconst 0, 1) := by decide +kernel
theorem dX10_merge_2 : decode cX10_merge 2 = .ok (.putfield 133, 3) := by decide +kernel
theorem dX10_merge_5 : decode cX10_merge 5 = .ok (.aload_n 0, 1) := by decide +kernel
theorem dX10_merge_6 : decode cX10_merge 6 = .ok (.getfield 63, 3) := by decide +kernel
theorem dX10_merge_9 : decode cX10_merge 9 = .ok (.iconst 0, 1) := by decide +kernel
theorem dX10_merge_10 : decode cX10_merge 10 = .ok (.iaload, 1) := by decide +kernel
theorem dX10_merge_11 : decode cX10_merge 11 = .ok (.aload_n 0, 1) := by decide +kernel
theorem dX10_merge_12 : decode cX10_merge 12 = .ok (.getfield 63, 3) := by decide +kernel
theorem dX10_merge_15 : decode cX10_merge 15 = .ok (.iconst 1, 1) := by decide +kernel
theorem dX10_merge_16 : decode cX10_merge 16 = .ok (.iaload, 1) := by decide +kernel
theorem dX10_merge_17 : decode cX10_merge 17 = .ok (.iadd, 1) := by decide +kernel
theorem dX10_merge_18 : decode cX10_merge 18 = .ok (.iconst 3, 1) := by decide +kernel
theorem dX10_merge_19 : decode cX10_merge 19 = .ok (.if_icmp .le 5, 3) := by decide +kernel
theorem dX10_merge_22 : decode cX10_merge 22 = .ok (.iconst (-1), 1) := by decide +kernel
theorem dX10_merge_23 : decode cX10_merge 23 = .ok (.ireturn, 1) := by decide +kernel
theorem dX10_merge_24 : decode cX10_merge 24 = .ok (.iconst 0, 1) := by decide +kernel
theorem dX10_merge_25 : decode cX10_merge 25 = .ok (.istore_n 1, 1) := by decide +kernel
theorem dX10_merge_26 : decode cX10_merge 26 = .ok (.iload_n 1, 1) := by decide +kernel
theorem dX10_merge_27 : decode cX10_merge 27 = .ok (.aload_n 0, 1) := by decide +kernel
theorem dX10_merge_28 : decode cX10_merge 28 = .ok (.getfield 63, 3) := by decide +kernel
theorem dX10_merge_31 : decode cX10_merge 31 = .ok (.iconst 0, 1) := by decide +kernel
theorem dX10_merge_32 : decode cX10_merge 32 = .ok (.iaload, 1) := by decide +kernel
theorem dX10_merge_33 : decode cX10_merge 33 = .ok (.if_icmp .ge 40, 3) := by decide +kernel
theorem dX10_merge_36 : decode cX10_merge 36 = .ok (.iconst 0, 1) := by decide +kernel
theorem dX10_merge_37 : decode cX10_merge 37 = .ok (.istore_n 2, 1) := by decide +kernel
theorem dX10_merge_38 : decode cX10_merge 38 = .ok (.iload_n 2, 1) := by decide +kernel
theorem dX10_merge_39 : decode cX10_merge 39 = .ok (.aload_n 0, 1) := by decide +kernel
theorem dX10_merge_40 : decode cX10_merge 40 = .ok (.getfield 63, 3) := by decide +kernel
theorem dX10_merge_43 : decode cX10_merge 43 = .ok (.iconst 1, 1) := by decide +kernel
theorem dX10_merge_44 : decode cX10_merge 44 = .ok (.iaload, 1) := by decide +kernel
theorem dX10_merge_45 : decode cX10_merge 45 = .ok (.if_icmp .ge 22, 3) := by decide +kernel
theorem dX10_merge_48 : decode cX10_merge 48 = .ok (.aload_n 0, 1) := by decide +kernel
theorem dX10_merge_49 : decode cX10_merge 49 = .ok (.iconst 0, 1) := by decide +kernel
theorem dX10_merge_50 : decode cX10_merge 50 = .ok (.iload_n 1, 1) := by decide +kernel
theorem dX10_merge_51 : decode cX10_merge 51 = .ok (.iconst 1, 1) := by decide +kernel
theorem dX10_merge_52 : decode cX10_merge 52 = .ok (.iload_n 2, 1) := by decide +kernel
theorem dX10_merge_53 : decode cX10_merge 53 = .ok (.invokevirtual 248, 3) := by decide +kernel
theorem dX10_merge_56 : decode cX10_merge 56 = .ok (.ifCond .eq 5, 3) := by decide +kernel
theorem dX10_merge_59 : decode cX10_merge 59 = .ok (.iconst (-1), 1) := by decide +kernel
theorem dX10_merge_60 : decode cX10_merge 60 = .ok (.ireturn, 1) := by decide +kernel
theorem dX10_merge_61 : decode cX10_merge 61 = .ok (.iinc 2 1, 3) := by decide +kernel
theorem dX10_merge_64 : decode cX10_merge 64 = .ok (.goto (-26), 3) := by decide +kernel
theorem dX10_merge_67 : decode cX10_merge 67 = .ok (.iinc 1 1, 3) := by decide +kernel
theorem dX10_merge_70 : decode cX10_merge 70 = .ok (.goto (-44), 3) := by decide +kernel
theorem dX10_merge_73 : decode cX10_merge 73 = .ok (.aload_n 0, 1) := by decide +kernel
theorem dX10_merge_74 : decode cX10_merge 74 = .ok (.iconst 2, 1) := by decide +kernel
theorem dX10_merge_75 : decode cX10_merge 75 = .ok (.iconst 0, 1) := by decide +kernel
theorem dX10_merge_76 : decode cX10_merge 76 = .ok (.invokevirtual 350, 3) := by decide +kernel
theorem dX10_merge_79 : decode cX10_merge 79 = .ok (.pop, 1) := by decide +kernel
theorem dX10_merge_80 : decode cX10_merge 80 = .ok (.aload_n 0, 1) := by decide +kernel
theorem dX10_merge_81 : decode cX10_merge 81 = .ok (.iconst 3, 1) := by decide +kernel
theorem dX10_merge_82 : decode cX10_merge 82 = .ok (.iconst 1, 1) := by decide +kernel
theorem dX10_merge_83 : decode cX10_merge 83 = .ok (.invokevirtual 350, 3) := by decide +kernel
theorem dX10_merge_86 : decode cX10_merge 86 = .ok (.pop, 1) := by decide +kernel
theorem dX10_merge_87 : decode cX10_merge 87 = .ok (.iconst 0, 1) := by decide +kernel
theorem dX10_merge_88 : decode cX10_merge 88 = .ok (.istore_n 1, 1) := by decide +kernel
theorem dX10_merge_89 : decode cX10_merge 89 = .ok (.iconst 0, 1) := by decide +kernel
theorem dX10_merge_90 : decode cX10_merge 90 = .ok (.istore_n 2, 1) := by decide +kernel
theorem dX10_merge_91 : decode cX10_merge 91 = .ok (.iload_n 2, 1) := by decide +kernel
theorem dX10_merge_92 : decode cX10_merge 92 = .ok (.aload_n 0, 1) := by decide +kernel
theorem dX10_merge_93 : decode cX10_merge 93 = .ok (.getfield 60, 3) := by decide +kernel
theorem dX10_merge_96 : decode cX10_merge 96 = .ok (.iconst 2, 1) := by decide +kernel
theorem dX10_merge_97 : decode cX10_merge 97 = .ok (.iaload, 1) := by decide +kernel
theorem dX10_merge_98 : decode cX10_merge 98 = .ok (.if_icmp .ge 16, 3) := by decide +kernel
theorem dX10_merge_101 : decode cX10_merge 101 = .ok (.aload_n 0, 1) := by decide +kernel
theorem dX10_merge_102 : decode cX10_merge 102 = .ok (.getfield 121, 3) := by decide +kernel
theorem dX10_merge_105 : decode cX10_merge 105 = .ok (.iload_n 2, 1) := by decide +kernel
theorem dX10_merge_106 : decode cX10_merge 106 = .ok (.iconst (-1), 1) := by decide +kernel
theorem dX10_merge_107 : decode cX10_merge 107 = .ok (.iastore, 1) := by decide +kernel
theorem dX10_merge_108 : decode cX10_merge 108 = .ok (.iinc 2 1, 3) := by decide +kernel
theorem dX10_merge_111 : decode cX10_merge 111 = .ok (.goto (-20), 3) := by decide +kernel
theorem dX10_merge_114 : decode cX10_merge 114 = .ok (.iconst 0, 1) := by decide +kernel
theorem dX10_merge_115 : decode cX10_merge 115 = .ok (.istore_n 2, 1) := by decide +kernel
theorem dX10_merge_116 : decode cX10_merge 116 = .ok (.iload_n 2, 1) := by decide +kernel
theorem dX10_merge_117 : decode cX10_merge 117 = .ok (.aload_n 0, 1) := by decide +kernel
theorem dX10_merge_118 : decode cX10_merge 118 = .ok (.getfield 60, 3) := by decide +kernel
theorem dX10_merge_121 : decode cX10_merge 121 = .ok (.iconst 3, 1) := by decide +kernel
theorem dX10_merge_122 : decode cX10_merge 122 = .ok (.iaload, 1) := by decide +kernel
theorem dX10_merge_123 : decode cX10_merge 123 = .ok (.if_icmp .ge 87, 3) := by decide +kernel
theorem dX10_merge_126 : decode cX10_merge 126 = .ok (.aload_n 0, 1) := by decide +kernel
theorem dX10_merge_127 : decode cX10_merge 127 = .ok (.getfield 124, 3) := by decide +kernel
theorem dX10_merge_130 : decode cX10_merge 130 = .ok (.iload_n 2, 1) := by decide +kernel
theorem dX10_merge_131 : decode cX10_merge 131 = .ok (.iconst (-1), 1) := by decide +kernel
theorem dX10_merge_132 : decode cX10_merge 132 = .ok (.iastore, 1) := by decide +kernel
theorem dX10_merge_133 : decode cX10_merge 133 = .ok (.iconst 0, 1) := by decide +kernel
theorem dX10_merge_134 : decode cX10_merge 134 = .ok (.istore_n 3, 1) := by decide +kernel
theorem dX10_merge_135 : decode cX10_merge 135 = .ok (.iload_n 3, 1) := by decide +kernel
theorem dX10_merge_136 : decode cX10_merge 136 = .ok (.aload_n 0, 1) := by decide +kernel
theorem dX10_merge_137 : decode cX10_merge 137 = .ok (.getfield 60, 3) := by decide +kernel
theorem dX10_merge_140 : decode cX10_merge 140 = .ok (.iconst 2, 1) := by decide +kernel
theorem dX10_merge_141 : decode cX10_merge 141 = .ok (.iaload, 1) := by decide +kernel
theorem dX10_merge_142 : decode cX10_merge 142 = .ok (.if_icmp .ge 62, 3) := by decide +kernel
theorem dX10_merge_145 : decode cX10_merge 145 = .ok (.aload_n 0, 1) := by decide +kernel
theorem dX10_merge_146 : decode cX10_merge 146 = .ok (.getfield 124, 3) := by decide +kernel
theorem dX10_merge_149 : decode cX10_merge 149 = .ok (.iload_n 2, 1) := by decide +kernel
theorem dX10_merge_150 : decode cX10_merge 150 = .ok (.iaload, 1) := by decide +kernel
theorem dX10_merge_151 : decode cX10_merge 151 = .ok (.iconst (-1), 1) := by decide +kernel
theorem dX10_merge_152 : decode cX10_merge 152 = .ok (.if_icmp .ne 52, 3) := by decide +kernel
theorem dX10_merge_155 : decode cX10_merge 155 = .ok (.aload_n 0, 1) := by decide +kernel
theorem dX10_merge_156 : decode cX10_merge 156 = .ok (.getfield 121, 3) := by decide +kernel
theorem dX10_merge_159 : decode cX10_merge 159 = .ok (.iload_n 3, 1) := by decide +kernel
theorem dX10_merge_160 : decode cX10_merge 160 = .ok (.iaload, 1) := by decide +kernel
theorem dX10_merge_161 : decode cX10_merge 161 = .ok (.iconst (-1), 1) := by decide +kernel
theorem dX10_merge_162 : decode cX10_merge 162 = .ok (.if_icmp .ne 36, 3) := by decide +kernel
theorem dX10_merge_165 : decode cX10_merge 165 = .ok (.aload_n 0, 1) := by decide +kernel
theorem dX10_merge_166 : decode cX10_merge 166 = .ok (.bipush 120, 2) := by decide +kernel
theorem dX10_merge_168 : decode cX10_merge 168 = .ok (.iload_n 3, 1) := by decide +kernel
theorem dX10_merge_169 : decode cX10_merge 169 = .ok (.iadd, 1) := by decide +kernel
theorem dX10_merge_170 : decode cX10_merge 170 = .ok (.sipush 180, 3) := by decide +kernel
theorem dX10_merge_173 : decode cX10_merge 173 = .ok (.iload_n 2, 1) := by decide +kernel
theorem dX10_merge_174 : decode cX10_merge 174 = .ok (.iadd, 1) := by decide +kernel
theorem dX10_merge_175 : decode cX10_merge 175 = .ok (.invokevirtual 353, 3) := by decide +kernel
theorem dX10_merge_178 : decode cX10_merge 178 = .ok (.ifCond .eq 20, 3) := by decide +kernel
theorem dX10_merge_181 : decode cX10_merge 181 = .ok (.aload_n 0, 1) := by decide +kernel
theorem dX10_merge_182 : decode cX10_merge 182 = .ok (.getfield 121, 3) := by decide +kernel
theorem dX10_merge_185 : decode cX10_merge 185 = .ok (.iload_n 3, 1) := by decide +kernel
theorem dX10_merge_186 : decode cX10_merge 186 = .ok (.iload_n 2, 1) := by decide +kernel
theorem dX10_merge_187 : decode cX10_merge 187 = .ok (.iastore, 1) := by decide +kernel
theorem dX10_merge_188 : decode cX10_merge 188 = .ok (.aload_n 0, 1) := by decide +kernel
theorem dX10_merge_189 : decode cX10_merge 189 = .ok (.getfield 124, 3) := by decide +kernel
theorem dX10_merge_192 : decode cX10_merge 192 = .ok (.iload_n 2, 1) := by decide +kernel
theorem dX10_merge_193 : decode cX10_merge 193 = .ok (.iload_n 3, 1) := by decide +kernel
theorem dX10_merge_194 : decode cX10_merge 194 = .ok (.iastore, 1) := by decide +kernel
theorem dX10_merge_195 : decode cX10_merge 195 = .ok (.iinc 1 1, 3) := by decide +kernel
theorem dX10_merge_198 : decode cX10_merge 198 = .ok (.iinc 3 1, 3) := by decide +kernel
theorem dX10_merge_201 : decode cX10_merge 201 = .ok (.goto (-66), 3) := by decide +kernel
theorem dX10_merge_204 : decode cX10_merge 204 = .ok (.iinc 2 1, 3) := by decide +kernel
theorem dX10_merge_207 : decode cX10_merge 207 = .ok (.goto (-91), 3) := by decide +kernel
theorem dX10_merge_210 : decode cX10_merge 210 = .ok (.aload_n 0, 1) := by decide +kernel
theorem dX10_merge_211 : decode cX10_merge 211 = .ok (.getfield 60, 3) := by decide +kernel
theorem dX10_merge_214 : decode cX10_merge 214 = .ok (.iconst 2, 1) := by decide +kernel
theorem dX10_merge_215 : decode cX10_merge 215 = .ok (.iaload, 1) := by decide +kernel
theorem dX10_merge_216 : decode cX10_merge 216 = .ok (.aload_n 0, 1) := by decide +kernel
theorem dX10_merge_217 : decode cX10_merge 217 = .ok (.getfield 60, 3) := by decide +kernel
theorem dX10_merge_220 : decode cX10_merge 220 = .ok (.iconst 3, 1) := by decide +kernel
theorem dX10_merge_221 : decode cX10_merge 221 = .ok (.iaload, 1) := by decide +kernel
theorem dX10_merge_222 : decode cX10_merge 222 = .ok (.iadd, 1) := by decide +kernel
theorem dX10_merge_223 : decode cX10_merge 223 = .ok (.iload_n 1, 1) := by decide +kernel
theorem dX10_merge_224 : decode cX10_merge 224 = .ok (.isub, 1) := by decide +kernel
theorem dX10_merge_225 : decode cX10_merge 225 = .ok (.bipush 60, 2) := by decide +kernel
theorem dX10_merge_227 : decode cX10_merge 227 = .ok (.if_icmp .le 5, 3) := by decide +kernel
theorem dX10_merge_230 : decode cX10_merge 230 = .ok (.iconst (-1), 1) := by decide +kernel
theorem dX10_merge_231 : decode cX10_merge 231 = .ok (.ireturn, 1) := by decide +kernel
theorem dX10_merge_232 : decode cX10_merge 232 = .ok (.iconst 0, 1) := by decide +kernel
theorem dX10_merge_233 : decode cX10_merge 233 = .ok (.istore_n 2, 1) := by decide +kernel
theorem dX10_merge_234 : decode cX10_merge 234 = .ok (.iconst 0, 1) := by decide +kernel
theorem dX10_merge_235 : decode cX10_merge 235 = .ok (.istore_n 3, 1) := by decide +kernel
theorem dX10_merge_236 : decode cX10_merge 236 = .ok (.iconst 0, 1) := by decide +kernel
theorem dX10_merge_237 : decode cX10_merge 237 = .ok (.istore 4, 2) := by decide +kernel
theorem dX10_merge_239 : decode cX10_merge 239 = .ok (.iload_n 3, 1) := by decide +kernel
theorem dX10_merge_240 : decode cX10_merge 240 = .ok (.aload_n 0, 1) := by decide +kernel
theorem dX10_merge_241 : decode cX10_merge 241 = .ok (.getfield 60, 3) := by decide +kernel
theorem dX10_merge_244 : decode cX10_merge 244 = .ok (.iconst 2, 1) := by decide +kernel
theorem dX10_merge_245 : decode cX10_merge 245 = .ok (.iaload, 1) := by decide +kernel
theorem dX10_merge_246 : decode cX10_merge 246 = .ok (.if_icmp .lt 14, 3) := by decide +kernel
theorem dX10_merge_249 : decode cX10_merge 249 = .ok (.iload 4, 2) := by decide +kernel
theorem dX10_merge_251 : decode cX10_merge 251 = .ok (.aload_n 0, 1) := by decide +kernel
theorem dX10_merge_252 : decode cX10_merge 252 = .ok (.getfield 60, 3) := by decide +kernel
theorem dX10_merge_255 : decode cX10_merge 255 = .ok (.iconst 3, 1) := by decide +kernel
theorem dX10_merge_256 : decode cX10_merge 256 = .ok (.iaload, 1) := by decide +kernel
theorem dX10_merge_257 : decode cX10_merge 257 = .ok (.if_icmp .ge 249, 3) := by decide +kernel
theorem dX10_merge_260 : decode cX10_merge 260 = .ok (.iload 4, 2) := by decide +kernel
theorem dX10_merge_262 : decode cX10_merge 262 = .ok (.aload_n 0, 1) := by decide +kernel
theorem dX10_merge_263 : decode cX10_merge 263 = .ok (.getfield 60, 3) := by decide +kernel
theorem dX10_merge_266 : decode cX10_merge 266 = .ok (.iconst 3, 1) := by decide +kernel
theorem dX10_merge_267 : decode cX10_merge 267 = .ok (.iaload, 1) := by decide +kernel
theorem dX10_merge_268 : decode cX10_merge 268 = .ok (.if_icmp .ge 20, 3) := by decide +kernel
theorem dX10_merge_271 : decode cX10_merge 271 = .ok (.aload_n 0, 1) := by decide +kernel
theorem dX10_merge_272 : decode cX10_merge 272 = .ok (.getfield 124, 3) := by decide +kernel
theorem dX10_merge_275 : decode cX10_merge 275 = .ok (.iload 4, 2) := by decide +kernel
theorem dX10_merge_277 : decode cX10_merge 277 = .ok (.iaload, 1) := by decide +kernel
theorem dX10_merge_278 : decode cX10_merge 278 = .ok (.iconst (-1), 1) := by decide +kernel
theorem dX10_merge_279 : decode cX10_merge 279 = .ok (.if_icmp .eq 9, 3) := by decide +kernel
theorem dX10_merge_282 : decode cX10_merge 282 = .ok (.iinc 4 1, 3) := by decide +kernel
theorem dX10_merge_285 : decode cX10_merge 285 = .ok (.goto (-46), 3) := by decide +kernel
theorem dX10_merge_288 : decode cX10_merge 288 = .ok (.iload_n 3, 1) := by decide +kernel
theorem dX10_merge_289 : decode cX10_merge 289 = .ok (.aload_n 0, 1) := by decide +kernel
theorem dX10_merge_290 : decode cX10_merge 290 = .ok (.getfield 60, 3) := by decide +kernel
theorem dX10_merge_293 : decode cX10_merge 293 = .ok (.iconst 2, 1) := by decide +kernel
theorem dX10_merge_294 : decode cX10_merge 294 = .ok (.iaload, 1) := by decide +kernel
theorem dX10_merge_295 : decode cX10_merge 295 = .ok (.if_icmp .ge 122, 3) := by decide +kernel
theorem dX10_merge_298 : decode cX10_merge 298 = .ok (.iload 4, 2) := by decide +kernel
theorem dX10_merge_300 : decode cX10_merge 300 = .ok (.aload_n 0, 1) := by decide +kernel
theorem dX10_merge_301 : decode cX10_merge 301 = .ok (.getfield 60, 3) := by decide +kernel
theorem dX10_merge_304 : decode cX10_merge 304 = .ok (.iconst 3, 1) := by decide +kernel
theorem dX10_merge_305 : decode cX10_merge 305 = .ok (.iaload, 1) := by decide +kernel
theorem dX10_merge_306 : decode cX10_merge 306 = .ok (.if_icmp .eq 20, 3) := by decide +kernel
theorem dX10_merge_309 : decode cX10_merge 309 = .ok (.aload_n 0, 1) := by decide +kernel
theorem dX10_merge_310 : decode cX10_merge 310 = .ok (.sipush 180, 3) := by decide +kernel
theorem dX10_merge_313 : decode cX10_merge 313 = .ok (.iload 4, 2) := by decide +kernel
theorem dX10_merge_315 : decode cX10_merge 315 = .ok (.iadd, 1) := by decide +kernel
theorem dX10_merge_316 : decode cX10_merge 316 = .ok (.bipush 120, 2) := by decide +kernel
theorem dX10_merge_318 : decode cX10_merge 318 = .ok (.iload_n 3, 1) := by decide +kernel
theorem dX10_merge_319 : decode cX10_merge 319 = .ok (.iadd, 1) := by decide +kernel
theorem dX10_merge_320 : decode cX10_merge 320 = .ok (.invokevirtual 344, 3) := by decide +kernel
theorem dX10_merge_323 : decode cX10_merge 323 = .ok (.ifCond .ne 94, 3) := by decide +kernel
theorem dX10_merge_326 : decode cX10_merge 326 = .ok (.aload_n 0, 1) := by decide +kernel
theorem dX10_merge_327 : decode cX10_merge 327 = .ok (.iload_n 2, 1) := by decide +kernel
theorem dX10_merge_328 : decode cX10_merge 328 = .ok (.bipush 120, 2) := by decide +kernel
theorem dX10_merge_330 : decode cX10_merge 330 = .ok (.iload_n 3, 1) := by decide +kernel
theorem dX10_merge_331 : decode cX10_merge 331 = .ok (.iadd, 1) := by decide +kernel
theorem dX10_merge_332 : decode cX10_merge 332 = .ok (.invokevirtual 197, 3) := by decide +kernel
theorem dX10_merge_335 : decode cX10_merge 335 = .ok (.iconst 0, 1) := by decide +kernel
theorem dX10_merge_336 : decode cX10_merge 336 = .ok (.istore 5, 2) := by decide +kernel
theorem dX10_merge_338 : decode cX10_merge 338 = .ok (.iload 5, 2) := by decide +kernel
theorem dX10_merge_340 : decode cX10_merge 340 = .ok (.aload_n 0, 1) := by decide +kernel
theorem dX10_merge_341 : decode cX10_merge 341 = .ok (.getfield 63, 3) := by decide +kernel
theorem dX10_merge_344 : decode cX10_merge 344 = .ok (.iconst 1, 1) := by decide +kernel
theorem dX10_merge_345 : decode cX10_merge 345 = .ok (.iaload, 1) := by decide +kernel
theorem dX10_merge_346 : decode cX10_merge 346 = .ok (.if_icmp .ge 62, 3) := by decide +kernel
theorem dX10_merge_349 : decode cX10_merge 349 = .ok (.aload_n 0, 1) := by decide +kernel
theorem dX10_merge_350 : decode cX10_merge 350 = .ok (.getfield 121, 3) := by decide +kernel
theorem dX10_merge_353 : decode cX10_merge 353 = .ok (.iload_n 3, 1) := by decide +kernel
theorem dX10_merge_354 : decode cX10_merge 354 = .ok (.iaload, 1) := by decide +kernel
theorem dX10_merge_355 : decode cX10_merge 355 = .ok (.iconst (-1), 1) := by decide +kernel
theorem dX10_merge_356 : decode cX10_merge 356 = .ok (.if_icmp .eq 32, 3) := by decide +kernel
theorem dX10_merge_359 : decode cX10_merge 359 = .ok (.aload_n 0, 1) := by decide +kernel
theorem dX10_merge_360 : decode cX10_merge 360 = .ok (.iload_n 2, 1) := by decide +kernel
theorem dX10_merge_361 : decode cX10_merge 361 = .ok (.aload_n 0, 1) := by decide +kernel
theorem dX10_merge_362 : decode cX10_merge 362 = .ok (.getfield 63, 3) := by decide +kernel
theorem dX10_merge_365 : decode cX10_merge 365 = .ok (.iconst 0, 1) := by decide +kernel
theorem dX10_merge_366 : decode cX10_merge 366 = .ok (.iaload, 1) := by decide +kernel
theorem dX10_merge_367 : decode cX10_merge 367 = .ok (.iload 5, 2) := by decide +kernel
theorem dX10_merge_369 : decode cX10_merge 369 = .ok (.iadd, 1) := by decide +kernel
theorem dX10_merge_370 : decode cX10_merge 370 = .ok (.sipush 180, 3) := by decide +kernel
theorem dX10_merge_373 : decode cX10_merge 373 = .ok (.aload_n 0, 1) := by decide +kernel
theorem dX10_merge_374 : decode cX10_merge 374 = .ok (.getfield 121, 3) := by decide +kernel
theorem dX10_merge_377 : decode cX10_merge 377 = .ok (.iload_n 3, 1) := by decide +kernel
theorem dX10_merge_378 : decode cX10_merge 378 = .ok (.iaload, 1) := by decide +kernel
theorem dX10_merge_379 : decode cX10_merge 379 = .ok (.iadd, 1) := by decide +kernel
theorem dX10_merge_380 : decode cX10_merge 380 = .ok (.iload 5, 2) := by decide +kernel
theorem dX10_merge_382 : decode cX10_merge 382 = .ok (.invokevirtual 190, 3) := by decide +kernel
theorem dX10_merge_385 : decode cX10_merge 385 = .ok (.goto 17, 3) := by decide +kernel
theorem dX10_merge_388 : decode cX10_merge 388 = .ok (.aload_n 0, 1) := by decide +kernel
theorem dX10_merge_389 : decode cX10_merge 389 = .ok (.iload_n 2, 1) := by decide +kernel
theorem dX10_merge_390 : decode cX10_merge 390 = .ok (.aload_n 0, 1) := by decide +kernel
theorem dX10_merge_391 : decode cX10_merge 391 = .ok (.getfield 63, 3) := by decide +kernel
theorem dX10_merge_394 : decode cX10_merge 394 = .ok (.iconst 0, 1) := by decide +kernel
theorem dX10_merge_395 : decode cX10_merge 395 = .ok (.iaload, 1) := by decide +kernel
theorem dX10_merge_396 : decode cX10_merge 396 = .ok (.iload 5, 2) := by decide +kernel
theorem dX10_merge_398 : decode cX10_merge 398 = .ok (.iadd, 1) := by decide +kernel
theorem dX10_merge_399 : decode cX10_merge 399 = .ok (.invokevirtual 356, 3) := by decide +kernel
theorem dX10_merge_402 : decode cX10_merge 402 = .ok (.iinc 5 1, 3) := by decide +kernel
theorem dX10_merge_405 : decode cX10_merge 405 = .ok (.goto (-67), 3) := by decide +kernel
theorem dX10_merge_408 : decode cX10_merge 408 = .ok (.iinc 2 1, 3) := by decide +kernel
theorem dX10_merge_411 : decode cX10_merge 411 = .ok (.iinc 3 1, 3) := by decide +kernel
theorem dX10_merge_414 : decode cX10_merge 414 = .ok (.goto (-175), 3) := by decide +kernel
theorem dX10_merge_417 : decode cX10_merge 417 = .ok (.aload_n 0, 1) := by decide +kernel
theorem dX10_merge_418 : decode cX10_merge 418 = .ok (.iload_n 2, 1) := by decide +kernel
theorem dX10_merge_419 : decode cX10_merge 419 = .ok (.sipush 180, 3) := by decide +kernel
theorem dX10_merge_422 : decode cX10_merge 422 = .ok (.iload 4, 2) := by decide +kernel
theorem dX10_merge_424 : decode cX10_merge 424 = .ok (.iadd, 1) := by decide +kernel
theorem dX10_merge_425 : decode cX10_merge 425 = .ok (.invokevirtual 197, 3) := by decide +kernel
theorem dX10_merge_428 : decode cX10_merge 428 = .ok (.iconst 0, 1) := by decide +kernel
theorem dX10_merge_429 : decode cX10_merge 429 = .ok (.istore 5, 2) := by decide +kernel
theorem dX10_merge_431 : decode cX10_merge 431 = .ok (.iload 5, 2) := by decide +kernel
theorem dX10_merge_433 : decode cX10_merge 433 = .ok (.aload_n 0, 1) := by decide +kernel
theorem dX10_merge_434 : decode cX10_merge 434 = .ok (.getfield 63, 3) := by decide +kernel
theorem dX10_merge_437 : decode cX10_merge 437 = .ok (.iconst 1, 1) := by decide +kernel
theorem dX10_merge_438 : decode cX10_merge 438 = .ok (.iaload, 1) := by decide +kernel
theorem dX10_merge_439 : decode cX10_merge 439 = .ok (.if_icmp .ge 31, 3) := by decide +kernel
theorem dX10_merge_442 : decode cX10_merge 442 = .ok (.aload_n 0, 1) := by decide +kernel
theorem dX10_merge_443 : decode cX10_merge 443 = .ok (.iload_n 2, 1) := by decide +kernel
theorem dX10_merge_444 : decode cX10_merge 444 = .ok (.aload_n 0, 1) := by decide +kernel
theorem dX10_merge_445 : decode cX10_merge 445 = .ok (.getfield 63, 3) := by decide +kernel
theorem dX10_merge_448 : decode cX10_merge 448 = .ok (.iconst 0, 1) := by decide +kernel
theorem dX10_merge_449 : decode cX10_merge 449 = .ok (.iaload, 1) := by decide +kernel
theorem dX10_merge_450 : decode cX10_merge 450 = .ok (.iload 5, 2) := by decide +kernel
theorem dX10_merge_452 : decode cX10_merge 452 = .ok (.iadd, 1) := by decide +kernel
theorem dX10_merge_453 : decode cX10_merge 453 = .ok (.sipush 180, 3) := by decide +kernel
theorem dX10_merge_456 : decode cX10_merge 456 = .ok (.iload 4, 2) := by decide +kernel
theorem dX10_merge_458 : decode cX10_merge 458 = .ok (.iadd, 1) := by decide +kernel
theorem dX10_merge_459 : decode cX10_merge 459 = .ok (.iload 5, 2) := by decide +kernel
theorem dX10_merge_461 : decode cX10_merge 461 = .ok (.invokevirtual 190, 3) := by decide +kernel
theorem dX10_merge_464 : decode cX10_merge 464 = .ok (.iinc 5 1, 3) := by decide +kernel
theorem dX10_merge_467 : decode cX10_merge 467 = .ok (.goto (-36), 3) := by decide +kernel
theorem dX10_merge_470 : decode cX10_merge 470 = .ok (.iconst 0, 1) := by decide +kernel
theorem dX10_merge_471 : decode cX10_merge 471 = .ok (.istore 5, 2) := by decide +kernel
theorem dX10_merge_473 : decode cX10_merge 473 = .ok (.iload 5, 2) := by decide +kernel
theorem dX10_merge_475 : decode cX10_merge 475 = .ok (.aload_n 0, 1) := by decide +kernel
theorem dX10_merge_476 : decode cX10_merge 476 = .ok (.getfield 63, 3) := by decide +kernel
theorem dX10_merge_479 : decode cX10_merge 479 = .ok (.iconst 0, 1) := by decide +kernel
theorem dX10_merge_480 : decode cX10_merge 480 = .ok (.iaload, 1) := by decide +kernel
theorem dX10_merge_481 : decode cX10_merge 481 = .ok (.if_icmp .ge 16, 3) := by decide +kernel
theorem dX10_merge_484 : decode cX10_merge 484 = .ok (.aload_n 0, 1) := by decide +kernel
theorem dX10_merge_485 : decode cX10_merge 485 = .ok (.iload_n 2, 1) := by decide +kernel
theorem dX10_merge_486 : decode cX10_merge 486 = .ok (.iload 5, 2) := by decide +kernel
theorem dX10_merge_488 : decode cX10_merge 488 = .ok (.invokevirtual 356, 3) := by decide +kernel
theorem dX10_merge_491 : decode cX10_merge 491 = .ok (.iinc 5 1, 3) := by decide +kernel
theorem dX10_merge_494 : decode cX10_merge 494 = .ok (.goto (-21), 3) := by decide +kernel
theorem dX10_merge_497 : decode cX10_merge 497 = .ok (.iinc 2 1, 3) := by decide +kernel
theorem dX10_merge_500 : decode cX10_merge 500 = .ok (.iinc 4 1, 3) := by decide +kernel
theorem dX10_merge_503 : decode cX10_merge 503 = .ok (.goto (-264), 3) := by decide +kernel
theorem dX10_merge_506 : decode cX10_merge 506 = .ok (.aload_n 0, 1) := by decide +kernel
theorem dX10_merge_507 : decode cX10_merge 507 = .ok (.getfield 60, 3) := by decide +kernel
theorem dX10_merge_510 : decode cX10_merge 510 = .ok (.iconst 0, 1) := by decide +kernel
theorem dX10_merge_511 : decode cX10_merge 511 = .ok (.iload_n 2, 1) := by decide +kernel
theorem dX10_merge_512 : decode cX10_merge 512 = .ok (.iastore, 1) := by decide +kernel
theorem dX10_merge_513 : decode cX10_merge 513 = .ok (.iconst 0, 1) := by decide +kernel
theorem dX10_merge_514 : decode cX10_merge 514 = .ok (.istore 5, 2) := by decide +kernel
theorem dX10_merge_516 : decode cX10_merge 516 = .ok (.iload 5, 2) := by decide +kernel
theorem dX10_merge_518 : decode cX10_merge 518 = .ok (.aload_n 0, 1) := by decide +kernel
theorem dX10_merge_519 : decode cX10_merge 519 = .ok (.getfield 63, 3) := by decide +kernel
theorem dX10_merge_522 : decode cX10_merge 522 = .ok (.iconst 1, 1) := by decide +kernel
theorem dX10_merge_523 : decode cX10_merge 523 = .ok (.iaload, 1) := by decide +kernel
theorem dX10_merge_524 : decode cX10_merge 524 = .ok (.if_icmp .ge 26, 3) := by decide +kernel
theorem dX10_merge_527 : decode cX10_merge 527 = .ok (.aload_n 0, 1) := by decide +kernel
theorem dX10_merge_528 : decode cX10_merge 528 = .ok (.iconst 0, 1) := by decide +kernel
theorem dX10_merge_529 : decode cX10_merge 529 = .ok (.aload_n 0, 1) := by decide +kernel
theorem dX10_merge_530 : decode cX10_merge 530 = .ok (.getfield 63, 3) := by decide +kernel
theorem dX10_merge_533 : decode cX10_merge 533 = .ok (.iconst 0, 1) := by decide +kernel
theorem dX10_merge_534 : decode cX10_merge 534 = .ok (.iaload, 1) := by decide +kernel
theorem dX10_merge_535 : decode cX10_merge 535 = .ok (.iload 5, 2) := by decide +kernel
theorem dX10_merge_537 : decode cX10_merge 537 = .ok (.iadd, 1) := by decide +kernel
theorem dX10_merge_538 : decode cX10_merge 538 = .ok (.iconst 1, 1) := by decide +kernel
theorem dX10_merge_539 : decode cX10_merge 539 = .ok (.iload 5, 2) := by decide +kernel
theorem dX10_merge_541 : decode cX10_merge 541 = .ok (.invokevirtual 194, 3) := by decide +kernel
theorem dX10_merge_544 : decode cX10_merge 544 = .ok (.iinc 5 1, 3) := by decide +kernel
theorem dX10_merge_547 : decode cX10_merge 547 = .ok (.goto (-31), 3) := by decide +kernel
theorem dX10_merge_550 : decode cX10_merge 550 = .ok (.aload_n 0, 1) := by decide +kernel
theorem dX10_merge_551 : decode cX10_merge 551 = .ok (.getfield 63, 3) := by decide +kernel
theorem dX10_merge_554 : decode cX10_merge 554 = .ok (.iconst 0, 1) := by decide +kernel
theorem dX10_merge_555 : decode cX10_merge 555 = .ok (.aload_n 0, 1) := by decide +kernel
theorem dX10_merge_556 : decode cX10_merge 556 = .ok (.getfield 63, 3) := by decide +kernel
theorem dX10_merge_559 : decode cX10_merge 559 = .ok (.iconst 0, 1) := by decide +kernel
theorem dX10_merge_560 : decode cX10_merge 560 = .ok (.iaload, 1) := by decide +kernel
theorem dX10_merge_561 : decode cX10_merge 561 = .ok (.aload_n 0, 1) := by decide +kernel
theorem dX10_merge_562 : decode cX10_merge 562 = .ok (.getfield 63, 3) := by decide +kernel
theorem dX10_merge_565 : decode cX10_merge 565 = .ok (.iconst 1, 1) := by decide +kernel
theorem dX10_merge_566 : decode cX10_merge 566 = .ok (.iaload, 1) := by decide +kernel
theorem dX10_merge_567 : decode cX10_merge 567 = .ok (.iadd, 1) := by decide +kernel
theorem dX10_merge_568 : decode cX10_merge 568 = .ok (.iastore, 1) := by decide +kernel
theorem dX10_merge_569 : decode cX10_merge 569 = .ok (.aload_n 0, 1) := by decide +kernel
theorem dX10_merge_570 : decode cX10_merge 570 = .ok (.getfield 60, 3) := by decide +kernel
theorem dX10_merge_573 : decode cX10_merge 573 = .ok (.iconst 1, 1) := by decide +kernel
theorem dX10_merge_574 : decode cX10_merge 574 = .ok (.iconst 0, 1) := by decide +kernel
theorem dX10_merge_575 : decode cX10_merge 575 = .ok (.iastore, 1) := by decide +kernel
theorem dX10_merge_576 : decode cX10_merge 576 = .ok (.aload_n 0, 1) := by decide +kernel
theorem dX10_merge_577 : decode cX10_merge 577 = .ok (.getfield 63, 3) := by decide +kernel
theorem dX10_merge_580 : decode cX10_merge 580 = .ok (.iconst 1, 1) := by decide +kernel
theorem dX10_merge_581 : decode cX10_merge 581 = .ok (.iconst 0, 1) := by decide +kernel
theorem dX10_merge_582 : decode cX10_merge 582 = .ok (.iastore, 1) := by decide +kernel
theorem dX10_merge_583 : decode cX10_merge 583 = .ok (.iload_n 1, 1) := by decide +kernel
theorem dX10_merge_584 : decode cX10_merge 584 = .ok (.ireturn, 1) := by decide +kernel
theorem dX10_add_0 : decode cX10_add 0 = .ok (.aload_n 0, 1) := by decide +kernel
theorem dX10_add_1 : decode cX10_add 1 = .ok (.getfield 127, 3) := by decide +kernel
theorem dX10_add_4 : decode cX10_add 4 = .ok (.aload_n 0, 1) := by decide +kernel
theorem dX10_add_5 : decode cX10_add 5 = .ok (.getfield 359, 3) := by decide +kernel
theorem dX10_add_8 : decode cX10_add 8 = .ok (.iload_n 1, 1) := by decide +kernel
theorem dX10_add_9 : decode cX10_add 9 = .ok (.i2b, 1) := by decide +kernel
theorem dX10_add_10 : decode cX10_add 10 = .ok (.bastore, 1) := by decide +kernel
theorem dX10_add_11 : decode cX10_add 11 = .ok (.aload_n 0, 1) := by decide +kernel
theorem dX10_add_12 : decode cX10_add 12 = .ok (.getfield 130, 3) := by decide +kernel
theorem dX10_add_15 : decode cX10_add 15 = .ok (.aload_n 0, 1) := by decide +kernel
theorem dX10_add_16 : decode cX10_add 16 = .ok (.getfield 359, 3) := by decide +kernel
theorem dX10_add_19 : decode cX10_add 19 = .ok (.iload_n 2, 1) := by decide +kernel
theorem dX10_add_20 : decode cX10_add 20 = .ok (.iastore, 1) := by decide +kernel
theorem dX10_add_21 : decode cX10_add 21 = .ok (.aload_n 0, 1) := by decide +kernel
theorem dX10_add_22 : decode cX10_add 22 = .ok (.dup, 1) := by decide +kernel
theorem dX10_add_23 : decode cX10_add 23 = .ok (.getfield 359, 3) := by decide +kernel
theorem dX10_add_26 : decode cX10_add 26 = .ok (.iconst 1, 1) := by decide +kernel
theorem dX10_add_27 : decode cX10_add 27 = .ok (.iadd, 1) := by decide +kernel
theorem dX10_add_28 : decode cX10_add 28 = .ok (.putfield 359, 3) := by decide +kernel
theorem dX10_add_31 : decode cX10_add 31 = .ok (.return_, 1) := by decide +kernel
theorem dX10_addRow_0 : decode cX10_addRow 0 = .ok (.aload_n 0, 1) := by decide +kernel
theorem dX10_addRow_1 : decode cX10_addRow 1 = .ok (.getfield 90, 3) := by decide +kernel
theorem dX10_addRow_4 : decode cX10_addRow 4 = .ok (.iconst 4, 1) := by decide +kernel
theorem dX10_addRow_5 : decode cX10_addRow 5 = .ok (.iload_n 1, 1) := by decide +kernel
theorem dX10_addRow_6 : decode cX10_addRow 6 = .ok (.imul, 1) := by decide +kernel
theorem dX10_addRow_7 : decode cX10_addRow 7 = .ok (.iaload, 1) := by decide +kernel
theorem dX10_addRow_8 : decode cX10_addRow 8 = .ok (.istore_n 3, 1) := by decide +kernel
theorem dX10_addRow_9 : decode cX10_addRow 9 = .ok (.iconst 0, 1) := by decide +kernel
theorem dX10_addRow_10 : decode cX10_addRow 10 = .ok (.istore 4, 2) := by decide +kernel
theorem dX10_addRow_12 : decode cX10_addRow 12 = .ok (.iload 4, 2) := by decide +kernel
theorem dX10_addRow_14 : decode cX10_addRow 14 = .ok (.aload_n 0, 1) := by decide +kernel
theorem dX10_addRow_15 : decode cX10_addRow 15 = .ok (.getfield 90, 3) := by decide +kernel
theorem dX10_addRow_18 : decode cX10_addRow 18 = .ok (.iconst 4, 1) := by decide +kernel
theorem dX10_addRow_19 : decode cX10_addRow 19 = .ok (.iload_n 1, 1) := by decide +kernel
theorem dX10_addRow_20 : decode cX10_addRow 20 = .ok (.imul, 1) := by decide +kernel
theorem dX10_addRow_21 : decode cX10_addRow 21 = .ok (.iload_n 2, 1) := by decide +kernel
theorem dX10_addRow_22 : decode cX10_addRow 22 = .ok (.iadd, 1) := by decide +kernel
theorem dX10_addRow_23 : decode cX10_addRow 23 = .ok (.iaload, 1) := by decide +kernel
theorem dX10_addRow_24 : decode cX10_addRow 24 = .ok (.if_icmp .ge 48, 3) := by decide +kernel
theorem dX10_addRow_27 : decode cX10_addRow 27 = .ok (.aload_n 0, 1) := by decide +kernel
theorem dX10_addRow_28 : decode cX10_addRow 28 = .ok (.aload_n 0, 1) := by decide +kernel
theorem dX10_addRow_29 : decode cX10_addRow 29 = .ok (.getfield 87, 3) := by decide +kernel
theorem dX10_addRow_32 : decode cX10_addRow 32 = .ok (.bipush 26, 2) := by decide +kernel
theorem dX10_addRow_34 : decode cX10_addRow 34 = .ok (.iconst 4, 1) := by decide +kernel
theorem dX10_addRow_35 : decode cX10_addRow 35 = .ok (.iload_n 1, 1) := by decide +kernel
theorem dX10_addRow_36 : decode cX10_addRow 36 = .ok (.imul, 1) := by decide +kernel
theorem dX10_addRow_37 : decode cX10_addRow 37 = .ok (.iload_n 2, 1) := by decide +kernel
theorem dX10_addRow_38 : decode cX10_addRow 38 = .ok (.iadd, 1) := by decide +kernel
theorem dX10_addRow_39 : decode cX10_addRow 39 = .ok (.imul, 1) := by decide +kernel
theorem dX10_addRow_40 : decode cX10_addRow 40 = .ok (.iload 4, 2) := by decide +kernel
theorem dX10_addRow_42 : decode cX10_addRow 42 = .ok (.iadd, 1) := by decide +kernel
theorem dX10_addRow_43 : decode cX10_addRow 43 = .ok (.baload, 1) := by decide +kernel
theorem dX10_addRow_44 : decode cX10_addRow 44 = .ok (.iload 4, 2) := by decide +kernel
theorem dX10_addRow_46 : decode cX10_addRow 46 = .ok (.iload_n 3, 1) := by decide +kernel
theorem dX10_addRow_47 : decode cX10_addRow 47 = .ok (.if_icmp .ge 15, 3) := by decide +kernel
theorem dX10_addRow_50 : decode cX10_addRow 50 = .ok (.aload_n 0, 1) := by decide +kernel
theorem dX10_addRow_51 : decode cX10_addRow 51 = .ok (.getfield 75, 3) := by decide +kernel
theorem dX10_addRow_54 : decode cX10_addRow 54 = .ok (.iload_n 1, 1) := by decide +kernel
theorem dX10_addRow_55 : decode cX10_addRow 55 = .ok (.iaload, 1) := by decide +kernel
theorem dX10_addRow_56 : decode cX10_addRow 56 = .ok (.iload 4, 2) := by decide +kernel
theorem dX10_addRow_58 : decode cX10_addRow 58 = .ok (.iadd, 1) := by decide +kernel
theorem dX10_addRow_59 : decode cX10_addRow 59 = .ok (.goto 4, 3) := by decide +kernel
theorem dX10_addRow_62 : decode cX10_addRow 62 = .ok (.iconst (-1), 1) := by decide +kernel
theorem dX10_addRow_63 : decode cX10_addRow 63 = .ok (.invokevirtual 362, 3) := by decide +kernel
theorem dX10_addRow_66 : decode cX10_addRow 66 = .ok (.iinc 4 1, 3) := by decide +kernel
theorem dX10_addRow_69 : decode cX10_addRow 69 = .ok (.goto (-57), 3) := by decide +kernel
theorem dX10_addRow_72 : decode cX10_addRow 72 = .ok (.aload_n 0, 1) := by decide +kernel
theorem dX10_addRow_73 : decode cX10_addRow 73 = .ok (.getfield 75, 3) := by decide +kernel
theorem dX10_addRow_76 : decode cX10_addRow 76 = .ok (.iload_n 1, 1) := by decide +kernel
theorem dX10_addRow_77 : decode cX10_addRow 77 = .ok (.iaload, 1) := by decide +kernel
theorem dX10_addRow_78 : decode cX10_addRow 78 = .ok (.iload_n 3, 1) := by decide +kernel
theorem dX10_addRow_79 : decode cX10_addRow 79 = .ok (.iadd, 1) := by decide +kernel
theorem dX10_addRow_80 : decode cX10_addRow 80 = .ok (.ireturn, 1) := by decide +kernel
theorem dX10_nextCalled_0 : decode cX10_nextCalled 0 = .ok (.iconst (-1), 1) := by decide +kernel
theorem dX10_nextCalled_1 : decode cX10_nextCalled 1 = .ok (.istore 6, 2) := by decide +kernel
theorem dX10_nextCalled_3 : decode cX10_nextCalled 3 = .ok (.iconst 0, 1) := by decide +kernel
theorem dX10_nextCalled_4 : decode cX10_nextCalled 4 = .ok (.istore 7, 2) := by decide +kernel
theorem dX10_nextCalled_6 : decode cX10_nextCalled 6 = .ok (.iload 7, 2) := by decide +kernel
theorem dX10_nextCalled_8 : decode cX10_nextCalled 8 = .ok (.aload_n 0, 1) := by decide +kernel
theorem dX10_nextCalled_9 : decode cX10_nextCalled 9 = .ok (.getfield 60, 3) := by decide +kernel
theorem dX10_nextCalled_12 : decode cX10_nextCalled 12 = .ok (.iload_n 1, 1) := by decide +kernel
theorem dX10_nextCalled_13 : decode cX10_nextCalled 13 = .ok (.iaload, 1) := by decide +kernel
theorem dX10_nextCalled_14 : decode cX10_nextCalled 14 = .ok (.if_icmp .ge 97, 3) := by decide +kernel
theorem dX10_nextCalled_17 : decode cX10_nextCalled 17 = .ok (.bipush 60, 2) := by decide +kernel
theorem dX10_nextCalled_19 : decode cX10_nextCalled 19 = .ok (.iload_n 1, 1) := by decide +kernel
theorem dX10_nextCalled_20 : decode cX10_nextCalled 20 = .ok (.imul, 1) := by decide +kernel
theorem dX10_nextCalled_21 : decode cX10_nextCalled 21 = .ok (.iload 7, 2) := by decide +kernel
theorem dX10_nextCalled_23 : decode cX10_nextCalled 23 = .ok (.iadd, 1) := by decide +kernel
theorem dX10_nextCalled_24 : decode cX10_nextCalled 24 = .ok (.istore 8, 2) := by decide +kernel
theorem dX10_nextCalled_26 : decode cX10_nextCalled 26 = .ok (.aload_n 0, 1) := by decide +kernel
theorem dX10_nextCalled_27 : decode cX10_nextCalled 27 = .ok (.getfield 72, 3) := by decide +kernel
theorem dX10_nextCalled_30 : decode cX10_nextCalled 30 = .ok (.iload 8, 2) := by decide +kernel
theorem dX10_nextCalled_32 : decode cX10_nextCalled 32 = .ok (.iaload, 1) := by decide +kernel
theorem dX10_nextCalled_33 : decode cX10_nextCalled 33 = .ok (.iload 4, 2) := by decide +kernel
theorem dX10_nextCalled_35 : decode cX10_nextCalled 35 = .ok (.if_icmp .ne 30, 3) := by decide +kernel
theorem dX10_nextCalled_38 : decode cX10_nextCalled 38 = .ok (.aload_n 0, 1) := by decide +kernel
theorem dX10_nextCalled_39 : decode cX10_nextCalled 39 = .ok (.iload 8, 2) := by decide +kernel
theorem dX10_nextCalled_41 : decode cX10_nextCalled 41 = .ok (.iload_n 2, 1) := by decide +kernel
theorem dX10_nextCalled_42 : decode cX10_nextCalled 42 = .ok (.iload_n 3, 1) := by decide +kernel
theorem dX10_nextCalled_43 : decode cX10_nextCalled 43 = .ok (.invokevirtual 338, 3) := by decide +kernel
theorem dX10_nextCalled_46 : decode cX10_nextCalled 46 = .ok (.ifCond .le 19, 3) := by decide +kernel
theorem dX10_nextCalled_49 : decode cX10_nextCalled 49 = .ok (.aload_n 0, 1) := by decide +kernel
theorem dX10_nextCalled_50 : decode cX10_nextCalled 50 = .ok (.getfield 75, 3) := by decide +kernel
theorem dX10_nextCalled_53 : decode cX10_nextCalled 53 = .ok (.iload 8, 2) := by decide +kernel
theorem dX10_nextCalled_55 : decode cX10_nextCalled 55 = .ok (.iaload, 1) := by decide +kernel
theorem dX10_nextCalled_56 : decode cX10_nextCalled 56 = .ok (.iload 5, 2) := by decide +kernel
theorem dX10_nextCalled_58 : decode cX10_nextCalled 58 = .ok (.if_icmp .lt 7, 3) := by decide +kernel
theorem dX10_nextCalled_61 : decode cX10_nextCalled 61 = .ok (.iconst 1, 1) := by decide +kernel
theorem dX10_nextCalled_62 : decode cX10_nextCalled 62 = .ok (.goto 4, 3) := by decide +kernel
theorem dX10_nextCalled_65 : decode cX10_nextCalled 65 = .ok (.iconst 0, 1) := by decide +kernel
theorem dX10_nextCalled_66 : decode cX10_nextCalled 66 = .ok (.istore 9, 2) := by decide +kernel
theorem dX10_nextCalled_68 : decode cX10_nextCalled 68 = .ok (.iload 9, 2) := by decide +kernel
theorem dX10_nextCalled_70 : decode cX10_nextCalled 70 = .ok (.ifCond .eq 31, 3) := by decide +kernel
theorem dX10_nextCalled_73 : decode cX10_nextCalled 73 = .ok (.iload 6, 2) := by decide +kernel
theorem dX10_nextCalled_75 : decode cX10_nextCalled 75 = .ok (.iconst (-1), 1) := by decide +kernel
theorem dX10_nextCalled_76 : decode cX10_nextCalled 76 = .ok (.if_icmp .eq 20, 3) := by decide +kernel
theorem dX10_nextCalled_79 : decode cX10_nextCalled 79 = .ok (.aload_n 0, 1) := by decide +kernel
theorem dX10_nextCalled_80 : decode cX10_nextCalled 80 = .ok (.getfield 75, 3) := by decide +kernel
theorem dX10_nextCalled_83 : decode cX10_nextCalled 83 = .ok (.iload 8, 2) := by decide +kernel
theorem dX10_nextCalled_85 : decode cX10_nextCalled 85 = .ok (.iaload, 1) := by decide +kernel
theorem dX10_nextCalled_86 : decode cX10_nextCalled 86 = .ok (.aload_n 0, 1) := by decide +kernel
theorem dX10_nextCalled_87 : decode cX10_nextCalled 87 = .ok (.getfield 75, 3) := by decide +kernel
theorem dX10_nextCalled_90 : decode cX10_nextCalled 90 = .ok (.iload 6, 2) := by decide +kernel
theorem dX10_nextCalled_92 : decode cX10_nextCalled 92 = .ok (.iaload, 1) := by decide +kernel
theorem dX10_nextCalled_93 : decode cX10_nextCalled 93 = .ok (.if_icmp .ge 8, 3) := by decide +kernel
theorem dX10_nextCalled_96 : decode cX10_nextCalled 96 = .ok (.iload 8, 2) := by decide +kernel
theorem dX10_nextCalled_98 : decode cX10_nextCalled 98 = .ok (.goto 5, 3) := by decide +kernel
theorem dX10_nextCalled_101 : decode cX10_nextCalled 101 = .ok (.iload 6, 2) := by decide +kernel
theorem dX10_nextCalled_103 : decode cX10_nextCalled 103 = .ok (.istore 6, 2) := by decide +kernel
theorem dX10_nextCalled_105 : decode cX10_nextCalled 105 = .ok (.iinc 7 1, 3) := by decide +kernel
theorem dX10_nextCalled_108 : decode cX10_nextCalled 108 = .ok (.goto (-102), 3) := by decide +kernel
theorem dX10_nextCalled_111 : decode cX10_nextCalled 111 = .ok (.iload 6, 2) := by decide +kernel
theorem dX10_nextCalled_113 : decode cX10_nextCalled 113 = .ok (.ireturn, 1) := by decide +kernel
theorem dX10_calledMany_0 : decode cX10_calledMany 0 = .ok (.iconst 0, 1) := by decide +kernel
theorem dX10_calledMany_1 : decode cX10_calledMany 1 = .ok (.istore 5, 2) := by decide +kernel
theorem dX10_calledMany_3 : decode cX10_calledMany 3 = .ok (.iconst 0, 1) := by decide +kernel
theorem dX10_calledMany_4 : decode cX10_calledMany 4 = .ok (.istore 6, 2) := by decide +kernel
theorem dX10_calledMany_6 : decode cX10_calledMany 6 = .ok (.iload 6, 2) := by decide +kernel
theorem dX10_calledMany_8 : decode cX10_calledMany 8 = .ok (.aload_n 0, 1) := by decide +kernel
theorem dX10_calledMany_9 : decode cX10_calledMany 9 = .ok (.getfield 60, 3) := by decide +kernel
theorem dX10_calledMany_12 : decode cX10_calledMany 12 = .ok (.iload_n 1, 1) := by decide +kernel
theorem dX10_calledMany_13 : decode cX10_calledMany 13 = .ok (.iaload, 1) := by decide +kernel
theorem dX10_calledMany_14 : decode cX10_calledMany 14 = .ok (.if_icmp .ge 52, 3) := by decide +kernel
theorem dX10_calledMany_17 : decode cX10_calledMany 17 = .ok (.bipush 60, 2) := by decide +kernel
theorem dX10_calledMany_19 : decode cX10_calledMany 19 = .ok (.iload_n 1, 1) := by decide +kernel
theorem dX10_calledMany_20 : decode cX10_calledMany 20 = .ok (.imul, 1) := by decide +kernel
theorem dX10_calledMany_21 : decode cX10_calledMany 21 = .ok (.iload 6, 2) := by decide +kernel
theorem dX10_calledMany_23 : decode cX10_calledMany 23 = .ok (.iadd, 1) := by decide +kernel
theorem dX10_calledMany_24 : decode cX10_calledMany 24 = .ok (.istore 7, 2) := by decide +kernel
theorem dX10_calledMany_26 : decode cX10_calledMany 26 = .ok (.aload_n 0, 1) := by decide +kernel
theorem dX10_calledMany_27 : decode cX10_calledMany 27 = .ok (.getfield 72, 3) := by decide +kernel
theorem dX10_calledMany_30 : decode cX10_calledMany 30 = .ok (.iload 7, 2) := by decide +kernel
theorem dX10_calledMany_32 : decode cX10_calledMany 32 = .ok (.iaload, 1) := by decide +kernel
theorem dX10_calledMany_33 : decode cX10_calledMany 33 = .ok (.iload 4, 2) := by decide +kernel
theorem dX10_calledMany_35 : decode cX10_calledMany 35 = .ok (.if_icmp .ne 21, 3) := by decide +kernel
theorem dX10_calledMany_38 : decode cX10_calledMany 38 = .ok (.aload_n 0, 1) := by decide +kernel
theorem dX10_calledMany_39 : decode cX10_calledMany 39 = .ok (.iload 7, 2) := by decide +kernel
theorem dX10_calledMany_41 : decode cX10_calledMany 41 = .ok (.iload_n 2, 1) := by decide +kernel
theorem dX10_calledMany_42 : decode cX10_calledMany 42 = .ok (.iload_n 3, 1) := by decide +kernel
theorem dX10_calledMany_43 : decode cX10_calledMany 43 = .ok (.invokevirtual 338, 3) := by decide +kernel
theorem dX10_calledMany_46 : decode cX10_calledMany 46 = .ok (.ifCond .le 10, 3) := by decide +kernel
theorem dX10_calledMany_49 : decode cX10_calledMany 49 = .ok (.iload 5, 2) := by decide +kernel
theorem dX10_calledMany_51 : decode cX10_calledMany 51 = .ok (.iconst 1, 1) := by decide +kernel
theorem dX10_calledMany_52 : decode cX10_calledMany 52 = .ok (.iadd, 1) := by decide +kernel
theorem dX10_calledMany_53 : decode cX10_calledMany 53 = .ok (.goto 5, 3) := by decide +kernel
theorem dX10_calledMany_56 : decode cX10_calledMany 56 = .ok (.iload 5, 2) := by decide +kernel
theorem dX10_calledMany_58 : decode cX10_calledMany 58 = .ok (.istore 5, 2) := by decide +kernel
theorem dX10_calledMany_60 : decode cX10_calledMany 60 = .ok (.iinc 6 1, 3) := by decide +kernel
theorem dX10_calledMany_63 : decode cX10_calledMany 63 = .ok (.goto (-57), 3) := by decide +kernel
theorem dX10_calledMany_66 : decode cX10_calledMany 66 = .ok (.iload 5, 2) := by decide +kernel
theorem dX10_calledMany_68 : decode cX10_calledMany 68 = .ok (.ireturn, 1) := by decide +kernel
theorem dX10_apply_0 : decode cX10_apply 0 = .ok (.aload_n 0, 1) := by decide +kernel
theorem dX10_apply_1 : decode cX10_apply 1 = .ok (.iload_n 1, 1) := by decide +kernel
theorem dX10_apply_2 : decode cX10_apply 2 = .ok (.iconst 0, 1) := by decide +kernel
theorem dX10_apply_3 : decode cX10_apply 3 = .ok (.iconst 1, 1) := by decide +kernel
theorem dX10_apply_4 : decode cX10_apply 4 = .ok (.invokestatic 136, 3) := by decide +kernel
theorem dX10_apply_7 : decode cX10_apply 7 = .ok (.ifCond .eq 60, 3) := by decide +kernel
theorem dX10_apply_10 : decode cX10_apply 10 = .ok (.iload_n 2, 1) := by decide +kernel
theorem dX10_apply_11 : decode cX10_apply 11 = .ok (.iconst 0, 1) := by decide +kernel
theorem dX10_apply_12 : decode cX10_apply 12 = .ok (.aload_n 0, 1) := by decide +kernel
theorem dX10_apply_13 : decode cX10_apply 13 = .ok (.getfield 63, 3) := by decide +kernel
theorem dX10_apply_16 : decode cX10_apply 16 = .ok (.iload_n 1, 1) := by decide +kernel
theorem dX10_apply_17 : decode cX10_apply 17 = .ok (.iconst 0, 1) := by decide +kernel
theorem dX10_apply_18 : decode cX10_apply 18 = .ok (.iconst 1, 1) := by decide +kernel
theorem dX10_apply_19 : decode cX10_apply 19 = .ok (.invokestatic 136, 3) := by decide +kernel
theorem dX10_apply_22 : decode cX10_apply 22 = .ok (.ifCond .eq 7, 3) := by decide +kernel
theorem dX10_apply_25 : decode cX10_apply 25 = .ok (.iload_n 1, 1) := by decide +kernel
theorem dX10_apply_26 : decode cX10_apply 26 = .ok (.goto 4, 3) := by decide +kernel
theorem dX10_apply_29 : decode cX10_apply 29 = .ok (.iconst 0, 1) := by decide +kernel
theorem dX10_apply_30 : decode cX10_apply 30 = .ok (.iaload, 1) := by decide +kernel
theorem dX10_apply_31 : decode cX10_apply 31 = .ok (.iconst 1, 1) := by decide +kernel
theorem dX10_apply_32 : decode cX10_apply 32 = .ok (.isub, 1) := by decide +kernel
theorem dX10_apply_33 : decode cX10_apply 33 = .ok (.invokestatic 136, 3) := by decide +kernel
theorem dX10_apply_36 : decode cX10_apply 36 = .ok (.ifCond .eq 31, 3) := by decide +kernel
theorem dX10_apply_39 : decode cX10_apply 39 = .ok (.iload_n 3, 1) := by decide +kernel
theorem dX10_apply_40 : decode cX10_apply 40 = .ok (.iconst 0, 1) := by decide +kernel
theorem dX10_apply_41 : decode cX10_apply 41 = .ok (.iconst 1, 1) := by decide +kernel
theorem dX10_apply_42 : decode cX10_apply 42 = .ok (.invokestatic 136, 3) := by decide +kernel
theorem dX10_apply_45 : decode cX10_apply 45 = .ok (.ifCond .eq 22, 3) := by decide +kernel
theorem dX10_apply_48 : decode cX10_apply 48 = .ok (.iload 4, 2) := by decide +kernel
theorem dX10_apply_50 : decode cX10_apply 50 = .ok (.iconst 0, 1) := by decide +kernel
theorem dX10_apply_51 : decode cX10_apply 51 = .ok (.aload_n 0, 1) := by decide +kernel
theorem dX10_apply_52 : decode cX10_apply 52 = .ok (.getfield 183, 3) := by decide +kernel
theorem dX10_apply_55 : decode cX10_apply 55 = .ok (.iconst 1, 1) := by decide +kernel
theorem dX10_apply_56 : decode cX10_apply 56 = .ok (.isub, 1) := by decide +kernel
theorem dX10_apply_57 : decode cX10_apply 57 = .ok (.invokestatic 136, 3) := by decide +kernel
theorem dX10_apply_60 : decode cX10_apply 60 = .ok (.ifCond .eq 7, 3) := by decide +kernel
theorem dX10_apply_63 : decode cX10_apply 63 = .ok (.iconst 1, 1) := by decide +kernel
theorem dX10_apply_64 : decode cX10_apply 64 = .ok (.goto 4, 3) := by decide +kernel
theorem dX10_apply_67 : decode cX10_apply 67 = .ok (.iconst 0, 1) := by decide +kernel
theorem dX10_apply_68 : decode cX10_apply 68 = .ok (.invokevirtual 143, 3) := by decide +kernel
theorem dX10_apply_71 : decode cX10_apply 71 = .ok (.ifCond .ne 5, 3) := by decide +kernel
theorem dX10_apply_74 : decode cX10_apply 74 = .ok (.iconst 0, 1) := by decide +kernel
theorem dX10_apply_75 : decode cX10_apply 75 = .ok (.ireturn, 1) := by decide +kernel
theorem dX10_apply_76 : decode cX10_apply 76 = .ok (.aload_n 0, 1) := by decide +kernel
theorem dX10_apply_77 : decode cX10_apply 77 = .ok (.iconst 0, 1) := by decide +kernel
theorem dX10_apply_78 : decode cX10_apply 78 = .ok (.putfield 359, 3) := by decide +kernel
theorem dX10_apply_81 : decode cX10_apply 81 = .ok (.iconst 1, 1) := by decide +kernel
theorem dX10_apply_82 : decode cX10_apply 82 = .ok (.istore 5, 2) := by decide +kernel
theorem dX10_apply_84 : decode cX10_apply 84 = .ok (.iconst 0, 1) := by decide +kernel
theorem dX10_apply_85 : decode cX10_apply 85 = .ok (.istore 6, 2) := by decide +kernel
theorem dX10_apply_87 : decode cX10_apply 87 = .ok (.aload_n 0, 1) := by decide +kernel
theorem dX10_apply_88 : decode cX10_apply 88 = .ok (.iload_n 1, 1) := by decide +kernel
theorem dX10_apply_89 : decode cX10_apply 89 = .ok (.iload_n 2, 1) := by decide +kernel
theorem dX10_apply_90 : decode cX10_apply 90 = .ok (.iload_n 3, 1) := by decide +kernel
theorem dX10_apply_91 : decode cX10_apply 91 = .ok (.iload 4, 2) := by decide +kernel
theorem dX10_apply_93 : decode cX10_apply 93 = .ok (.iload 5, 2) := by decide +kernel
theorem dX10_apply_95 : decode cX10_apply 95 = .ok (.invokevirtual 365, 3) := by decide +kernel
theorem dX10_apply_98 : decode cX10_apply 98 = .ok (.istore 7, 2) := by decide +kernel
theorem dX10_apply_100 : decode cX10_apply 100 = .ok (.iload 7, 2) := by decide +kernel
theorem dX10_apply_102 : decode cX10_apply 102 = .ok (.iconst (-1), 1) := by decide +kernel
theorem dX10_apply_103 : decode cX10_apply 103 = .ok (.if_icmp .eq 78, 3) := by decide +kernel
theorem dX10_apply_106 : decode cX10_apply 106 = .ok (.iload 5, 2) := by decide +kernel
theorem dX10_apply_108 : decode cX10_apply 108 = .ok (.aload_n 0, 1) := by decide +kernel
theorem dX10_apply_109 : decode cX10_apply 109 = .ok (.getfield 75, 3) := by decide +kernel
theorem dX10_apply_112 : decode cX10_apply 112 = .ok (.iload 7, 2) := by decide +kernel
theorem dX10_apply_114 : decode cX10_apply 114 = .ok (.iaload, 1) := by decide +kernel
theorem dX10_apply_115 : decode cX10_apply 115 = .ok (.if_icmp .ge 23, 3) := by decide +kernel
theorem dX10_apply_118 : decode cX10_apply 118 = .ok (.aload_n 0, 1) := by decide +kernel
theorem dX10_apply_119 : decode cX10_apply 119 = .ok (.aload_n 0, 1) := by decide +kernel
theorem dX10_apply_120 : decode cX10_apply 120 = .ok (.iload 4, 2) := by decide +kernel
theorem dX10_apply_122 : decode cX10_apply 122 = .ok (.iload 5, 2) := by decide +kernel
theorem dX10_apply_124 : decode cX10_apply 124 = .ok (.invokevirtual 255, 3) := by decide +kernel
theorem dX10_apply_127 : decode cX10_apply 127 = .ok (.iload 5, 2) := by decide +kernel
theorem dX10_apply_129 : decode cX10_apply 129 = .ok (.invokevirtual 362, 3) := by decide +kernel
theorem dX10_apply_132 : decode cX10_apply 132 = .ok (.iinc 5 1, 3) := by decide +kernel
theorem dX10_apply_135 : decode cX10_apply 135 = .ok (.goto (-29), 3) := by decide +kernel
theorem dX10_apply_138 : decode cX10_apply 138 = .ok (.aload_n 0, 1) := by decide +kernel
theorem dX10_apply_139 : decode cX10_apply 139 = .ok (.iload 7, 2) := by decide +kernel
theorem dX10_apply_141 : decode cX10_apply 141 = .ok (.aload_n 0, 1) := by decide +kernel
theorem dX10_apply_142 : decode cX10_apply 142 = .ok (.getfield 100, 3) := by decide +kernel
theorem dX10_apply_145 : decode cX10_apply 145 = .ok (.bipush 6, 2) := by decide +kernel
theorem dX10_apply_147 : decode cX10_apply 147 = .ok (.iload 7, 2) := by decide +kernel
theorem dX10_apply_149 : decode cX10_apply 149 = .ok (.imul, 1) := by decide +kernel
theorem dX10_apply_150 : decode cX10_apply 150 = .ok (.iconst 2, 1) := by decide +kernel
theorem dX10_apply_151 : decode cX10_apply 151 = .ok (.iload_n 2, 1) := by decide +kernel
theorem dX10_apply_152 : decode cX10_apply 152 = .ok (.imul, 1) := by decide +kernel
theorem dX10_apply_153 : decode cX10_apply 153 = .ok (.iadd, 1) := by decide +kernel
theorem dX10_apply_154 : decode cX10_apply 154 = .ok (.iload_n 3, 1) := by decide +kernel
theorem dX10_apply_155 : decode cX10_apply 155 = .ok (.iadd, 1) := by decide +kernel
theorem dX10_apply_156 : decode cX10_apply 156 = .ok (.iaload, 1) := by decide +kernel
theorem dX10_apply_157 : decode cX10_apply 157 = .ok (.invokevirtual 369, 3) := by decide +kernel
theorem dX10_apply_160 : decode cX10_apply 160 = .ok (.istore 5, 2) := by decide +kernel
theorem dX10_apply_162 : decode cX10_apply 162 = .ok (.iinc 6 1, 3) := by decide +kernel
theorem dX10_apply_165 : decode cX10_apply 165 = .ok (.aload_n 0, 1) := by decide +kernel
theorem dX10_apply_166 : decode cX10_apply 166 = .ok (.iload_n 1, 1) := by decide +kernel
theorem dX10_apply_167 : decode cX10_apply 167 = .ok (.iload_n 2, 1) := by decide +kernel
theorem dX10_apply_168 : decode cX10_apply 168 = .ok (.iload_n 3, 1) := by decide +kernel
theorem dX10_apply_169 : decode cX10_apply 169 = .ok (.iload 4, 2) := by decide +kernel
theorem dX10_apply_171 : decode cX10_apply 171 = .ok (.iload 5, 2) := by decide +kernel
theorem dX10_apply_173 : decode cX10_apply 173 = .ok (.invokevirtual 365, 3) := by decide +kernel
theorem dX10_apply_176 : decode cX10_apply 176 = .ok (.istore 7, 2) := by decide +kernel
theorem dX10_apply_178 : decode cX10_apply 178 = .ok (.goto (-78), 3) := by decide +kernel
theorem dX10_apply_181 : decode cX10_apply 181 = .ok (.iload 6, 2) := by decide +kernel
theorem dX10_apply_183 : decode cX10_apply 183 = .ok (.aload_n 0, 1) := by decide +kernel
theorem dX10_apply_184 : decode cX10_apply 184 = .ok (.iload_n 1, 1) := by decide +kernel
theorem dX10_apply_185 : decode cX10_apply 185 = .ok (.iload_n 2, 1) := by decide +kernel
theorem dX10_apply_186 : decode cX10_apply 186 = .ok (.iload_n 3, 1) := by decide +kernel
theorem dX10_apply_187 : decode cX10_apply 187 = .ok (.iload 4, 2) := by decide +kernel
theorem dX10_apply_189 : decode cX10_apply 189 = .ok (.invokevirtual 372, 3) := by decide +kernel
theorem dX10_apply_192 : decode cX10_apply 192 = .ok (.if_icmp .ge 5, 3) := by decide +kernel
theorem dX10_apply_195 : decode cX10_apply 195 = .ok (.iconst (-1), 1) := by decide +kernel
theorem dX10_apply_196 : decode cX10_apply 196 = .ok (.ireturn, 1) := by decide +kernel
theorem dX10_apply_197 : decode cX10_apply 197 = .ok (.iload 5, 2) := by decide +kernel
theorem dX10_apply_199 : decode cX10_apply 199 = .ok (.aload_n 0, 1) := by decide +kernel
theorem dX10_apply_200 : decode cX10_apply 200 = .ok (.getfield 30, 3) := by decide +kernel
theorem dX10_apply_203 : decode cX10_apply 203 = .ok (.iload 4, 2) := by decide +kernel
theorem dX10_apply_205 : decode cX10_apply 205 = .ok (.iaload, 1) := by decide +kernel
theorem dX10_apply_206 : decode cX10_apply 206 = .ok (.if_icmp .gt 23, 3) := by decide +kernel
theorem dX10_apply_209 : decode cX10_apply 209 = .ok (.aload_n 0, 1) := by decide +kernel
theorem dX10_apply_210 : decode cX10_apply 210 = .ok (.aload_n 0, 1) := by decide +kernel
theorem dX10_apply_211 : decode cX10_apply 211 = .ok (.iload 4, 2) := by decide +kernel
theorem dX10_apply_213 : decode cX10_apply 213 = .ok (.iload 5, 2) := by decide +kernel
theorem dX10_apply_215 : decode cX10_apply 215 = .ok (.invokevirtual 255, 3) := by decide +kernel
theorem dX10_apply_218 : decode cX10_apply 218 = .ok (.iload 5, 2) := by decide +kernel
theorem dX10_apply_220 : decode cX10_apply 220 = .ok (.invokevirtual 362, 3) := by decide +kernel
theorem dX10_apply_223 : decode cX10_apply 223 = .ok (.iinc 5 1, 3) := by decide +kernel
theorem dX10_apply_226 : decode cX10_apply 226 = .ok (.goto (-29), 3) := by decide +kernel
theorem dX10_apply_229 : decode cX10_apply 229 = .ok (.aload_n 0, 1) := by decide +kernel
theorem dX10_apply_230 : decode cX10_apply 230 = .ok (.iconst 1, 1) := by decide +kernel
theorem dX10_apply_231 : decode cX10_apply 231 = .ok (.putfield 186, 3) := by decide +kernel
theorem dX10_apply_234 : decode cX10_apply 234 = .ok (.aload_n 0, 1) := by decide +kernel
theorem dX10_apply_235 : decode cX10_apply 235 = .ok (.aload_n 0, 1) := by decide +kernel
theorem dX10_apply_236 : decode cX10_apply 236 = .ok (.getfield 30, 3) := by decide +kernel
theorem dX10_apply_239 : decode cX10_apply 239 = .ok (.iload 4, 2) := by decide +kernel
theorem dX10_apply_241 : decode cX10_apply 241 = .ok (.iaload, 1) := by decide +kernel
theorem dX10_apply_242 : decode cX10_apply 242 = .ok (.putfield 376, 3) := by decide +kernel
theorem dX10_apply_245 : decode cX10_apply 245 = .ok (.aload_n 0, 1) := by decide +kernel
theorem dX10_apply_246 : decode cX10_apply 246 = .ok (.aload_n 0, 1) := by decide +kernel
theorem dX10_apply_247 : decode cX10_apply 247 = .ok (.getfield 359, 3) := by decide +kernel
theorem dX10_apply_250 : decode cX10_apply 250 = .ok (.putfield 379, 3) := by decide +kernel
theorem dX10_apply_253 : decode cX10_apply 253 = .ok (.iconst 1, 1) := by decide +kernel
theorem dX10_apply_254 : decode cX10_apply 254 = .ok (.istore 8, 2) := by decide +kernel
theorem dX10_apply_256 : decode cX10_apply 256 = .ok (.iload 8, 2) := by decide +kernel
theorem dX10_apply_258 : decode cX10_apply 258 = .ok (.aload_n 0, 1) := by decide +kernel
theorem dX10_apply_259 : decode cX10_apply 259 = .ok (.getfield 376, 3) := by decide +kernel
theorem dX10_apply_262 : decode cX10_apply 262 = .ok (.if_icmp .gt 17, 3) := by decide +kernel
theorem dX10_apply_265 : decode cX10_apply 265 = .ok (.aload_n 0, 1) := by decide +kernel
theorem dX10_apply_266 : decode cX10_apply 266 = .ok (.getfield 112, 3) := by decide +kernel
theorem dX10_apply_269 : decode cX10_apply 269 = .ok (.iload 8, 2) := by decide +kernel
theorem dX10_apply_271 : decode cX10_apply 271 = .ok (.iconst (-1), 1) := by decide +kernel
theorem dX10_apply_272 : decode cX10_apply 272 = .ok (.iastore, 1) := by decide +kernel
theorem dX10_apply_273 : decode cX10_apply 273 = .ok (.iinc 8 1, 3) := by decide +kernel
theorem dX10_apply_276 : decode cX10_apply 276 = .ok (.goto (-20), 3) := by decide +kernel
theorem dX10_apply_279 : decode cX10_apply 279 = .ok (.aload_n 0, 1) := by decide +kernel
theorem dX10_apply_280 : decode cX10_apply 280 = .ok (.aload_n 0, 1) := by decide +kernel
theorem dX10_apply_281 : decode cX10_apply 281 = .ok (.getfield 359, 3) := by decide +kernel
theorem dX10_apply_284 : decode cX10_apply 284 = .ok (.putfield 382, 3) := by decide +kernel
theorem dX10_apply_287 : decode cX10_apply 287 = .ok (.iconst 0, 1) := by decide +kernel
theorem dX10_apply_288 : decode cX10_apply 288 = .ok (.istore 8, 2) := by decide +kernel
theorem dX10_apply_290 : decode cX10_apply 290 = .ok (.iload 8, 2) := by decide +kernel
theorem dX10_apply_292 : decode cX10_apply 292 = .ok (.aload_n 0, 1) := by decide +kernel
theorem dX10_apply_293 : decode cX10_apply 293 = .ok (.getfield 359, 3) := by decide +kernel
theorem dX10_apply_296 : decode cX10_apply 296 = .ok (.if_icmp .ge 66, 3) := by decide +kernel
theorem dX10_apply_299 : decode cX10_apply 299 = .ok (.aload_n 0, 1) := by decide +kernel
theorem dX10_apply_300 : decode cX10_apply 300 = .ok (.getfield 109, 3) := by decide +kernel
theorem dX10_apply_303 : decode cX10_apply 303 = .ok (.iload 8, 2) := by decide +kernel
theorem dX10_apply_305 : decode cX10_apply 305 = .ok (.aload_n 0, 1) := by decide +kernel
theorem dX10_apply_306 : decode cX10_apply 306 = .ok (.getfield 127, 3) := by decide +kernel
theorem dX10_apply_309 : decode cX10_apply 309 = .ok (.iload 8, 2) := by decide +kernel
theorem dX10_apply_311 : decode cX10_apply 311 = .ok (.baload, 1) := by decide +kernel
theorem dX10_apply_312 : decode cX10_apply 312 = .ok (.bastore, 1) := by decide +kernel
theorem dX10_apply_313 : decode cX10_apply 313 = .ok (.aload_n 0, 1) := by decide +kernel
theorem dX10_apply_314 : decode cX10_apply 314 = .ok (.getfield 115, 3) := by decide +kernel
theorem dX10_apply_317 : decode cX10_apply 317 = .ok (.iload 8, 2) := by decide +kernel
theorem dX10_apply_319 : decode cX10_apply 319 = .ok (.iconst 1, 1) := by decide +kernel
theorem dX10_apply_320 : decode cX10_apply 320 = .ok (.iadd, 1) := by decide +kernel
theorem dX10_apply_321 : decode cX10_apply 321 = .ok (.aload_n 0, 1) := by decide +kernel
theorem dX10_apply_322 : decode cX10_apply 322 = .ok (.getfield 130, 3) := by decide +kernel
theorem dX10_apply_325 : decode cX10_apply 325 = .ok (.iload 8, 2) := by decide +kernel
theorem dX10_apply_327 : decode cX10_apply 327 = .ok (.iaload, 1) := by decide +kernel
theorem dX10_apply_328 : decode cX10_apply 328 = .ok (.iastore, 1) := by decide +kernel
theorem dX10_apply_329 : decode cX10_apply 329 = .ok (.aload_n 0, 1) := by decide +kernel
theorem dX10_apply_330 : decode cX10_apply 330 = .ok (.getfield 130, 3) := by decide +kernel
theorem dX10_apply_333 : decode cX10_apply 333 = .ok (.iload 8, 2) := by decide +kernel
theorem dX10_apply_335 : decode cX10_apply 335 = .ok (.iaload, 1) := by decide +kernel
theorem dX10_apply_336 : decode cX10_apply 336 = .ok (.iconst (-1), 1) := by decide +kernel
theorem dX10_apply_337 : decode cX10_apply 337 = .ok (.if_icmp .eq 19, 3) := by decide +kernel
theorem dX10_apply_340 : decode cX10_apply 340 = .ok (.aload_n 0, 1) := by decide +kernel
theorem dX10_apply_341 : decode cX10_apply 341 = .ok (.getfield 112, 3) := by decide +kernel
theorem dX10_apply_344 : decode cX10_apply 344 = .ok (.aload_n 0, 1) := by decide +kernel
theorem dX10_apply_345 : decode cX10_apply 345 = .ok (.getfield 130, 3) := by decide +kernel
theorem dX10_apply_348 : decode cX10_apply 348 = .ok (.iload 8, 2) := by decide +kernel
theorem dX10_apply_350 : decode cX10_apply 350 = .ok (.iaload, 1) := by decide +kernel
theorem dX10_apply_351 : decode cX10_apply 351 = .ok (.iload 8, 2) := by decide +kernel
theorem dX10_apply_353 : decode cX10_apply 353 = .ok (.iconst 1, 1) := by decide +kernel
theorem dX10_apply_354 : decode cX10_apply 354 = .ok (.iadd, 1) := by decide +kernel
theorem dX10_apply_355 : decode cX10_apply 355 = .ok (.iastore, 1) := by decide +kernel
theorem dX10_apply_356 : decode cX10_apply 356 = .ok (.iinc 8 1, 3) := by decide +kernel
theorem dX10_apply_359 : decode cX10_apply 359 = .ok (.goto (-69), 3) := by decide +kernel
theorem dX10_apply_362 : decode cX10_apply 362 = .ok (.aload_n 0, 1) := by decide +kernel
theorem dX10_apply_363 : decode cX10_apply 363 = .ok (.getfield 359, 3) := by decide +kernel
theorem dX10_apply_366 : decode cX10_apply 366 = .ok (.ireturn, 1) := by decide +kernel
theorem dX10_carried_0 : decode cX10_carried 0 = .ok (.aload_n 0, 1) := by decide +kernel
theorem dX10_carried_1 : decode cX10_carried 1 = .ok (.iconst 0, 1) := by decide +kernel
theorem dX10_carried_2 : decode cX10_carried 2 = .ok (.putfield 133, 3) := by decide +kernel
theorem dX10_carried_5 : decode cX10_carried 5 = .ok (.aload_n 0, 1) := by decide +kernel
theorem dX10_carried_6 : decode cX10_carried 6 = .ok (.getfield 186, 3) := by decide +kernel
theorem dX10_carried_9 : decode cX10_carried 9 = .ok (.ifCond .eq 24, 3) := by decide +kernel
theorem dX10_carried_12 : decode cX10_carried 12 = .ok (.iload_n 1, 1) := by decide +kernel
theorem dX10_carried_13 : decode cX10_carried 13 = .ok (.iconst 1, 1) := by decide +kernel
theorem dX10_carried_14 : decode cX10_carried 14 = .ok (.aload_n 0, 1) := by decide +kernel
theorem dX10_carried_15 : decode cX10_carried 15 = .ok (.getfield 376, 3) := by decide +kernel
theorem dX10_carried_18 : decode cX10_carried 18 = .ok (.invokestatic 136, 3) := by decide +kernel
theorem dX10_carried_21 : decode cX10_carried 21 = .ok (.ifCond .eq 12, 3) := by decide +kernel
theorem dX10_carried_24 : decode cX10_carried 24 = .ok (.aload_n 0, 1) := by decide +kernel
theorem dX10_carried_25 : decode cX10_carried 25 = .ok (.getfield 112, 3) := by decide +kernel
theorem dX10_carried_28 : decode cX10_carried 28 = .ok (.iload_n 1, 1) := by decide +kernel
theorem dX10_carried_29 : decode cX10_carried 29 = .ok (.iaload, 1) := by decide +kernel
theorem dX10_carried_30 : decode cX10_carried 30 = .ok (.goto 4, 3) := by decide +kernel
theorem dX10_carried_33 : decode cX10_carried 33 = .ok (.iconst (-1), 1) := by decide +kernel
theorem dX10_carried_34 : decode cX10_carried 34 = .ok (.ireturn, 1) := by decide +kernel
theorem dX10_back_0 : decode cX10_back 0 = .ok (.aload_n 0, 1) := by decide +kernel
theorem dX10_back_1 : decode cX10_back 1 = .ok (.iconst 0, 1) := by decide +kernel
theorem dX10_back_2 : decode cX10_back 2 = .ok (.putfield 133, 3) := by decide +kernel
theorem dX10_back_5 : decode cX10_back 5 = .ok (.aload_n 0, 1) := by decide +kernel
theorem dX10_back_6 : decode cX10_back 6 = .ok (.getfield 186, 3) := by decide +kernel
theorem dX10_back_9 : decode cX10_back 9 = .ok (.ifCond .eq 24, 3) := by decide +kernel
theorem dX10_back_12 : decode cX10_back 12 = .ok (.iload_n 1, 1) := by decide +kernel
theorem dX10_back_13 : decode cX10_back 13 = .ok (.iconst 1, 1) := by decide +kernel
theorem dX10_back_14 : decode cX10_back 14 = .ok (.aload_n 0, 1) := by decide +kernel
theorem dX10_back_15 : decode cX10_back 15 = .ok (.getfield 379, 3) := by decide +kernel
theorem dX10_back_18 : decode cX10_back 18 = .ok (.invokestatic 136, 3) := by decide +kernel
theorem dX10_back_21 : decode cX10_back 21 = .ok (.ifCond .eq 12, 3) := by decide +kernel
theorem dX10_back_24 : decode cX10_back 24 = .ok (.aload_n 0, 1) := by decide +kernel
theorem dX10_back_25 : decode cX10_back 25 = .ok (.getfield 115, 3) := by decide +kernel
theorem dX10_back_28 : decode cX10_back 28 = .ok (.iload_n 1, 1) := by decide +kernel
theorem dX10_back_29 : decode cX10_back 29 = .ok (.iaload, 1) := by decide +kernel
theorem dX10_back_30 : decode cX10_back 30 = .ok (.goto 4, 3) := by decide +kernel
theorem dX10_back_33 : decode cX10_back 33 = .ok (.iconst (-1), 1) := by decide +kernel
theorem dX10_back_34 : decode cX10_back 34 = .ok (.ireturn, 1) := by decide +kernel
theorem dX10_lengthWith_0 : decode cX10_lengthWith 0 = .ok (.aload_n 0, 1) := by decide +kernel
theorem dX10_lengthWith_1 : decode cX10_lengthWith 1 = .ok (.getfield 30, 3) := by decide +kernel
theorem dX10_lengthWith_4 : decode cX10_lengthWith 4 = .ok (.aload_n 0, 1) := by decide +kernel
theorem dX10_lengthWith_5 : decode cX10_lengthWith 5 = .ok (.getfield 72, 3) := by decide +kernel
theorem dX10_lengthWith_8 : decode cX10_lengthWith 8 = .ok (.iload_n 1, 1) := by decide +kernel
theorem dX10_lengthWith_9 : decode cX10_lengthWith 9 = .ok (.iaload, 1) := by decide +kernel
theorem dX10_lengthWith_10 : decode cX10_lengthWith 10 = .ok (.iaload, 1) := by decide +kernel
theorem dX10_lengthWith_11 : decode cX10_lengthWith 11 = .ok (.aload_n 0, 1) := by decide +kernel
theorem dX10_lengthWith_12 : decode cX10_lengthWith 12 = .ok (.getfield 90, 3) := by decide +kernel
theorem dX10_lengthWith_15 : decode cX10_lengthWith 15 = .ok (.iconst 4, 1) := by decide +kernel
theorem dX10_lengthWith_16 : decode cX10_lengthWith 16 = .ok (.iload_n 1, 1) := by decide +kernel
theorem dX10_lengthWith_17 : decode cX10_lengthWith 17 = .ok (.imul, 1) := by decide +kernel
theorem dX10_lengthWith_18 : decode cX10_lengthWith 18 = .ok (.iaload, 1) := by decide +kernel
theorem dX10_lengthWith_19 : decode cX10_lengthWith 19 = .ok (.isub, 1) := by decide +kernel
theorem dX10_lengthWith_20 : decode cX10_lengthWith 20 = .ok (.aload_n 0, 1) := by decide +kernel
theorem dX10_lengthWith_21 : decode cX10_lengthWith 21 = .ok (.getfield 90, 3) := by decide +kernel
theorem dX10_lengthWith_24 : decode cX10_lengthWith 24 = .ok (.iconst 4, 1) := by decide +kernel
theorem dX10_lengthWith_25 : decode cX10_lengthWith 25 = .ok (.iload_n 1, 1) := by decide +kernel
theorem dX10_lengthWith_26 : decode cX10_lengthWith 26 = .ok (.imul, 1) := by decide +kernel
theorem dX10_lengthWith_27 : decode cX10_lengthWith 27 = .ok (.iconst 1, 1) := by decide +kernel
theorem dX10_lengthWith_28 : decode cX10_lengthWith 28 = .ok (.iadd, 1) := by decide +kernel
theorem dX10_lengthWith_29 : decode cX10_lengthWith 29 = .ok (.iaload, 1) := by decide +kernel
theorem dX10_lengthWith_30 : decode cX10_lengthWith 30 = .ok (.iadd, 1) := by decide +kernel
theorem dX10_lengthWith_31 : decode cX10_lengthWith 31 = .ok (.ireturn, 1) := by decide +kernel
theorem dX10_letterWith_0 : decode cX10_letterWith 0 = .ok (.iload_n 2, 1) := by decide +kernel
theorem dX10_letterWith_1 : decode cX10_letterWith 1 = .ok (.aload_n 0, 1) := by decide +kernel
theorem dX10_letterWith_2 : decode cX10_letterWith 2 = .ok (.getfield 75, 3) := by decide +kernel
theorem dX10_letterWith_5 : decode cX10_letterWith 5 = .ok (.iload_n 1, 1) := by decide +kernel
theorem dX10_letterWith_6 : decode cX10_letterWith 6 = .ok (.iaload, 1) := by decide +kernel
theorem dX10_letterWith_7 : decode cX10_letterWith 7 = .ok (.isub, 1) := by decide +kernel
theorem dX10_letterWith_8 : decode cX10_letterWith 8 = .ok (.istore_n 3, 1) := by decide +kernel
theorem dX10_letterWith_9 : decode cX10_letterWith 9 = .ok (.iload_n 3, 1) := by decide +kernel
theorem dX10_letterWith_10 : decode cX10_letterWith 10 = .ok (.ifCond .ge 15, 3) := by decide +kernel
theorem dX10_letterWith_13 : decode cX10_letterWith 13 = .ok (.aload_n 0, 1) := by decide +kernel
theorem dX10_letterWith_14 : decode cX10_letterWith 14 = .ok (.aload_n 0, 1) := by decide +kernel
theorem dX10_letterWith_15 : decode cX10_letterWith 15 = .ok (.getfield 72, 3) := by decide +kernel
theorem dX10_letterWith_18 : decode cX10_letterWith 18 = .ok (.iload_n 1, 1) := by decide +kernel
theorem dX10_letterWith_19 : decode cX10_letterWith 19 = .ok (.iaload, 1) := by decide +kernel
theorem dX10_letterWith_20 : decode cX10_letterWith 20 = .ok (.iload_n 2, 1) := by decide +kernel
theorem dX10_letterWith_21 : decode cX10_letterWith 21 = .ok (.invokevirtual 255, 3) := by decide +kernel
theorem dX10_letterWith_24 : decode cX10_letterWith 24 = .ok (.ireturn, 1) := by decide +kernel
theorem dX10_letterWith_25 : decode cX10_letterWith 25 = .ok (.aload_n 0, 1) := by decide +kernel
theorem dX10_letterWith_26 : decode cX10_letterWith 26 = .ok (.getfield 90, 3) := by decide +kernel
theorem dX10_letterWith_29 : decode cX10_letterWith 29 = .ok (.iconst 4, 1) := by decide +kernel
theorem dX10_letterWith_30 : decode cX10_letterWith 30 = .ok (.iload_n 1, 1) := by decide +kernel
theorem dX10_letterWith_31 : decode cX10_letterWith 31 = .ok (.imul, 1) := by decide +kernel
theorem dX10_letterWith_32 : decode cX10_letterWith 32 = .ok (.iconst 1, 1) := by decide +kernel
theorem dX10_letterWith_33 : decode cX10_letterWith 33 = .ok (.iadd, 1) := by decide +kernel
theorem dX10_letterWith_34 : decode cX10_letterWith 34 = .ok (.iaload, 1) := by decide +kernel
theorem dX10_letterWith_35 : decode cX10_letterWith 35 = .ok (.istore 4, 2) := by decide +kernel
theorem dX10_letterWith_37 : decode cX10_letterWith 37 = .ok (.iload_n 3, 1) := by decide +kernel
theorem dX10_letterWith_38 : decode cX10_letterWith 38 = .ok (.iload 4, 2) := by decide +kernel
theorem dX10_letterWith_40 : decode cX10_letterWith 40 = .ok (.if_icmp .ge 21, 3) := by decide +kernel
theorem dX10_letterWith_43 : decode cX10_letterWith 43 = .ok (.aload_n 0, 1) := by decide +kernel
theorem dX10_letterWith_44 : decode cX10_letterWith 44 = .ok (.getfield 87, 3) := by decide +kernel
theorem dX10_letterWith_47 : decode cX10_letterWith 47 = .ok (.bipush 26, 2) := by decide +kernel
theorem dX10_letterWith_49 : decode cX10_letterWith 49 = .ok (.iconst 4, 1) := by decide +kernel
theorem dX10_letterWith_50 : decode cX10_letterWith 50 = .ok (.iload_n 1, 1) := by decide +kernel
theorem dX10_letterWith_51 : decode cX10_letterWith 51 = .ok (.imul, 1) := by decide +kernel
theorem dX10_letterWith_52 : decode cX10_letterWith 52 = .ok (.iconst 1, 1) := by decide +kernel
theorem dX10_letterWith_53 : decode cX10_letterWith 53 = .ok (.iadd, 1) := by decide +kernel
theorem dX10_letterWith_54 : decode cX10_letterWith 54 = .ok (.imul, 1) := by decide +kernel
theorem dX10_letterWith_55 : decode cX10_letterWith 55 = .ok (.iload_n 3, 1) := by decide +kernel
theorem dX10_letterWith_56 : decode cX10_letterWith 56 = .ok (.iadd, 1) := by decide +kernel
theorem dX10_letterWith_57 : decode cX10_letterWith 57 = .ok (.baload, 1) := by decide +kernel
theorem dX10_letterWith_58 : decode cX10_letterWith 58 = .ok (.goto 33, 3) := by decide +kernel
theorem dX10_letterWith_61 : decode cX10_letterWith 61 = .ok (.aload_n 0, 1) := by decide +kernel
theorem dX10_letterWith_62 : decode cX10_letterWith 62 = .ok (.aload_n 0, 1) := by decide +kernel
theorem dX10_letterWith_63 : decode cX10_letterWith 63 = .ok (.getfield 72, 3) := by decide +kernel
theorem dX10_letterWith_66 : decode cX10_letterWith 66 = .ok (.iload_n 1, 1) := by decide +kernel
theorem dX10_letterWith_67 : decode cX10_letterWith 67 = .ok (.iaload, 1) := by decide +kernel
theorem dX10_letterWith_68 : decode cX10_letterWith 68 = .ok (.aload_n 0, 1) := by decide +kernel
theorem dX10_letterWith_69 : decode cX10_letterWith 69 = .ok (.getfield 75, 3) := by decide +kernel
theorem dX10_letterWith_72 : decode cX10_letterWith 72 = .ok (.iload_n 1, 1) := by decide +kernel
theorem dX10_letterWith_73 : decode cX10_letterWith 73 = .ok (.iaload, 1) := by decide +kernel
theorem dX10_letterWith_74 : decode cX10_letterWith 74 = .ok (.aload_n 0, 1) := by decide +kernel
theorem dX10_letterWith_75 : decode cX10_letterWith 75 = .ok (.getfield 90, 3) := by decide +kernel
theorem dX10_letterWith_78 : decode cX10_letterWith 78 = .ok (.iconst 4, 1) := by decide +kernel
theorem dX10_letterWith_79 : decode cX10_letterWith 79 = .ok (.iload_n 1, 1) := by decide +kernel
theorem dX10_letterWith_80 : decode cX10_letterWith 80 = .ok (.imul, 1) := by decide +kernel
theorem dX10_letterWith_81 : decode cX10_letterWith 81 = .ok (.iaload, 1) := by decide +kernel
theorem dX10_letterWith_82 : decode cX10_letterWith 82 = .ok (.iadd, 1) := by decide +kernel
theorem dX10_letterWith_83 : decode cX10_letterWith 83 = .ok (.iload_n 3, 1) := by decide +kernel
theorem dX10_letterWith_84 : decode cX10_letterWith 84 = .ok (.iadd, 1) := by decide +kernel
theorem dX10_letterWith_85 : decode cX10_letterWith 85 = .ok (.iload 4, 2) := by decide +kernel
theorem dX10_letterWith_87 : decode cX10_letterWith 87 = .ok (.isub, 1) := by decide +kernel
theorem dX10_letterWith_88 : decode cX10_letterWith 88 = .ok (.invokevirtual 255, 3) := by decide +kernel
theorem dX10_letterWith_91 : decode cX10_letterWith 91 = .ok (.ireturn, 1) := by decide +kernel
theorem dX10_same_0 : decode cX10_same 0 = .ok (.aload_n 0, 1) := by decide +kernel
theorem dX10_same_1 : decode cX10_same 1 = .ok (.aload_n 0, 1) := by decide +kernel
theorem dX10_same_2 : decode cX10_same 2 = .ok (.iload_n 1, 1) := by decide +kernel
theorem dX10_same_3 : decode cX10_same 3 = .ok (.iload_n 2, 1) := by decide +kernel
theorem dX10_same_4 : decode cX10_same 4 = .ok (.invokevirtual 306, 3) := by decide +kernel
theorem dX10_same_7 : decode cX10_same 7 = .ok (.ifCond .eq 17, 3) := by decide +kernel
theorem dX10_same_10 : decode cX10_same 10 = .ok (.aload_n 0, 1) := by decide +kernel
theorem dX10_same_11 : decode cX10_same 11 = .ok (.iload_n 3, 1) := by decide +kernel
theorem dX10_same_12 : decode cX10_same 12 = .ok (.iload 4, 2) := by decide +kernel
theorem dX10_same_14 : decode cX10_same 14 = .ok (.invokevirtual 306, 3) := by decide +kernel
theorem dX10_same_17 : decode cX10_same 17 = .ok (.ifCond .eq 7, 3) := by decide +kernel
theorem dX10_same_20 : decode cX10_same 20 = .ok (.iconst 1, 1) := by decide +kernel
theorem dX10_same_21 : decode cX10_same 21 = .ok (.goto 4, 3) := by decide +kernel
theorem dX10_same_24 : decode cX10_same 24 = .ok (.iconst 0, 1) := by decide +kernel
theorem dX10_same_25 : decode cX10_same 25 = .ok (.invokevirtual 143, 3) := by decide +kernel
theorem dX10_same_28 : decode cX10_same 28 = .ok (.ifCond .ne 5, 3) := by decide +kernel
theorem dX10_same_31 : decode cX10_same 31 = .ok (.iconst 0, 1) := by decide +kernel
theorem dX10_same_32 : decode cX10_same 32 = .ok (.ireturn, 1) := by decide +kernel
theorem dX10_same_33 : decode cX10_same 33 = .ok (.bipush 60, 2) := by decide +kernel
theorem dX10_same_35 : decode cX10_same 35 = .ok (.iload_n 1, 1) := by decide +kernel
theorem dX10_same_36 : decode cX10_same 36 = .ok (.imul, 1) := by decide +kernel
theorem dX10_same_37 : decode cX10_same 37 = .ok (.iload_n 2, 1) := by decide +kernel
theorem dX10_same_38 : decode cX10_same 38 = .ok (.iadd, 1) := by decide +kernel
theorem dX10_same_39 : decode cX10_same 39 = .ok (.istore 5, 2) := by decide +kernel
theorem dX10_same_41 : decode cX10_same 41 = .ok (.bipush 60, 2) := by decide +kernel
theorem dX10_same_43 : decode cX10_same 43 = .ok (.iload_n 3, 1) := by decide +kernel
theorem dX10_same_44 : decode cX10_same 44 = .ok (.imul, 1) := by decide +kernel
theorem dX10_same_45 : decode cX10_same 45 = .ok (.iload 4, 2) := by decide +kernel
theorem dX10_same_47 : decode cX10_same 47 = .ok (.iadd, 1) := by decide +kernel
theorem dX10_same_48 : decode cX10_same 48 = .ok (.istore 6, 2) := by decide +kernel
theorem dX10_same_50 : decode cX10_same 50 = .ok (.aload_n 0, 1) := by decide +kernel
theorem dX10_same_51 : decode cX10_same 51 = .ok (.getfield 84, 3) := by decide +kernel
theorem dX10_same_54 : decode cX10_same 54 = .ok (.iload 5, 2) := by decide +kernel
theorem dX10_same_56 : decode cX10_same 56 = .ok (.iaload, 1) := by decide +kernel
theorem dX10_same_57 : decode cX10_same 57 = .ok (.iconst 1, 1) := by decide +kernel
theorem dX10_same_58 : decode cX10_same 58 = .ok (.if_icmp .ne 35, 3) := by decide +kernel
theorem dX10_same_61 : decode cX10_same 61 = .ok (.aload_n 0, 1) := by decide +kernel
theorem dX10_same_62 : decode cX10_same 62 = .ok (.getfield 84, 3) := by decide +kernel
theorem dX10_same_65 : decode cX10_same 65 = .ok (.iload 6, 2) := by decide +kernel
theorem dX10_same_67 : decode cX10_same 67 = .ok (.iaload, 1) := by decide +kernel
theorem dX10_same_68 : decode cX10_same 68 = .ok (.iconst 1, 1) := by decide +kernel
theorem dX10_same_69 : decode cX10_same 69 = .ok (.if_icmp .ne 24, 3) := by decide +kernel
theorem dX10_same_72 : decode cX10_same 72 = .ok (.aload_n 0, 1) := by decide +kernel
theorem dX10_same_73 : decode cX10_same 73 = .ok (.getfield 72, 3) := by decide +kernel
theorem dX10_same_76 : decode cX10_same 76 = .ok (.iload 5, 2) := by decide +kernel
theorem dX10_same_78 : decode cX10_same 78 = .ok (.iaload, 1) := by decide +kernel
theorem dX10_same_79 : decode cX10_same 79 = .ok (.aload_n 0, 1) := by decide +kernel
theorem dX10_same_80 : decode cX10_same 80 = .ok (.getfield 72, 3) := by decide +kernel
theorem dX10_same_83 : decode cX10_same 83 = .ok (.iload 6, 2) := by decide +kernel
theorem dX10_same_85 : decode cX10_same 85 = .ok (.iaload, 1) := by decide +kernel
theorem dX10_same_86 : decode cX10_same 86 = .ok (.if_icmp .ne 7, 3) := by decide +kernel
theorem dX10_same_89 : decode cX10_same 89 = .ok (.iconst 1, 1) := by decide +kernel
theorem dX10_same_90 : decode cX10_same 90 = .ok (.goto 4, 3) := by decide +kernel
theorem dX10_same_93 : decode cX10_same 93 = .ok (.iconst 0, 1) := by decide +kernel
theorem dX10_same_94 : decode cX10_same 94 = .ok (.istore 7, 2) := by decide +kernel
theorem dX10_same_96 : decode cX10_same 96 = .ok (.iload 7, 2) := by decide +kernel
theorem dX10_same_98 : decode cX10_same 98 = .ok (.ifCond .eq 22, 3) := by decide +kernel
theorem dX10_same_101 : decode cX10_same 101 = .ok (.aload_n 0, 1) := by decide +kernel
theorem dX10_same_102 : decode cX10_same 102 = .ok (.iload 5, 2) := by decide +kernel
theorem dX10_same_104 : decode cX10_same 104 = .ok (.invokevirtual 385, 3) := by decide +kernel
theorem dX10_same_107 : decode cX10_same 107 = .ok (.aload_n 0, 1) := by decide +kernel
theorem dX10_same_108 : decode cX10_same 108 = .ok (.iload 6, 2) := by decide +kernel
theorem dX10_same_110 : decode cX10_same 110 = .ok (.invokevirtual 385, 3) := by decide +kernel
theorem dX10_same_113 : decode cX10_same 113 = .ok (.if_icmp .ne 7, 3) := by decide +kernel
theorem dX10_same_116 : decode cX10_same 116 = .ok (.iconst 1, 1) := by decide +kernel
theorem dX10_same_117 : decode cX10_same 117 = .ok (.goto 4, 3) := by decide +kernel
theorem dX10_same_120 : decode cX10_same 120 = .ok (.iconst 0, 1) := by decide +kernel
theorem dX10_same_121 : decode cX10_same 121 = .ok (.istore 7, 2) := by decide +kernel
theorem dX10_same_123 : decode cX10_same 123 = .ok (.iconst 1, 1) := by decide +kernel
theorem dX10_same_124 : decode cX10_same 124 = .ok (.istore 8, 2) := by decide +kernel
theorem dX10_same_126 : decode cX10_same 126 = .ok (.iload 7, 2) := by decide +kernel
theorem dX10_same_128 : decode cX10_same 128 = .ok (.ifCond .eq 46, 3) := by decide +kernel
theorem dX10_same_131 : decode cX10_same 131 = .ok (.iload 8, 2) := by decide +kernel
theorem dX10_same_133 : decode cX10_same 133 = .ok (.aload_n 0, 1) := by decide +kernel
theorem dX10_same_134 : decode cX10_same 134 = .ok (.iload 5, 2) := by decide +kernel
theorem dX10_same_136 : decode cX10_same 136 = .ok (.invokevirtual 385, 3) := by decide +kernel
theorem dX10_same_139 : decode cX10_same 139 = .ok (.if_icmp .gt 35, 3) := by decide +kernel
theorem dX10_same_142 : decode cX10_same 142 = .ok (.aload_n 0, 1) := by decide +kernel
theorem dX10_same_143 : decode cX10_same 143 = .ok (.iload 5, 2) := by decide +kernel
theorem dX10_same_145 : decode cX10_same 145 = .ok (.iload 8, 2) := by decide +kernel
theorem dX10_same_147 : decode cX10_same 147 = .ok (.invokevirtual 388, 3) := by decide +kernel
theorem dX10_same_150 : decode cX10_same 150 = .ok (.aload_n 0, 1) := by decide +kernel
theorem dX10_same_151 : decode cX10_same 151 = .ok (.iload 6, 2) := by decide +kernel
theorem dX10_same_153 : decode cX10_same 153 = .ok (.iload 8, 2) := by decide +kernel
theorem dX10_same_155 : decode cX10_same 155 = .ok (.invokevirtual 388, 3) := by decide +kernel
theorem dX10_same_158 : decode cX10_same 158 = .ok (.if_icmp .ne 7, 3) := by decide +kernel
theorem dX10_same_161 : decode cX10_same 161 = .ok (.iconst 1, 1) := by decide +kernel
theorem dX10_same_162 : decode cX10_same 162 = .ok (.goto 4, 3) := by decide +kernel
theorem dX10_same_165 : decode cX10_same 165 = .ok (.iconst 0, 1) := by decide +kernel
theorem dX10_same_166 : decode cX10_same 166 = .ok (.istore 7, 2) := by decide +kernel
theorem dX10_same_168 : decode cX10_same 168 = .ok (.iinc 8 1, 3) := by decide +kernel
theorem dX10_same_171 : decode cX10_same 171 = .ok (.goto (-45), 3) := by decide +kernel
theorem dX10_same_174 : decode cX10_same 174 = .ok (.iload 7, 2) := by decide +kernel
theorem dX10_same_176 : decode cX10_same 176 = .ok (.ireturn, 1) := by decide +kernel
theorem dX10_put_0 : decode cX10_put 0 = .ok (.aload_n 0, 1) := by decide +kernel
theorem dX10_put_1 : decode cX10_put 1 = .ok (.getfield 391, 3) := by decide +kernel
theorem dX10_put_4 : decode cX10_put 4 = .ok (.sipush 8000, 3) := by decide +kernel
theorem dX10_put_7 : decode cX10_put 7 = .ok (.if_icmp .ge 14, 3) := by decide +kernel
theorem dX10_put_10 : decode cX10_put 10 = .ok (.aload_n 0, 1) := by decide +kernel
theorem dX10_put_11 : decode cX10_put 11 = .ok (.getfield 127, 3) := by decide +kernel
theorem dX10_put_14 : decode cX10_put 14 = .ok (.aload_n 0, 1) := by decide +kernel
theorem dX10_put_15 : decode cX10_put 15 = .ok (.getfield 391, 3) := by decide +kernel
theorem dX10_put_18 : decode cX10_put 18 = .ok (.iload_n 1, 1) := by decide +kernel
theorem dX10_put_19 : decode cX10_put 19 = .ok (.i2b, 1) := by decide +kernel
theorem dX10_put_20 : decode cX10_put 20 = .ok (.bastore, 1) := by decide +kernel
theorem dX10_put_21 : decode cX10_put 21 = .ok (.aload_n 0, 1) := by decide +kernel
theorem dX10_put_22 : decode cX10_put 22 = .ok (.dup, 1) := by decide +kernel
theorem dX10_put_23 : decode cX10_put 23 = .ok (.getfield 391, 3) := by decide +kernel
theorem dX10_put_26 : decode cX10_put 26 = .ok (.iconst 1, 1) := by decide +kernel
theorem dX10_put_27 : decode cX10_put 27 = .ok (.iadd, 1) := by decide +kernel
theorem dX10_put_28 : decode cX10_put 28 = .ok (.putfield 391, 3) := by decide +kernel
theorem dX10_put_31 : decode cX10_put 31 = .ok (.return_, 1) := by decide +kernel
theorem dX10_putText_0 : decode cX10_putText 0 = .ok (.iconst 0, 1) := by decide +kernel
theorem dX10_putText_1 : decode cX10_putText 1 = .ok (.istore_n 2, 1) := by decide +kernel
theorem dX10_putText_2 : decode cX10_putText 2 = .ok (.iload_n 2, 1) := by decide +kernel
theorem dX10_putText_3 : decode cX10_putText 3 = .ok (.iload_n 1, 1) := by decide +kernel
theorem dX10_putText_4 : decode cX10_putText 4 = .ok (.invokestatic 228, 3) := by decide +kernel
theorem dX10_putText_7 : decode cX10_putText 7 = .ok (.if_icmp .ge 18, 3) := by decide +kernel
theorem dX10_putText_10 : decode cX10_putText 10 = .ok (.aload_n 0, 1) := by decide +kernel
theorem dX10_putText_11 : decode cX10_putText 11 = .ok (.iload_n 1, 1) := by decide +kernel
theorem dX10_putText_12 : decode cX10_putText 12 = .ok (.iload_n 2, 1) := by decide +kernel
theorem dX10_putText_13 : decode cX10_putText 13 = .ok (.invokestatic 231, 3) := by decide +kernel
theorem dX10_putText_16 : decode cX10_putText 16 = .ok (.invokevirtual 394, 3) := by decide +kernel
theorem dX10_putText_19 : decode cX10_putText 19 = .ok (.iinc 2 1, 3) := by decide +kernel
theorem dX10_putText_22 : decode cX10_putText 22 = .ok (.goto (-20), 3) := by decide +kernel
theorem dX10_putText_25 : decode cX10_putText 25 = .ok (.return_, 1) := by decide +kernel
theorem dX10_putNumber_0 : decode cX10_putNumber 0 = .ok (.iconst 1, 1) := by decide +kernel
theorem dX10_putNumber_1 : decode cX10_putNumber 1 = .ok (.istore_n 2, 1) := by decide +kernel
theorem dX10_putNumber_2 : decode cX10_putNumber 2 = .ok (.iload_n 1, 1) := by decide +kernel
theorem dX10_putNumber_3 : decode cX10_putNumber 3 = .ok (.iload_n 2, 1) := by decide +kernel
theorem dX10_putNumber_4 : decode cX10_putNumber 4 = .ok (.idiv, 1) := by decide +kernel
theorem dX10_putNumber_5 : decode cX10_putNumber 5 = .ok (.bipush 10, 2) := by decide +kernel
theorem dX10_putNumber_7 : decode cX10_putNumber 7 = .ok (.if_icmp .lt 11, 3) := by decide +kernel
theorem dX10_putNumber_10 : decode cX10_putNumber 10 = .ok (.iload_n 2, 1) := by decide +kernel
theorem dX10_putNumber_11 : decode cX10_putNumber 11 = .ok (.bipush 10, 2) := by decide +kernel
theorem dX10_putNumber_13 : decode cX10_putNumber 13 = .ok (.imul, 1) := by decide +kernel
theorem dX10_putNumber_14 : decode cX10_putNumber 14 = .ok (.istore_n 2, 1) := by decide +kernel
theorem dX10_putNumber_15 : decode cX10_putNumber 15 = .ok (.goto (-13), 3) := by decide +kernel
theorem dX10_putNumber_18 : decode cX10_putNumber 18 = .ok (.iload_n 2, 1) := by decide +kernel
theorem dX10_putNumber_19 : decode cX10_putNumber 19 = .ok (.ifCond .le 24, 3) := by decide +kernel
theorem dX10_putNumber_22 : decode cX10_putNumber 22 = .ok (.aload_n 0, 1) := by decide +kernel
theorem dX10_putNumber_23 : decode cX10_putNumber 23 = .ok (.bipush 48, 2) := by decide +kernel
theorem dX10_putNumber_25 : decode cX10_putNumber 25 = .ok (.iload_n 1, 1) := by decide +kernel
theorem dX10_putNumber_26 : decode cX10_putNumber 26 = .ok (.iload_n 2, 1) := by decide +kernel
theorem dX10_putNumber_27 : decode cX10_putNumber 27 = .ok (.idiv, 1) := by decide +kernel
theorem dX10_putNumber_28 : decode cX10_putNumber 28 = .ok (.bipush 10, 2) := by decide +kernel
theorem dX10_putNumber_30 : decode cX10_putNumber 30 = .ok (.irem, 1) := by decide +kernel
theorem dX10_putNumber_31 : decode cX10_putNumber 31 = .ok (.iadd, 1) := by decide +kernel
theorem dX10_putNumber_32 : decode cX10_putNumber 32 = .ok (.invokevirtual 394, 3) := by decide +kernel
theorem dX10_putNumber_35 : decode cX10_putNumber 35 = .ok (.iload_n 2, 1) := by decide +kernel
theorem dX10_putNumber_36 : decode cX10_putNumber 36 = .ok (.bipush 10, 2) := by decide +kernel
theorem dX10_putNumber_38 : decode cX10_putNumber 38 = .ok (.idiv, 1) := by decide +kernel
theorem dX10_putNumber_39 : decode cX10_putNumber 39 = .ok (.istore_n 2, 1) := by decide +kernel
theorem dX10_putNumber_40 : decode cX10_putNumber 40 = .ok (.goto (-22), 3) := by decide +kernel
theorem dX10_putNumber_43 : decode cX10_putNumber 43 = .ok (.return_, 1) := by decide +kernel
theorem dX10_putRow_0 : decode cX10_putRow 0 = .ok (.iconst 0, 1) := by decide +kernel
theorem dX10_putRow_1 : decode cX10_putRow 1 = .ok (.istore_n 3, 1) := by decide +kernel
theorem dX10_putRow_2 : decode cX10_putRow 2 = .ok (.iload_n 3, 1) := by decide +kernel
theorem dX10_putRow_3 : decode cX10_putRow 3 = .ok (.aload_n 0, 1) := by decide +kernel
theorem dX10_putRow_4 : decode cX10_putRow 4 = .ok (.getfield 90, 3) := by decide +kernel
theorem dX10_putRow_7 : decode cX10_putRow 7 = .ok (.iconst 4, 1) := by decide +kernel
theorem dX10_putRow_8 : decode cX10_putRow 8 = .ok (.iload_n 1, 1) := by decide +kernel
theorem dX10_putRow_9 : decode cX10_putRow 9 = .ok (.imul, 1) := by decide +kernel
theorem dX10_putRow_10 : decode cX10_putRow 10 = .ok (.iload_n 2, 1) := by decide +kernel
theorem dX10_putRow_11 : decode cX10_putRow 11 = .ok (.iadd, 1) := by decide +kernel
theorem dX10_putRow_12 : decode cX10_putRow 12 = .ok (.iaload, 1) := by decide +kernel
theorem dX10_putRow_13 : decode cX10_putRow 13 = .ok (.if_icmp .ge 28, 3) := by decide +kernel
theorem dX10_putRow_16 : decode cX10_putRow 16 = .ok (.aload_n 0, 1) := by decide +kernel
theorem dX10_putRow_17 : decode cX10_putRow 17 = .ok (.aload_n 0, 1) := by decide +kernel
theorem dX10_putRow_18 : decode cX10_putRow 18 = .ok (.getfield 87, 3) := by decide +kernel
theorem dX10_putRow_21 : decode cX10_putRow 21 = .ok (.bipush 26, 2) := by decide +kernel
theorem dX10_putRow_23 : decode cX10_putRow 23 = .ok (.iconst 4, 1) := by decide +kernel
theorem dX10_putRow_24 : decode cX10_putRow 24 = .ok (.iload_n 1, 1) := by decide +kernel
theorem dX10_putRow_25 : decode cX10_putRow 25 = .ok (.imul, 1) := by decide +kernel
theorem dX10_putRow_26 : decode cX10_putRow 26 = .ok (.iload_n 2, 1) := by decide +kernel
theorem dX10_putRow_27 : decode cX10_putRow 27 = .ok (.iadd, 1) := by decide +kernel
theorem dX10_putRow_28 : decode cX10_putRow 28 = .ok (.imul, 1) := by decide +kernel
theorem dX10_putRow_29 : decode cX10_putRow 29 = .ok (.iload_n 3, 1) := by decide +kernel
theorem dX10_putRow_30 : decode cX10_putRow 30 = .ok (.iadd, 1) := by decide +kernel
theorem dX10_putRow_31 : decode cX10_putRow 31 = .ok (.baload, 1) := by decide +kernel
theorem dX10_putRow_32 : decode cX10_putRow 32 = .ok (.invokevirtual 394, 3) := by decide +kernel
theorem dX10_putRow_35 : decode cX10_putRow 35 = .ok (.iinc 3 1, 3) := by decide +kernel
theorem dX10_putRow_38 : decode cX10_putRow 38 = .ok (.goto (-36), 3) := by decide +kernel
theorem dX10_putRow_41 : decode cX10_putRow 41 = .ok (.return_, 1) := by decide +kernel
theorem dX10_putCall_0 : decode cX10_putCall 0 = .ok (.aload_n 0, 1) := by decide +kernel
theorem dX10_putCall_1 : decode cX10_putCall 1 = .ok (.iload_n 1, 1) := by decide +kernel
theorem dX10_putCall_2 : decode cX10_putCall 2 = .ok (.iconst (-1), 1) := by decide +kernel
theorem dX10_putCall_3 : decode cX10_putCall 3 = .ok (.if_icmp .ne 8, 3) := by decide +kernel
theorem dX10_putCall_6 : decode cX10_putCall 6 = .ok (.bipush 46, 2) := by decide +kernel
theorem dX10_putCall_8 : decode cX10_putCall 8 = .ok (.goto 7, 3) := by decide +kernel
theorem dX10_putCall_11 : decode cX10_putCall 11 = .ok (.bipush 48, 2) := by decide +kernel
theorem dX10_putCall_13 : decode cX10_putCall 13 = .ok (.iload_n 1, 1) := by decide +kernel
theorem dX10_putCall_14 : decode cX10_putCall 14 = .ok (.iadd, 1) := by decide +kernel
theorem dX10_putCall_15 : decode cX10_putCall 15 = .ok (.invokevirtual 394, 3) := by decide +kernel
theorem dX10_putCall_18 : decode cX10_putCall 18 = .ok (.return_, 1) := by decide +kernel
theorem dX10_putRecord_0 : decode cX10_putRecord 0 = .ok (.iconst 0, 1) := by decide +kernel
theorem dX10_putRecord_1 : decode cX10_putRecord 1 = .ok (.istore_n 3, 1) := by decide +kernel
theorem dX10_putRecord_2 : decode cX10_putRecord 2 = .ok (.iload_n 3, 1) := by decide +kernel
theorem dX10_putRecord_3 : decode cX10_putRecord 3 = .ok (.aload_n 0, 1) := by decide +kernel
theorem dX10_putRecord_4 : decode cX10_putRecord 4 = .ok (.getfield 20, 3) := by decide +kernel
theorem dX10_putRecord_7 : decode cX10_putRecord 7 = .ok (.aload_n 0, 1) := by decide +kernel
theorem dX10_putRecord_8 : decode cX10_putRecord 8 = .ok (.getfield 72, 3) := by decide +kernel
theorem dX10_putRecord_11 : decode cX10_putRecord 11 = .ok (.iload_n 2, 1) := by decide +kernel
theorem dX10_putRecord_12 : decode cX10_putRecord 12 = .ok (.iaload, 1) := by decide +kernel
theorem dX10_putRecord_13 : decode cX10_putRecord 13 = .ok (.iaload, 1) := by decide +kernel
theorem dX10_putRecord_14 : decode cX10_putRecord 14 = .ok (.if_icmp .ge 29, 3) := by decide +kernel
theorem dX10_putRecord_17 : decode cX10_putRecord 17 = .ok (.aload_n 0, 1) := by decide +kernel
theorem dX10_putRecord_18 : decode cX10_putRecord 18 = .ok (.aload_n 0, 1) := by decide +kernel
theorem dX10_putRecord_19 : decode cX10_putRecord 19 = .ok (.getfield 17, 3) := by decide +kernel
theorem dX10_putRecord_22 : decode cX10_putRecord 22 = .ok (.bipush 20, 2) := by decide +kernel
theorem dX10_putRecord_24 : decode cX10_putRecord 24 = .ok (.aload_n 0, 1) := by decide +kernel
theorem dX10_putRecord_25 : decode cX10_putRecord 25 = .ok (.getfield 72, 3) := by decide +kernel
theorem dX10_putRecord_28 : decode cX10_putRecord 28 = .ok (.iload_n 2, 1) := by decide +kernel
theorem dX10_putRecord_29 : decode cX10_putRecord 29 = .ok (.iaload, 1) := by decide +kernel
theorem dX10_putRecord_30 : decode cX10_putRecord 30 = .ok (.imul, 1) := by decide +kernel
theorem dX10_putRecord_31 : decode cX10_putRecord 31 = .ok (.iload_n 3, 1) := by decide +kernel
theorem dX10_putRecord_32 : decode cX10_putRecord 32 = .ok (.iadd, 1) := by decide +kernel
theorem dX10_putRecord_33 : decode cX10_putRecord 33 = .ok (.baload, 1) := by decide +kernel
theorem dX10_putRecord_34 : decode cX10_putRecord 34 = .ok (.invokevirtual 394, 3) := by decide +kernel
theorem dX10_putRecord_37 : decode cX10_putRecord 37 = .ok (.iinc 3 1, 3) := by decide +kernel
theorem dX10_putRecord_40 : decode cX10_putRecord 40 = .ok (.goto (-38), 3) := by decide +kernel
theorem dX10_putRecord_43 : decode cX10_putRecord 43 = .ok (.aload_n 0, 1) := by decide +kernel
theorem dX10_putRecord_44 : decode cX10_putRecord 44 = .ok (.bipush 9, 2) := by decide +kernel
theorem dX10_putRecord_46 : decode cX10_putRecord 46 = .ok (.invokevirtual 394, 3) := by decide +kernel
theorem dX10_putRecord_49 : decode cX10_putRecord 49 = .ok (.aload_n 0, 1) := by decide +kernel
theorem dX10_putRecord_50 : decode cX10_putRecord 50 = .ok (.aload_n 0, 1) := by decide +kernel
theorem dX10_putRecord_51 : decode cX10_putRecord 51 = .ok (.getfield 75, 3) := by decide +kernel
theorem dX10_putRecord_54 : decode cX10_putRecord 54 = .ok (.iload_n 2, 1) := by decide +kernel
theorem dX10_putRecord_55 : decode cX10_putRecord 55 = .ok (.iaload, 1) := by decide +kernel
theorem dX10_putRecord_56 : decode cX10_putRecord 56 = .ok (.invokevirtual 397, 3) := by decide +kernel
theorem dX10_putRecord_59 : decode cX10_putRecord 59 = .ok (.aload_n 0, 1) := by decide +kernel
theorem dX10_putRecord_60 : decode cX10_putRecord 60 = .ok (.bipush 9, 2) := by decide +kernel
theorem dX10_putRecord_62 : decode cX10_putRecord 62 = .ok (.invokevirtual 394, 3) := by decide +kernel
theorem dX10_putRecord_65 : decode cX10_putRecord 65 = .ok (.iconst 0, 1) := by decide +kernel
theorem dX10_putRecord_66 : decode cX10_putRecord 66 = .ok (.istore_n 3, 1) := by decide +kernel
theorem dX10_putRecord_67 : decode cX10_putRecord 67 = .ok (.iload_n 3, 1) := by decide +kernel
theorem dX10_putRecord_68 : decode cX10_putRecord 68 = .ok (.aload_n 0, 1) := by decide +kernel
theorem dX10_putRecord_69 : decode cX10_putRecord 69 = .ok (.getfield 81, 3) := by decide +kernel
theorem dX10_putRecord_72 : decode cX10_putRecord 72 = .ok (.iload_n 2, 1) := by decide +kernel
theorem dX10_putRecord_73 : decode cX10_putRecord 73 = .ok (.iaload, 1) := by decide +kernel
theorem dX10_putRecord_74 : decode cX10_putRecord 74 = .ok (.if_icmp .ge 24, 3) := by decide +kernel
theorem dX10_putRecord_77 : decode cX10_putRecord 77 = .ok (.aload_n 0, 1) := by decide +kernel
theorem dX10_putRecord_78 : decode cX10_putRecord 78 = .ok (.aload_n 0, 1) := by decide +kernel
theorem dX10_putRecord_79 : decode cX10_putRecord 79 = .ok (.getfield 78, 3) := by decide +kernel
theorem dX10_putRecord_82 : decode cX10_putRecord 82 = .ok (.bipush 20, 2) := by decide +kernel
theorem dX10_putRecord_84 : decode cX10_putRecord 84 = .ok (.iload_n 2, 1) := by decide +kernel
theorem dX10_putRecord_85 : decode cX10_putRecord 85 = .ok (.imul, 1) := by decide +kernel
theorem dX10_putRecord_86 : decode cX10_putRecord 86 = .ok (.iload_n 3, 1) := by decide +kernel
theorem dX10_putRecord_87 : decode cX10_putRecord 87 = .ok (.iadd, 1) := by decide +kernel
theorem dX10_putRecord_88 : decode cX10_putRecord 88 = .ok (.baload, 1) := by decide +kernel
theorem dX10_putRecord_89 : decode cX10_putRecord 89 = .ok (.invokevirtual 394, 3) := by decide +kernel
theorem dX10_putRecord_92 : decode cX10_putRecord 92 = .ok (.iinc 3 1, 3) := by decide +kernel
theorem dX10_putRecord_95 : decode cX10_putRecord 95 = .ok (.goto (-28), 3) := by decide +kernel
theorem dX10_putRecord_98 : decode cX10_putRecord 98 = .ok (.aload_n 0, 1) := by decide +kernel
theorem dX10_putRecord_99 : decode cX10_putRecord 99 = .ok (.getfield 81, 3) := by decide +kernel
theorem dX10_putRecord_102 : decode cX10_putRecord 102 = .ok (.iload_n 2, 1) := by decide +kernel
theorem dX10_putRecord_103 : decode cX10_putRecord 103 = .ok (.iaload, 1) := by decide +kernel
theorem dX10_putRecord_104 : decode cX10_putRecord 104 = .ok (.ifCond .ne 9, 3) := by decide +kernel
theorem dX10_putRecord_107 : decode cX10_putRecord 107 = .ok (.aload_n 0, 1) := by decide +kernel
theorem dX10_putRecord_108 : decode cX10_putRecord 108 = .ok (.bipush 46, 2) := by decide +kernel
theorem dX10_putRecord_110 : decode cX10_putRecord 110 = .ok (.invokevirtual 394, 3) := by decide +kernel
theorem dX10_putRecord_113 : decode cX10_putRecord 113 = .ok (.aload_n 0, 1) := by decide +kernel
theorem dX10_putRecord_114 : decode cX10_putRecord 114 = .ok (.bipush 9, 2) := by decide +kernel
theorem dX10_putRecord_116 : decode cX10_putRecord 116 = .ok (.invokevirtual 394, 3) := by decide +kernel
theorem dX10_putRecord_119 : decode cX10_putRecord 119 = .ok (.aload_n 0, 1) := by decide +kernel
theorem dX10_putRecord_120 : decode cX10_putRecord 120 = .ok (.iload_n 2, 1) := by decide +kernel
theorem dX10_putRecord_121 : decode cX10_putRecord 121 = .ok (.iconst 0, 1) := by decide +kernel
theorem dX10_putRecord_122 : decode cX10_putRecord 122 = .ok (.invokevirtual 400, 3) := by decide +kernel
theorem dX10_putRecord_125 : decode cX10_putRecord 125 = .ok (.aload_n 0, 1) := by decide +kernel
theorem dX10_putRecord_126 : decode cX10_putRecord 126 = .ok (.bipush 9, 2) := by decide +kernel
theorem dX10_putRecord_128 : decode cX10_putRecord 128 = .ok (.invokevirtual 394, 3) := by decide +kernel
theorem dX10_putRecord_131 : decode cX10_putRecord 131 = .ok (.aload_n 0, 1) := by decide +kernel
theorem dX10_putRecord_132 : decode cX10_putRecord 132 = .ok (.getfield 84, 3) := by decide +kernel
theorem dX10_putRecord_135 : decode cX10_putRecord 135 = .ok (.iload_n 2, 1) := by decide +kernel
theorem dX10_putRecord_136 : decode cX10_putRecord 136 = .ok (.iaload, 1) := by decide +kernel
theorem dX10_putRecord_137 : decode cX10_putRecord 137 = .ok (.ifCond .ne 9, 3) := by decide +kernel
theorem dX10_putRecord_140 : decode cX10_putRecord 140 = .ok (.aload_n 0, 1) := by decide +kernel
theorem dX10_putRecord_141 : decode cX10_putRecord 141 = .ok (.bipush 46, 2) := by decide +kernel
theorem dX10_putRecord_143 : decode cX10_putRecord 143 = .ok (.invokevirtual 394, 3) := by decide +kernel
theorem dX10_putRecord_146 : decode cX10_putRecord 146 = .ok (.iconst 1, 1) := by decide +kernel
theorem dX10_putRecord_147 : decode cX10_putRecord 147 = .ok (.istore_n 3, 1) := by decide +kernel
theorem dX10_putRecord_148 : decode cX10_putRecord 148 = .ok (.iload_n 3, 1) := by decide +kernel
theorem dX10_putRecord_149 : decode cX10_putRecord 149 = .ok (.aload_n 0, 1) := by decide +kernel
theorem dX10_putRecord_150 : decode cX10_putRecord 150 = .ok (.getfield 84, 3) := by decide +kernel
theorem dX10_putRecord_153 : decode cX10_putRecord 153 = .ok (.iload_n 2, 1) := by decide +kernel
theorem dX10_putRecord_154 : decode cX10_putRecord 154 = .ok (.iaload, 1) := by decide +kernel
theorem dX10_putRecord_155 : decode cX10_putRecord 155 = .ok (.if_icmp .gt 26, 3) := by decide +kernel
theorem dX10_putRecord_158 : decode cX10_putRecord 158 = .ok (.iload_n 3, 1) := by decide +kernel
theorem dX10_putRecord_159 : decode cX10_putRecord 159 = .ok (.iconst 1, 1) := by decide +kernel
theorem dX10_putRecord_160 : decode cX10_putRecord 160 = .ok (.if_icmp .le 9, 3) := by decide +kernel
theorem dX10_putRecord_163 : decode cX10_putRecord 163 = .ok (.aload_n 0, 1) := by decide +kernel
theorem dX10_putRecord_164 : decode cX10_putRecord 164 = .ok (.bipush 44, 2) := by decide +kernel
theorem dX10_putRecord_166 : decode cX10_putRecord 166 = .ok (.invokevirtual 394, 3) := by decide +kernel
theorem dX10_putRecord_169 : decode cX10_putRecord 169 = .ok (.aload_n 0, 1) := by decide +kernel
theorem dX10_putRecord_170 : decode cX10_putRecord 170 = .ok (.iload_n 2, 1) := by decide +kernel
theorem dX10_putRecord_171 : decode cX10_putRecord 171 = .ok (.iload_n 3, 1) := by decide +kernel
theorem dX10_putRecord_172 : decode cX10_putRecord 172 = .ok (.invokevirtual 400, 3) := by decide +kernel
theorem dX10_putRecord_175 : decode cX10_putRecord 175 = .ok (.iinc 3 1, 3) := by decide +kernel
theorem dX10_putRecord_178 : decode cX10_putRecord 178 = .ok (.goto (-30), 3) := by decide +kernel
theorem dX10_putRecord_181 : decode cX10_putRecord 181 = .ok (.aload_n 0, 1) := by decide +kernel
theorem dX10_putRecord_182 : decode cX10_putRecord 182 = .ok (.bipush 9, 2) := by decide +kernel
theorem dX10_putRecord_184 : decode cX10_putRecord 184 = .ok (.invokevirtual 394, 3) := by decide +kernel
theorem dX10_putRecord_187 : decode cX10_putRecord 187 = .ok (.aload_n 0, 1) := by decide +kernel
theorem dX10_putRecord_188 : decode cX10_putRecord 188 = .ok (.getfield 93, 3) := by decide +kernel
theorem dX10_putRecord_191 : decode cX10_putRecord 191 = .ok (.iload_n 2, 1) := by decide +kernel
theorem dX10_putRecord_192 : decode cX10_putRecord 192 = .ok (.iaload, 1) := by decide +kernel
theorem dX10_putRecord_193 : decode cX10_putRecord 193 = .ok (.iconst (-1), 1) := by decide +kernel
theorem dX10_putRecord_194 : decode cX10_putRecord 194 = .ok (.if_icmp .ne 12, 3) := by decide +kernel
theorem dX10_putRecord_197 : decode cX10_putRecord 197 = .ok (.aload_n 0, 1) := by decide +kernel
theorem dX10_putRecord_198 : decode cX10_putRecord 198 = .ok (.bipush 46, 2) := by decide +kernel
theorem dX10_putRecord_200 : decode cX10_putRecord 200 = .ok (.invokevirtual 394, 3) := by decide +kernel
theorem dX10_putRecord_203 : decode cX10_putRecord 203 = .ok (.goto 13, 3) := by decide +kernel
theorem dX10_putRecord_206 : decode cX10_putRecord 206 = .ok (.aload_n 0, 1) := by decide +kernel
theorem dX10_putRecord_207 : decode cX10_putRecord 207 = .ok (.aload_n 0, 1) := by decide +kernel
theorem dX10_putRecord_208 : decode cX10_putRecord 208 = .ok (.getfield 93, 3) := by decide +kernel
theorem dX10_putRecord_211 : decode cX10_putRecord 211 = .ok (.iload_n 2, 1) := by decide +kernel
theorem dX10_putRecord_212 : decode cX10_putRecord 212 = .ok (.iaload, 1) := by decide +kernel
theorem dX10_putRecord_213 : decode cX10_putRecord 213 = .ok (.invokevirtual 397, 3) := by decide +kernel
theorem dX10_putRecord_216 : decode cX10_putRecord 216 = .ok (.aload_n 0, 1) := by decide +kernel
theorem dX10_putRecord_217 : decode cX10_putRecord 217 = .ok (.bipush 9, 2) := by decide +kernel
theorem dX10_putRecord_219 : decode cX10_putRecord 219 = .ok (.invokevirtual 394, 3) := by decide +kernel
theorem dX10_putRecord_222 : decode cX10_putRecord 222 = .ok (.aload_n 0, 1) := by decide +kernel
theorem dX10_putRecord_223 : decode cX10_putRecord 223 = .ok (.aload_n 0, 1) := by decide +kernel
theorem dX10_putRecord_224 : decode cX10_putRecord 224 = .ok (.getfield 96, 3) := by decide +kernel
theorem dX10_putRecord_227 : decode cX10_putRecord 227 = .ok (.iload_n 2, 1) := by decide +kernel
theorem dX10_putRecord_228 : decode cX10_putRecord 228 = .ok (.baload, 1) := by decide +kernel
theorem dX10_putRecord_229 : decode cX10_putRecord 229 = .ok (.ifCond .eq 7, 3) := by decide +kernel
theorem dX10_putRecord_232 : decode cX10_putRecord 232 = .ok (.iconst 3, 1) := by decide +kernel
theorem dX10_putRecord_233 : decode cX10_putRecord 233 = .ok (.goto 4, 3) := by decide +kernel
theorem dX10_putRecord_236 : decode cX10_putRecord 236 = .ok (.iconst 5, 1) := by decide +kernel
theorem dX10_putRecord_237 : decode cX10_putRecord 237 = .ok (.invokevirtual 403, 3) := by decide +kernel
theorem dX10_putRecord_240 : decode cX10_putRecord 240 = .ok (.aload_n 0, 1) := by decide +kernel
theorem dX10_putRecord_241 : decode cX10_putRecord 241 = .ok (.bipush 9, 2) := by decide +kernel
theorem dX10_putRecord_243 : decode cX10_putRecord 243 = .ok (.invokevirtual 394, 3) := by decide +kernel
theorem dX10_putRecord_246 : decode cX10_putRecord 246 = .ok (.aload_n 0, 1) := by decide +kernel
theorem dX10_putRecord_247 : decode cX10_putRecord 247 = .ok (.bipush 46, 2) := by decide +kernel
theorem dX10_putRecord_249 : decode cX10_putRecord 249 = .ok (.invokevirtual 394, 3) := by decide +kernel
theorem dX10_putRecord_252 : decode cX10_putRecord 252 = .ok (.aload_n 0, 1) := by decide +kernel
theorem dX10_putRecord_253 : decode cX10_putRecord 253 = .ok (.getfield 63, 3) := by decide +kernel
theorem dX10_putRecord_256 : decode cX10_putRecord 256 = .ok (.iload_n 1, 1) := by decide +kernel
theorem dX10_putRecord_257 : decode cX10_putRecord 257 = .ok (.iaload, 1) := by decide +kernel
theorem dX10_putRecord_258 : decode cX10_putRecord 258 = .ok (.ifCond .le 14, 3) := by decide +kernel
theorem dX10_putRecord_261 : decode cX10_putRecord 261 = .ok (.aload_n 0, 1) := by decide +kernel
theorem dX10_putRecord_262 : decode cX10_putRecord 262 = .ok (.bipush 9, 2) := by decide +kernel
theorem dX10_putRecord_264 : decode cX10_putRecord 264 = .ok (.invokevirtual 394, 3) := by decide +kernel
theorem dX10_putRecord_267 : decode cX10_putRecord 267 = .ok (.aload_n 0, 1) := by decide +kernel
theorem dX10_putRecord_268 : decode cX10_putRecord 268 = .ok (.iconst 4, 1) := by decide +kernel
theorem dX10_putRecord_269 : decode cX10_putRecord 269 = .ok (.invokevirtual 403, 3) := by decide +kernel
theorem dX10_putRecord_272 : decode cX10_putRecord 272 = .ok (.iconst 0, 1) := by decide +kernel
theorem dX10_putRecord_273 : decode cX10_putRecord 273 = .ok (.istore_n 3, 1) := by decide +kernel
theorem dX10_putRecord_274 : decode cX10_putRecord 274 = .ok (.iload_n 3, 1) := by decide +kernel
theorem dX10_putRecord_275 : decode cX10_putRecord 275 = .ok (.aload_n 0, 1) := by decide +kernel
theorem dX10_putRecord_276 : decode cX10_putRecord 276 = .ok (.getfield 63, 3) := by decide +kernel
theorem dX10_putRecord_279 : decode cX10_putRecord 279 = .ok (.iload_n 1, 1) := by decide +kernel
theorem dX10_putRecord_280 : decode cX10_putRecord 280 = .ok (.iaload, 1) := by decide +kernel
theorem dX10_putRecord_281 : decode cX10_putRecord 281 = .ok (.if_icmp .ge 89, 3) := by decide +kernel
theorem dX10_putRecord_284 : decode cX10_putRecord 284 = .ok (.aload_n 0, 1) := by decide +kernel
theorem dX10_putRecord_285 : decode cX10_putRecord 285 = .ok (.bipush 9, 2) := by decide +kernel
theorem dX10_putRecord_287 : decode cX10_putRecord 287 = .ok (.invokevirtual 394, 3) := by decide +kernel
theorem dX10_putRecord_290 : decode cX10_putRecord 290 = .ok (.aload_n 0, 1) := by decide +kernel
theorem dX10_putRecord_291 : decode cX10_putRecord 291 = .ok (.aload_n 0, 1) := by decide +kernel
theorem dX10_putRecord_292 : decode cX10_putRecord 292 = .ok (.getfield 100, 3) := by decide +kernel
theorem dX10_putRecord_295 : decode cX10_putRecord 295 = .ok (.bipush 6, 2) := by decide +kernel
theorem dX10_putRecord_297 : decode cX10_putRecord 297 = .ok (.iload_n 2, 1) := by decide +kernel
theorem dX10_putRecord_298 : decode cX10_putRecord 298 = .ok (.imul, 1) := by decide +kernel
theorem dX10_putRecord_299 : decode cX10_putRecord 299 = .ok (.iconst 2, 1) := by decide +kernel
theorem dX10_putRecord_300 : decode cX10_putRecord 300 = .ok (.iload_n 3, 1) := by decide +kernel
theorem dX10_putRecord_301 : decode cX10_putRecord 301 = .ok (.imul, 1) := by decide +kernel
theorem dX10_putRecord_302 : decode cX10_putRecord 302 = .ok (.iadd, 1) := by decide +kernel
theorem dX10_putRecord_303 : decode cX10_putRecord 303 = .ok (.iaload, 1) := by decide +kernel
theorem dX10_putRecord_304 : decode cX10_putRecord 304 = .ok (.invokevirtual 406, 3) := by decide +kernel
theorem dX10_putRecord_307 : decode cX10_putRecord 307 = .ok (.aload_n 0, 1) := by decide +kernel
theorem dX10_putRecord_308 : decode cX10_putRecord 308 = .ok (.getfield 103, 3) := by decide +kernel
theorem dX10_putRecord_311 : decode cX10_putRecord 311 = .ok (.iconst 3, 1) := by decide +kernel
theorem dX10_putRecord_312 : decode cX10_putRecord 312 = .ok (.iload_n 2, 1) := by decide +kernel
theorem dX10_putRecord_313 : decode cX10_putRecord 313 = .ok (.imul, 1) := by decide +kernel
theorem dX10_putRecord_314 : decode cX10_putRecord 314 = .ok (.iload_n 3, 1) := by decide +kernel
theorem dX10_putRecord_315 : decode cX10_putRecord 315 = .ok (.iadd, 1) := by decide +kernel
theorem dX10_putRecord_316 : decode cX10_putRecord 316 = .ok (.iaload, 1) := by decide +kernel
theorem dX10_putRecord_317 : decode cX10_putRecord 317 = .ok (.iconst 2, 1) := by decide +kernel
theorem dX10_putRecord_318 : decode cX10_putRecord 318 = .ok (.if_icmp .ne 46, 3) := by decide +kernel
theorem dX10_putRecord_321 : decode cX10_putRecord 321 = .ok (.aload_n 0, 1) := by decide +kernel
theorem dX10_putRecord_322 : decode cX10_putRecord 322 = .ok (.aload_n 0, 1) := by decide +kernel
theorem dX10_putRecord_323 : decode cX10_putRecord 323 = .ok (.getfield 106, 3) := by decide +kernel
theorem dX10_putRecord_326 : decode cX10_putRecord 326 = .ok (.iconst 3, 1) := by decide +kernel
theorem dX10_putRecord_327 : decode cX10_putRecord 327 = .ok (.iload_n 2, 1) := by decide +kernel
theorem dX10_putRecord_328 : decode cX10_putRecord 328 = .ok (.imul, 1) := by decide +kernel
theorem dX10_putRecord_329 : decode cX10_putRecord 329 = .ok (.iload_n 3, 1) := by decide +kernel
theorem dX10_putRecord_330 : decode cX10_putRecord 330 = .ok (.iadd, 1) := by decide +kernel
theorem dX10_putRecord_331 : decode cX10_putRecord 331 = .ok (.baload, 1) := by decide +kernel
theorem dX10_putRecord_332 : decode cX10_putRecord 332 = .ok (.ifCond .eq 8, 3) := by decide +kernel
theorem dX10_putRecord_335 : decode cX10_putRecord 335 = .ok (.bipush 124, 2) := by decide +kernel
theorem dX10_putRecord_337 : decode cX10_putRecord 337 = .ok (.goto 5, 3) := by decide +kernel
theorem dX10_putRecord_340 : decode cX10_putRecord 340 = .ok (.bipush 47, 2) := by decide +kernel
theorem dX10_putRecord_342 : decode cX10_putRecord 342 = .ok (.invokevirtual 394, 3) := by decide +kernel
theorem dX10_putRecord_345 : decode cX10_putRecord 345 = .ok (.aload_n 0, 1) := by decide +kernel
theorem dX10_putRecord_346 : decode cX10_putRecord 346 = .ok (.aload_n 0, 1) := by decide +kernel
theorem dX10_putRecord_347 : decode cX10_putRecord 347 = .ok (.getfield 100, 3) := by decide +kernel
theorem dX10_putRecord_350 : decode cX10_putRecord 350 = .ok (.bipush 6, 2) := by decide +kernel
theorem dX10_putRecord_352 : decode cX10_putRecord 352 = .ok (.iload_n 2, 1) := by decide +kernel
theorem dX10_putRecord_353 : decode cX10_putRecord 353 = .ok (.imul, 1) := by decide +kernel
theorem dX10_putRecord_354 : decode cX10_putRecord 354 = .ok (.iconst 2, 1) := by decide +kernel
theorem dX10_putRecord_355 : decode cX10_putRecord 355 = .ok (.iload_n 3, 1) := by decide +kernel
theorem dX10_putRecord_356 : decode cX10_putRecord 356 = .ok (.imul, 1) := by decide +kernel
theorem dX10_putRecord_357 : decode cX10_putRecord 357 = .ok (.iadd, 1) := by decide +kernel
theorem dX10_putRecord_358 : decode cX10_putRecord 358 = .ok (.iconst 1, 1) := by decide +kernel
theorem dX10_putRecord_359 : decode cX10_putRecord 359 = .ok (.iadd, 1) := by decide +kernel
theorem dX10_putRecord_360 : decode cX10_putRecord 360 = .ok (.iaload, 1) := by decide +kernel
theorem dX10_putRecord_361 : decode cX10_putRecord 361 = .ok (.invokevirtual 406, 3) := by decide +kernel
theorem dX10_putRecord_364 : decode cX10_putRecord 364 = .ok (.iinc 3 1, 3) := by decide +kernel
theorem dX10_putRecord_367 : decode cX10_putRecord 367 = .ok (.goto (-93), 3) := by decide +kernel
theorem dX10_putRecord_370 : decode cX10_putRecord 370 = .ok (.aload_n 0, 1) := by decide +kernel
theorem dX10_putRecord_371 : decode cX10_putRecord 371 = .ok (.bipush 10, 2) := by decide +kernel
theorem dX10_putRecord_373 : decode cX10_putRecord 373 = .ok (.invokevirtual 394, 3) := by decide +kernel
theorem dX10_putRecord_376 : decode cX10_putRecord 376 = .ok (.return_, 1) := by decide +kernel
theorem dX10_write_0 : decode cX10_write 0 = .ok (.aload_n 0, 1) := by decide +kernel
theorem dX10_write_1 : decode cX10_write 1 = .ok (.iload_n 1, 1) := by decide +kernel
theorem dX10_write_2 : decode cX10_write 2 = .ok (.iconst 0, 1) := by decide +kernel
theorem dX10_write_3 : decode cX10_write 3 = .ok (.iconst 1, 1) := by decide +kernel
theorem dX10_write_4 : decode cX10_write 4 = .ok (.invokestatic 136, 3) := by decide +kernel
theorem dX10_write_7 : decode cX10_write 7 = .ok (.invokevirtual 143, 3) := by decide +kernel
theorem dX10_write_10 : decode cX10_write 10 = .ok (.ifCond .ne 5, 3) := by decide +kernel
theorem dX10_write_13 : decode cX10_write 13 = .ok (.iconst 0, 1) := by decide +kernel
theorem dX10_write_14 : decode cX10_write 14 = .ok (.ireturn, 1) := by decide +kernel
theorem dX10_write_15 : decode cX10_write 15 = .ok (.aload_n 0, 1) := by decide +kernel
theorem dX10_write_16 : decode cX10_write 16 = .ok (.iconst 0, 1) := by decide +kernel
theorem dX10_write_17 : decode cX10_write 17 = .ok (.putfield 391, 3) := by decide +kernel
theorem dX10_write_20 : decode cX10_write 20 = .ok (.aload_n 0, 1) := by decide +kernel
theorem dX10_write_21 : decode cX10_write 21 = .ok (.iconst 0, 1) := by decide +kernel
theorem dX10_write_22 : decode cX10_write 22 = .ok (.invokevirtual 403, 3) := by decide +kernel
theorem dX10_write_25 : decode cX10_write 25 = .ok (.aload_n 0, 1) := by decide +kernel
theorem dX10_write_26 : decode cX10_write 26 = .ok (.bipush 10, 2) := by decide +kernel
theorem dX10_write_28 : decode cX10_write 28 = .ok (.invokevirtual 394, 3) := by decide +kernel
theorem dX10_write_31 : decode cX10_write 31 = .ok (.aload_n 0, 1) := by decide +kernel
theorem dX10_write_32 : decode cX10_write 32 = .ok (.iconst 1, 1) := by decide +kernel
theorem dX10_write_33 : decode cX10_write 33 = .ok (.invokevirtual 403, 3) := by decide +kernel
theorem dX10_write_36 : decode cX10_write 36 = .ok (.aload_n 0, 1) := by decide +kernel
theorem dX10_write_37 : decode cX10_write 37 = .ok (.getfield 63, 3) := by decide +kernel
theorem dX10_write_40 : decode cX10_write 40 = .ok (.iload_n 1, 1) := by decide +kernel
theorem dX10_write_41 : decode cX10_write 41 = .ok (.iaload, 1) := by decide +kernel
theorem dX10_write_42 : decode cX10_write 42 = .ok (.ifCond .le 14, 3) := by decide +kernel
theorem dX10_write_45 : decode cX10_write 45 = .ok (.aload_n 0, 1) := by decide +kernel
theorem dX10_write_46 : decode cX10_write 46 = .ok (.bipush 9, 2) := by decide +kernel
theorem dX10_write_48 : decode cX10_write 48 = .ok (.invokevirtual 394, 3) := by decide +kernel
theorem dX10_write_51 : decode cX10_write 51 = .ok (.aload_n 0, 1) := by decide +kernel
theorem dX10_write_52 : decode cX10_write 52 = .ok (.iconst 2, 1) := by decide +kernel
theorem dX10_write_53 : decode cX10_write 53 = .ok (.invokevirtual 403, 3) := by decide +kernel
theorem dX10_write_56 : decode cX10_write 56 = .ok (.iconst 0, 1) := by decide +kernel
theorem dX10_write_57 : decode cX10_write 57 = .ok (.istore_n 2, 1) := by decide +kernel
theorem dX10_write_58 : decode cX10_write 58 = .ok (.iload_n 2, 1) := by decide +kernel
theorem dX10_write_59 : decode cX10_write 59 = .ok (.aload_n 0, 1) := by decide +kernel
theorem dX10_write_60 : decode cX10_write 60 = .ok (.getfield 63, 3) := by decide +kernel
theorem dX10_write_63 : decode cX10_write 63 = .ok (.iload_n 1, 1) := by decide +kernel
theorem dX10_write_64 : decode cX10_write 64 = .ok (.iaload, 1) := by decide +kernel
theorem dX10_write_65 : decode cX10_write 65 = .ok (.if_icmp .ge 56, 3) := by decide +kernel
theorem dX10_write_68 : decode cX10_write 68 = .ok (.aload_n 0, 1) := by decide +kernel
theorem dX10_write_69 : decode cX10_write 69 = .ok (.bipush 9, 2) := by decide +kernel
theorem dX10_write_71 : decode cX10_write 71 = .ok (.invokevirtual 394, 3) := by decide +kernel
theorem dX10_write_74 : decode cX10_write 74 = .ok (.iconst 0, 1) := by decide +kernel
theorem dX10_write_75 : decode cX10_write 75 = .ok (.istore_n 3, 1) := by decide +kernel
theorem dX10_write_76 : decode cX10_write 76 = .ok (.iload_n 3, 1) := by decide +kernel
theorem dX10_write_77 : decode cX10_write 77 = .ok (.aload_n 0, 1) := by decide +kernel
theorem dX10_write_78 : decode cX10_write 78 = .ok (.getfield 69, 3) := by decide +kernel
theorem dX10_write_81 : decode cX10_write 81 = .ok (.iconst 3, 1) := by decide +kernel
theorem dX10_write_82 : decode cX10_write 82 = .ok (.iload_n 1, 1) := by decide +kernel
theorem dX10_write_83 : decode cX10_write 83 = .ok (.imul, 1) := by decide +kernel
theorem dX10_write_84 : decode cX10_write 84 = .ok (.iload_n 2, 1) := by decide +kernel
theorem dX10_write_85 : decode cX10_write 85 = .ok (.iadd, 1) := by decide +kernel
theorem dX10_write_86 : decode cX10_write 86 = .ok (.iaload, 1) := by decide +kernel
theorem dX10_write_87 : decode cX10_write 87 = .ok (.if_icmp .ge 28, 3) := by decide +kernel
theorem dX10_write_90 : decode cX10_write 90 = .ok (.aload_n 0, 1) := by decide +kernel
theorem dX10_write_91 : decode cX10_write 91 = .ok (.aload_n 0, 1) := by decide +kernel
theorem dX10_write_92 : decode cX10_write 92 = .ok (.getfield 66, 3) := by decide +kernel
theorem dX10_write_95 : decode cX10_write 95 = .ok (.bipush 20, 2) := by decide +kernel
theorem dX10_write_97 : decode cX10_write 97 = .ok (.iconst 3, 1) := by decide +kernel
theorem dX10_write_98 : decode cX10_write 98 = .ok (.iload_n 1, 1) := by decide +kernel
theorem dX10_write_99 : decode cX10_write 99 = .ok (.imul, 1) := by decide +kernel
theorem dX10_write_100 : decode cX10_write 100 = .ok (.iload_n 2, 1) := by decide +kernel
theorem dX10_write_101 : decode cX10_write 101 = .ok (.iadd, 1) := by decide +kernel
theorem dX10_write_102 : decode cX10_write 102 = .ok (.imul, 1) := by decide +kernel
theorem dX10_write_103 : decode cX10_write 103 = .ok (.iload_n 3, 1) := by decide +kernel
theorem dX10_write_104 : decode cX10_write 104 = .ok (.iadd, 1) := by decide +kernel
theorem dX10_write_105 : decode cX10_write 105 = .ok (.baload, 1) := by decide +kernel
theorem dX10_write_106 : decode cX10_write 106 = .ok (.invokevirtual 394, 3) := by decide +kernel
theorem dX10_write_109 : decode cX10_write 109 = .ok (.iinc 3 1, 3) := by decide +kernel
theorem dX10_write_112 : decode cX10_write 112 = .ok (.goto (-36), 3) := by decide +kernel
theorem dX10_write_115 : decode cX10_write 115 = .ok (.iinc 2 1, 3) := by decide +kernel
theorem dX10_write_118 : decode cX10_write 118 = .ok (.goto (-60), 3) := by decide +kernel
theorem dX10_write_121 : decode cX10_write 121 = .ok (.aload_n 0, 1) := by decide +kernel
theorem dX10_write_122 : decode cX10_write 122 = .ok (.bipush 10, 2) := by decide +kernel
theorem dX10_write_124 : decode cX10_write 124 = .ok (.invokevirtual 394, 3) := by decide +kernel
theorem dX10_write_127 : decode cX10_write 127 = .ok (.iconst 0, 1) := by decide +kernel
theorem dX10_write_128 : decode cX10_write 128 = .ok (.istore_n 2, 1) := by decide +kernel
theorem dX10_write_129 : decode cX10_write 129 = .ok (.iload_n 2, 1) := by decide +kernel
theorem dX10_write_130 : decode cX10_write 130 = .ok (.aload_n 0, 1) := by decide +kernel
theorem dX10_write_131 : decode cX10_write 131 = .ok (.getfield 60, 3) := by decide +kernel
theorem dX10_write_134 : decode cX10_write 134 = .ok (.iload_n 1, 1) := by decide +kernel
theorem dX10_write_135 : decode cX10_write 135 = .ok (.iaload, 1) := by decide +kernel
theorem dX10_write_136 : decode cX10_write 136 = .ok (.if_icmp .ge 20, 3) := by decide +kernel
theorem dX10_write_139 : decode cX10_write 139 = .ok (.aload_n 0, 1) := by decide +kernel
theorem dX10_write_140 : decode cX10_write 140 = .ok (.iload_n 1, 1) := by decide +kernel
theorem dX10_write_141 : decode cX10_write 141 = .ok (.bipush 60, 2) := by decide +kernel
theorem dX10_write_143 : decode cX10_write 143 = .ok (.iload_n 1, 1) := by decide +kernel
theorem dX10_write_144 : decode cX10_write 144 = .ok (.imul, 1) := by decide +kernel
theorem dX10_write_145 : decode cX10_write 145 = .ok (.iload_n 2, 1) := by decide +kernel
theorem dX10_write_146 : decode cX10_write 146 = .ok (.iadd, 1) := by decide +kernel
theorem dX10_write_147 : decode cX10_write 147 = .ok (.invokevirtual 409, 3) := by decide +kernel
theorem dX10_write_150 : decode cX10_write 150 = .ok (.iinc 2 1, 3) := by decide +kernel
theorem dX10_write_153 : decode cX10_write 153 = .ok (.goto (-24), 3) := by decide +kernel
theorem dX10_write_156 : decode cX10_write 156 = .ok (.aload_n 0, 1) := by decide +kernel
theorem dX10_write_157 : decode cX10_write 157 = .ok (.getfield 391, 3) := by decide +kernel
theorem dX10_write_160 : decode cX10_write 160 = .ok (.sipush 8000, 3) := by decide +kernel
theorem dX10_write_163 : decode cX10_write 163 = .ok (.if_icmp .le 5, 3) := by decide +kernel
theorem dX10_write_166 : decode cX10_write 166 = .ok (.iconst (-1), 1) := by decide +kernel
theorem dX10_write_167 : decode cX10_write 167 = .ok (.ireturn, 1) := by decide +kernel
theorem dX10_write_168 : decode cX10_write 168 = .ok (.aload_n 0, 1) := by decide +kernel
theorem dX10_write_169 : decode cX10_write 169 = .ok (.aload_n 0, 1) := by decide +kernel
theorem dX10_write_170 : decode cX10_write 170 = .ok (.getfield 391, 3) := by decide +kernel
theorem dX10_write_173 : decode cX10_write 173 = .ok (.putfield 382, 3) := by decide +kernel
theorem dX10_write_176 : decode cX10_write 176 = .ok (.iconst 0, 1) := by decide +kernel
theorem dX10_write_177 : decode cX10_write 177 = .ok (.istore_n 2, 1) := by decide +kernel
theorem dX10_write_178 : decode cX10_write 178 = .ok (.iload_n 2, 1) := by decide +kernel
theorem dX10_write_179 : decode cX10_write 179 = .ok (.aload_n 0, 1) := by decide +kernel
theorem dX10_write_180 : decode cX10_write 180 = .ok (.getfield 391, 3) := by decide +kernel
theorem dX10_write_183 : decode cX10_write 183 = .ok (.if_icmp .ge 21, 3) := by decide +kernel
theorem dX10_write_186 : decode cX10_write 186 = .ok (.aload_n 0, 1) := by decide +kernel
theorem dX10_write_187 : decode cX10_write 187 = .ok (.getfield 109, 3) := by decide +kernel
theorem dX10_write_190 : decode cX10_write 190 = .ok (.iload_n 2, 1) := by decide +kernel
theorem dX10_write_191 : decode cX10_write 191 = .ok (.aload_n 0, 1) := by decide +kernel
theorem dX10_write_192 : decode cX10_write 192 = .ok (.getfield 127, 3) := by decide +kernel
theorem dX10_write_195 : decode cX10_write 195 = .ok (.iload_n 2, 1) := by decide +kernel
theorem dX10_write_196 : decode cX10_write 196 = .ok (.baload, 1) := by decide +kernel
theorem dX10_write_197 : decode cX10_write 197 = .ok (.bastore, 1) := by decide +kernel
theorem dX10_write_198 : decode cX10_write 198 = .ok (.iinc 2 1, 3) := by decide +kernel
theorem dX10_write_201 : decode cX10_write 201 = .ok (.goto (-23), 3) := by decide +kernel
theorem dX10_write_204 : decode cX10_write 204 = .ok (.aload_n 0, 1) := by decide +kernel
theorem dX10_write_205 : decode cX10_write 205 = .ok (.getfield 391, 3) := by decide +kernel
theorem dX10_write_208 : decode cX10_write 208 = .ok (.ireturn, 1) := by decide +kernel
theorem dX10_out_0 : decode cX10_out 0 = .ok (.aload_n 0, 1) := by decide +kernel
theorem dX10_out_1 : decode cX10_out 1 = .ok (.iconst 0, 1) := by decide +kernel
theorem dX10_out_2 : decode cX10_out 2 = .ok (.putfield 133, 3) := by decide +kernel
theorem dX10_out_5 : decode cX10_out 5 = .ok (.iload_n 1, 1) := by decide +kernel
theorem dX10_out_6 : decode cX10_out 6 = .ok (.iconst 0, 1) := by decide +kernel
theorem dX10_out_7 : decode cX10_out 7 = .ok (.aload_n 0, 1) := by decide +kernel
theorem dX10_out_8 : decode cX10_out 8 = .ok (.getfield 382, 3) := by decide +kernel
theorem dX10_out_11 : decode cX10_out 11 = .ok (.iconst 1, 1) := by decide +kernel
theorem dX10_out_12 : decode cX10_out 12 = .ok (.isub, 1) := by decide +kernel
theorem dX10_out_13 : decode cX10_out 13 = .ok (.invokestatic 136, 3) := by decide +kernel
theorem dX10_out_16 : decode cX10_out 16 = .ok (.ifCond .eq 16, 3) := by decide +kernel
theorem dX10_out_19 : decode cX10_out 19 = .ok (.aload_n 0, 1) := by decide +kernel
theorem dX10_out_20 : decode cX10_out 20 = .ok (.getfield 109, 3) := by decide +kernel
theorem dX10_out_23 : decode cX10_out 23 = .ok (.iload_n 1, 1) := by decide +kernel
theorem dX10_out_24 : decode cX10_out 24 = .ok (.baload, 1) := by decide +kernel
theorem dX10_out_25 : decode cX10_out 25 = .ok (.sipush 255, 3) := by decide +kernel
theorem dX10_out_28 : decode cX10_out 28 = .ok (.iand, 1) := by decide +kernel
theorem dX10_out_29 : decode cX10_out 29 = .ok (.goto 4, 3) := by decide +kernel
theorem dX10_out_32 : decode cX10_out 32 = .ok (.iconst (-1), 1) := by decide +kernel
theorem dX10_out_33 : decode cX10_out 33 = .ok (.ireturn, 1) := by decide +kernel
theorem dX10_again_0 : decode cX10_again 0 = .ok (.aload_n 0, 1) := by decide +kernel
theorem dX10_again_1 : decode cX10_again 1 = .ok (.iconst 0, 1) := by decide +kernel
theorem dX10_again_2 : decode cX10_again 2 = .ok (.putfield 133, 3) := by decide +kernel
theorem dX10_again_5 : decode cX10_again 5 = .ok (.aload_n 0, 1) := by decide +kernel
theorem dX10_again_6 : decode cX10_again 6 = .ok (.aload_n 0, 1) := by decide +kernel
theorem dX10_again_7 : decode cX10_again 7 = .ok (.getfield 382, 3) := by decide +kernel
theorem dX10_again_10 : decode cX10_again 10 = .ok (.putfield 140, 3) := by decide +kernel
theorem dX10_again_13 : decode cX10_again 13 = .ok (.iconst 0, 1) := by decide +kernel
theorem dX10_again_14 : decode cX10_again 14 = .ok (.istore_n 1, 1) := by decide +kernel
theorem dX10_again_15 : decode cX10_again 15 = .ok (.iload_n 1, 1) := by decide +kernel
theorem dX10_again_16 : decode cX10_again 16 = .ok (.aload_n 0, 1) := by decide +kernel
theorem dX10_again_17 : decode cX10_again 17 = .ok (.getfield 382, 3) := by decide +kernel
theorem dX10_again_20 : decode cX10_again 20 = .ok (.if_icmp .ge 21, 3) := by decide +kernel
theorem dX10_again_23 : decode cX10_again 23 = .ok (.aload_n 0, 1) := by decide +kernel
theorem dX10_again_24 : decode cX10_again 24 = .ok (.getfield 7, 3) := by decide +kernel
theorem dX10_again_27 : decode cX10_again 27 = .ok (.iload_n 1, 1) := by decide +kernel
theorem dX10_again_28 : decode cX10_again 28 = .ok (.aload_n 0, 1) := by decide +kernel
theorem dX10_again_29 : decode cX10_again 29 = .ok (.getfield 109, 3) := by decide +kernel
theorem dX10_again_32 : decode cX10_again 32 = .ok (.iload_n 1, 1) := by decide +kernel
theorem dX10_again_33 : decode cX10_again 33 = .ok (.baload, 1) := by decide +kernel
theorem dX10_again_34 : decode cX10_again 34 = .ok (.bastore, 1) := by decide +kernel
theorem dX10_again_35 : decode cX10_again 35 = .ok (.iinc 1 1, 3) := by decide +kernel
theorem dX10_again_38 : decode cX10_again 38 = .ok (.goto (-23), 3) := by decide +kernel
theorem dX10_again_41 : decode cX10_again 41 = .ok (.aload_n 0, 1) := by decide +kernel
theorem dX10_again_42 : decode cX10_again 42 = .ok (.getfield 140, 3) := by decide +kernel
theorem dX10_again_45 : decode cX10_again 45 = .ok (.ireturn, 1) := by decide +kernel
theorem dJ9_max_7cf53_0 : decode cJ9_max_7cf53 0 = .ok (.iload_n 0, 1) := by decide +kernel
theorem dJ9_max_7cf53_1 : decode cJ9_max_7cf53 1 = .ok (.iload_n 1, 1) := by decide +kernel
theorem dJ9_max_7cf53_2 : decode cJ9_max_7cf53 2 = .ok (.if_icmp .lt 7, 3) := by decide +kernel
theorem dJ9_max_7cf53_5 : decode cJ9_max_7cf53 5 = .ok (.iload_n 0, 1) := by decide +kernel
theorem dJ9_max_7cf53_6 : decode cJ9_max_7cf53 6 = .ok (.goto 4, 3) := by decide +kernel
theorem dJ9_max_7cf53_9 : decode cJ9_max_7cf53 9 = .ok (.iload_n 1, 1) := by decide +kernel
theorem dJ9_max_7cf53_10 : decode cJ9_max_7cf53 10 = .ok (.ireturn, 1) := by decide +kernel
theorem dJ9_min_7cf53_0 : decode cJ9_min_7cf53 0 = .ok (.iload_n 0, 1) := by decide +kernel
theorem dJ9_min_7cf53_1 : decode cJ9_min_7cf53 1 = .ok (.iload_n 1, 1) := by decide +kernel
theorem dJ9_min_7cf53_2 : decode cJ9_min_7cf53 2 = .ok (.if_icmp .gt 7, 3) := by decide +kernel
theorem dJ9_min_7cf53_5 : decode cJ9_min_7cf53 5 = .ok (.iload_n 0, 1) := by decide +kernel
theorem dJ9_min_7cf53_6 : decode cJ9_min_7cf53 6 = .ok (.goto 4, 3) := by decide +kernel
theorem dJ9_min_7cf53_9 : decode cJ9_min_7cf53 9 = .ok (.iload_n 1, 1) := by decide +kernel
theorem dJ9_min_7cf53_10 : decode cJ9_min_7cf53 10 = .ok (.ireturn, 1) := by decide +kernel
theorem dJ0_length_8abf5_0 : decode cJ0_length_8abf5 0 = .ok (.aload_n 0, 1) := by decide +kernel
theorem dJ0_length_8abf5_1 : decode cJ0_length_8abf5 1 = .ok (.getfield 9, 3) := by decide +kernel
theorem dJ0_length_8abf5_4 : decode cJ0_length_8abf5 4 = .ok (.arraylength, 1) := by decide +kernel
theorem dJ0_length_8abf5_5 : decode cJ0_length_8abf5 5 = .ok (.aload_n 0, 1) := by decide +kernel
theorem dJ0_length_8abf5_6 : decode cJ0_length_8abf5 6 = .ok (.invokevirtual 335, 3) := by decide +kernel
theorem dJ0_length_8abf5_9 : decode cJ0_length_8abf5 9 = .ok (.ishr, 1) := by decide +kernel
theorem dJ0_length_8abf5_10 : decode cJ0_length_8abf5 10 = .ok (.ireturn, 1) := by decide +kernel
theorem dJ0_charAt_5068e_0 : decode cJ0_charAt_5068e 0 = .ok (.aload_n 0, 1) := by decide +kernel
theorem dJ0_charAt_5068e_1 : decode cJ0_charAt_5068e 1 = .ok (.invokevirtual 492, 3) := by decide +kernel
theorem dJ0_charAt_5068e_4 : decode cJ0_charAt_5068e 4 = .ok (.ifCond .eq 12, 3) := by decide +kernel
theorem dJ0_charAt_5068e_7 : decode cJ0_charAt_5068e 7 = .ok (.aload_n 0, 1) := by decide +kernel
theorem dJ0_charAt_5068e_8 : decode cJ0_charAt_5068e 8 = .ok (.getfield 9, 3) := by decide +kernel
theorem dJ0_charAt_5068e_11 : decode cJ0_charAt_5068e 11 = .ok (.iload_n 1, 1) := by decide +kernel
theorem dJ0_charAt_5068e_12 : decode cJ0_charAt_5068e 12 = .ok (.invokestatic 495, 3) := by decide +kernel
theorem dJ0_charAt_5068e_15 : decode cJ0_charAt_5068e 15 = .ok (.ireturn, 1) := by decide +kernel
theorem dJ0_charAt_5068e_16 : decode cJ0_charAt_5068e 16 = .ok (.aload_n 0, 1) := by decide +kernel
theorem dJ0_charAt_5068e_17 : decode cJ0_charAt_5068e 17 = .ok (.getfield 9, 3) := by decide +kernel
theorem dJ0_charAt_5068e_20 : decode cJ0_charAt_5068e 20 = .ok (.iload_n 1, 1) := by decide +kernel
theorem dJ0_charAt_5068e_21 : decode cJ0_charAt_5068e 21 = .ok (.invokestatic 498, 3) := by decide +kernel
theorem dJ0_charAt_5068e_24 : decode cJ0_charAt_5068e 24 = .ok (.ireturn, 1) := by decide +kernel
theorem dJ0_coder_7d493_0 : decode cJ0_coder_7d493 0 = .ok (.getstatic 38, 3) := by decide +kernel
theorem dJ0_coder_7d493_3 : decode cJ0_coder_7d493 3 = .ok (.ifCond .eq 10, 3) := by decide +kernel
theorem dJ0_coder_7d493_6 : decode cJ0_coder_7d493 6 = .ok (.aload_n 0, 1) := by decide +kernel
theorem dJ0_coder_7d493_7 : decode cJ0_coder_7d493 7 = .ok (.getfield 15, 3) := by decide +kernel
theorem dJ0_coder_7d493_10 : decode cJ0_coder_7d493 10 = .ok (.goto 4, 3) := by decide +kernel
theorem dJ0_coder_7d493_13 : decode cJ0_coder_7d493 13 = .ok (.iconst 1, 1) := by decide +kernel
theorem dJ0_coder_7d493_14 : decode cJ0_coder_7d493 14 = .ok (.ireturn, 1) := by decide +kernel
theorem dJ0_isLatin1_aae02_0 : decode cJ0_isLatin1_aae02 0 = .ok (.getstatic 38, 3) := by decide +kernel
theorem dJ0_isLatin1_aae02_3 : decode cJ0_isLatin1_aae02 3 = .ok (.ifCond .eq 14, 3) := by decide +kernel
theorem dJ0_isLatin1_aae02_6 : decode cJ0_isLatin1_aae02 6 = .ok (.aload_n 0, 1) := by decide +kernel
theorem dJ0_isLatin1_aae02_7 : decode cJ0_isLatin1_aae02 7 = .ok (.getfield 15, 3) := by decide +kernel
theorem dJ0_isLatin1_aae02_10 : decode cJ0_isLatin1_aae02 10 = .ok (.ifCond .ne 7, 3) := by decide +kernel
theorem dJ0_isLatin1_aae02_13 : decode cJ0_isLatin1_aae02 13 = .ok (.iconst 1, 1) := by decide +kernel
theorem dJ0_isLatin1_aae02_14 : decode cJ0_isLatin1_aae02 14 = .ok (.goto 4, 3) := by decide +kernel
theorem dJ0_isLatin1_aae02_17 : decode cJ0_isLatin1_aae02 17 = .ok (.iconst 0, 1) := by decide +kernel
theorem dJ0_isLatin1_aae02_18 : decode cJ0_isLatin1_aae02 18 = .ok (.ireturn, 1) := by decide +kernel
theorem dJ0_checkIndex_df160_0 : decode cJ0_checkIndex_df160 0 = .ok (.iload_n 0, 1) := by decide +kernel
theorem dJ0_checkIndex_df160_1 : decode cJ0_checkIndex_df160 1 = .ok (.iload_n 1, 1) := by decide +kernel
theorem dJ0_checkIndex_df160_2 : decode cJ0_checkIndex_df160 2 = .ok (.getstatic 1053, 3) := by decide +kernel
theorem dJ0_checkIndex_df160_5 : decode cJ0_checkIndex_df160 5 = .ok (.invokestatic 1059, 3) := by decide +kernel
theorem dJ0_checkIndex_df160_8 : decode cJ0_checkIndex_df160 8 = .ok (.pop, 1) := by decide +kernel
theorem dJ0_checkIndex_df160_9 : decode cJ0_checkIndex_df160 9 = .ok (.return_, 1) := by decide +kernel
theorem dJ1_charAt_3b067_0 : decode cJ1_charAt_3b067 0 = .ok (.iload_n 1, 1) := by decide +kernel
theorem dJ1_charAt_3b067_1 : decode cJ1_charAt_3b067 1 = .ok (.aload_n 0, 1) := by decide +kernel
theorem dJ1_charAt_3b067_2 : decode cJ1_charAt_3b067 2 = .ok (.arraylength, 1) := by decide +kernel
theorem dJ1_charAt_3b067_3 : decode cJ1_charAt_3b067 3 = .ok (.invokestatic 9, 3) := by decide +kernel
theorem dJ1_charAt_3b067_6 : decode cJ1_charAt_3b067 6 = .ok (.aload_n 0, 1) := by decide +kernel
theorem dJ1_charAt_3b067_7 : decode cJ1_charAt_3b067 7 = .ok (.iload_n 1, 1) := by decide +kernel
theorem dJ1_charAt_3b067_8 : decode cJ1_charAt_3b067 8 = .ok (.baload, 1) := by decide +kernel
theorem dJ1_charAt_3b067_9 : decode cJ1_charAt_3b067 9 = .ok (.sipush 255, 3) := by decide +kernel
theorem dJ1_charAt_3b067_12 : decode cJ1_charAt_3b067 12 = .ok (.iand, 1) := by decide +kernel
theorem dJ1_charAt_3b067_13 : decode cJ1_charAt_3b067 13 = .ok (.i2c, 1) := by decide +kernel
theorem dJ1_charAt_3b067_14 : decode cJ1_charAt_3b067 14 = .ok (.ireturn, 1) := by decide +kernel
theorem dJ2_getChar_3b067_0 : decode cJ2_getChar_3b067 0 = .ok (.getstatic 44, 3) := by decide +kernel
theorem dJ2_getChar_3b067_3 : decode cJ2_getChar_3b067 3 = .ok (.ifCond .ne 25, 3) := by decide +kernel
theorem dJ2_getChar_3b067_6 : decode cJ2_getChar_3b067 6 = .ok (.iload_n 1, 1) := by decide +kernel
theorem dJ2_getChar_3b067_7 : decode cJ2_getChar_3b067 7 = .ok (.ifCond .lt 11, 3) := by decide +kernel
theorem dJ2_getChar_3b067_10 : decode cJ2_getChar_3b067 10 = .ok (.iload_n 1, 1) := by decide +kernel
theorem dJ2_getChar_3b067_11 : decode cJ2_getChar_3b067 11 = .ok (.aload_n 0, 1) := by decide +kernel
theorem dJ2_getChar_3b067_12 : decode cJ2_getChar_3b067 12 = .ok (.invokestatic 48, 3) := by decide +kernel
theorem dJ2_getChar_3b067_15 : decode cJ2_getChar_3b067 15 = .ok (.if_icmp .lt 13, 3) := by decide +kernel
theorem dJ2_getChar_3b067_18 : decode cJ2_getChar_3b067 18 = .ok (.new 52, 3) := by decide +kernel
theorem dJ2_getChar_3b067_21 : decode cJ2_getChar_3b067 21 = .ok (.dup, 1) := by decide +kernel
theorem dJ2_getChar_3b067_22 : decode cJ2_getChar_3b067 22 = .ok (.ldc 54, 2) := by decide +kernel
theorem dJ2_getChar_3b067_24 : decode cJ2_getChar_3b067 24 = .ok (.invokespecial 56, 3) := by decide +kernel
theorem dJ2_getChar_3b067_27 : decode cJ2_getChar_3b067 27 = .ok (.athrow, 1) := by decide +kernel
theorem dJ2_getChar_3b067_28 : decode cJ2_getChar_3b067 28 = .ok (.iload_n 1, 1) := by decide +kernel
theorem dJ2_getChar_3b067_29 : decode cJ2_getChar_3b067 29 = .ok (.iconst 1, 1) := by decide +kernel
theorem dJ2_getChar_3b067_30 : decode cJ2_getChar_3b067 30 = .ok (.ishl, 1) := by decide +kernel
theorem dJ2_getChar_3b067_31 : decode cJ2_getChar_3b067 31 = .ok (.istore_n 1, 1) := by decide +kernel
theorem dJ2_getChar_3b067_32 : decode cJ2_getChar_3b067 32 = .ok (.aload_n 0, 1) := by decide +kernel
theorem dJ2_getChar_3b067_33 : decode cJ2_getChar_3b067 33 = .ok (.iload_n 1, 1) := by decide +kernel
theorem dJ2_getChar_3b067_34 : decode cJ2_getChar_3b067 34 = .ok (.iinc 1 1, 3) := by decide +kernel
theorem dJ2_getChar_3b067_37 : decode cJ2_getChar_3b067 37 = .ok (.baload, 1) := by decide +kernel
theorem dJ2_getChar_3b067_38 : decode cJ2_getChar_3b067 38 = .ok (.sipush 255, 3) := by decide +kernel
theorem dJ2_getChar_3b067_41 : decode cJ2_getChar_3b067 41 = .ok (.iand, 1) := by decide +kernel
theorem dJ2_getChar_3b067_42 : decode cJ2_getChar_3b067 42 = .ok (.getstatic 59, 3) := by decide +kernel
theorem dJ2_getChar_3b067_45 : decode cJ2_getChar_3b067 45 = .ok (.ishl, 1) := by decide +kernel
theorem dJ2_getChar_3b067_46 : decode cJ2_getChar_3b067 46 = .ok (.aload_n 0, 1) := by decide +kernel
theorem dJ2_getChar_3b067_47 : decode cJ2_getChar_3b067 47 = .ok (.iload_n 1, 1) := by decide +kernel
theorem dJ2_getChar_3b067_48 : decode cJ2_getChar_3b067 48 = .ok (.baload, 1) := by decide +kernel
theorem dJ2_getChar_3b067_49 : decode cJ2_getChar_3b067 49 = .ok (.sipush 255, 3) := by decide +kernel
theorem dJ2_getChar_3b067_52 : decode cJ2_getChar_3b067 52 = .ok (.iand, 1) := by decide +kernel
theorem dJ2_getChar_3b067_53 : decode cJ2_getChar_3b067 53 = .ok (.getstatic 63, 3) := by decide +kernel
theorem dJ2_getChar_3b067_56 : decode cJ2_getChar_3b067 56 = .ok (.ishl, 1) := by decide +kernel
theorem dJ2_getChar_3b067_57 : decode cJ2_getChar_3b067 57 = .ok (.ior, 1) := by decide +kernel
theorem dJ2_getChar_3b067_58 : decode cJ2_getChar_3b067 58 = .ok (.i2c, 1) := by decide +kernel
theorem dJ2_getChar_3b067_59 : decode cJ2_getChar_3b067 59 = .ok (.ireturn, 1) := by decide +kernel
theorem dJ2_length_9d52b_0 : decode cJ2_length_9d52b 0 = .ok (.aload_n 0, 1) := by decide +kernel
theorem dJ2_length_9d52b_1 : decode cJ2_length_9d52b 1 = .ok (.arraylength, 1) := by decide +kernel
theorem dJ2_length_9d52b_2 : decode cJ2_length_9d52b 2 = .ok (.iconst 1, 1) := by decide +kernel
theorem dJ2_length_9d52b_3 : decode cJ2_length_9d52b 3 = .ok (.ishr, 1) := by decide +kernel
theorem dJ2_length_9d52b_4 : decode cJ2_length_9d52b 4 = .ok (.ireturn, 1) := by decide +kernel
theorem dJ2_charAt_3b067_0 : decode cJ2_charAt_3b067 0 = .ok (.iload_n 1, 1) := by decide +kernel
theorem dJ2_charAt_3b067_1 : decode cJ2_charAt_3b067 1 = .ok (.aload_n 0, 1) := by decide +kernel
theorem dJ2_charAt_3b067_2 : decode cJ2_charAt_3b067 2 = .ok (.invokestatic 67, 3) := by decide +kernel
theorem dJ2_charAt_3b067_5 : decode cJ2_charAt_3b067 5 = .ok (.aload_n 0, 1) := by decide +kernel
theorem dJ2_charAt_3b067_6 : decode cJ2_charAt_3b067 6 = .ok (.iload_n 1, 1) := by decide +kernel
theorem dJ2_charAt_3b067_7 : decode cJ2_charAt_3b067 7 = .ok (.invokestatic 71, 3) := by decide +kernel
theorem dJ2_charAt_3b067_10 : decode cJ2_charAt_3b067 10 = .ok (.ireturn, 1) := by decide +kernel
theorem dJ2_checkIndex_2214a_0 : decode cJ2_checkIndex_2214a 0 = .ok (.iload_n 0, 1) := by decide +kernel
theorem dJ2_checkIndex_2214a_1 : decode cJ2_checkIndex_2214a 1 = .ok (.aload_n 1, 1) := by decide +kernel
theorem dJ2_checkIndex_2214a_2 : decode cJ2_checkIndex_2214a 2 = .ok (.invokestatic 48, 3) := by decide +kernel
theorem dJ2_checkIndex_2214a_5 : decode cJ2_checkIndex_2214a 5 = .ok (.invokestatic 414, 3) := by decide +kernel
theorem dJ2_checkIndex_2214a_8 : decode cJ2_checkIndex_2214a 8 = .ok (.return_, 1) := by decide +kernel
theorem dJ3_checkIndex_8e157_0 : decode cJ3_checkIndex_8e157 0 = .ok (.iload_n 0, 1) := by decide +kernel
theorem dJ3_checkIndex_8e157_1 : decode cJ3_checkIndex_8e157 1 = .ok (.ifCond .lt 8, 3) := by decide +kernel
theorem dJ3_checkIndex_8e157_4 : decode cJ3_checkIndex_8e157 4 = .ok (.iload_n 0, 1) := by decide +kernel
theorem dJ3_checkIndex_8e157_5 : decode cJ3_checkIndex_8e157 5 = .ok (.iload_n 1, 1) := by decide +kernel
theorem dJ3_checkIndex_8e157_6 : decode cJ3_checkIndex_8e157 6 = .ok (.if_icmp .lt 10, 3) := by decide +kernel
theorem dJ3_checkIndex_8e157_9 : decode cJ3_checkIndex_8e157 9 = .ok (.aload_n 2, 1) := by decide +kernel
theorem dJ3_checkIndex_8e157_10 : decode cJ3_checkIndex_8e157 10 = .ok (.iload_n 0, 1) := by decide +kernel
theorem dJ3_checkIndex_8e157_11 : decode cJ3_checkIndex_8e157 11 = .ok (.iload_n 1, 1) := by decide +kernel
theorem dJ3_checkIndex_8e157_12 : decode cJ3_checkIndex_8e157 12 = .ok (.invokestatic 95, 3) := by decide +kernel
theorem dJ3_checkIndex_8e157_15 : decode cJ3_checkIndex_8e157 15 = .ok (.athrow, 1) := by decide +kernel
theorem dJ3_checkIndex_8e157_16 : decode cJ3_checkIndex_8e157 16 = .ok (.iload_n 0, 1) := by decide +kernel
theorem dJ3_checkIndex_8e157_17 : decode cJ3_checkIndex_8e157 17 = .ok (.ireturn, 1) := by decide +kernel
theorem dL_feed_0 : decode cL_feed 0 = .ok (.aload 4, 2) := by decide +kernel
theorem dL_feed_2 : decode cL_feed 2 = .ok (.iconst 0, 1) := by decide +kernel
theorem dL_feed_3 : decode cL_feed 3 = .ok (.aload_n 0, 1) := by decide +kernel
theorem dL_feed_4 : decode cL_feed 4 = .ok (.iload_n 1, 1) := by decide +kernel
theorem dL_feed_5 : decode cL_feed 5 = .ok (.lload_n 2, 1) := by decide +kernel
theorem dL_feed_6 : decode cL_feed 6 = .ok (.invokevirtual 7, 3) := by decide +kernel
theorem dL_feed_9 : decode cL_feed 9 = .ok (.i2l, 1) := by decide +kernel
theorem dL_feed_10 : decode cL_feed 10 = .ok (.lastore, 1) := by decide +kernel
theorem dL_feed_11 : decode cL_feed 11 = .ok (.goto 7, 3) := by decide +kernel
theorem dL_feed_14 : decode cL_feed 14 = .ok (.astore 5, 2) := by decide +kernel
theorem dL_feed_16 : decode cL_feed 16 = .ok (.iconst 1, 1) := by decide +kernel
theorem dL_feed_17 : decode cL_feed 17 = .ok (.ireturn, 1) := by decide +kernel
theorem dL_feed_18 : decode cL_feed 18 = .ok (.iconst 0, 1) := by decide +kernel
theorem dL_feed_19 : decode cL_feed 19 = .ok (.ireturn, 1) := by decide +kernel
theorem dL_read_0 : decode cL_read 0 = .ok (.aload_n 2, 1) := by decide +kernel
theorem dL_read_1 : decode cL_read 1 = .ok (.iconst 0, 1) := by decide +kernel
theorem dL_read_2 : decode cL_read 2 = .ok (.aload_n 0, 1) := by decide +kernel
theorem dL_read_3 : decode cL_read 3 = .ok (.iload_n 1, 1) := by decide +kernel
theorem dL_read_4 : decode cL_read 4 = .ok (.invokevirtual 15, 3) := by decide +kernel
theorem dL_read_7 : decode cL_read 7 = .ok (.i2l, 1) := by decide +kernel
theorem dL_read_8 : decode cL_read 8 = .ok (.lastore, 1) := by decide +kernel
theorem dL_read_9 : decode cL_read 9 = .ok (.goto 6, 3) := by decide +kernel
theorem dL_read_12 : decode cL_read 12 = .ok (.astore_n 3, 1) := by decide +kernel
theorem dL_read_13 : decode cL_read 13 = .ok (.iconst 1, 1) := by decide +kernel
theorem dL_read_14 : decode cL_read 14 = .ok (.ireturn, 1) := by decide +kernel
theorem dL_read_15 : decode cL_read 15 = .ok (.iconst 0, 1) := by decide +kernel
theorem dL_read_16 : decode cL_read 16 = .ok (.ireturn, 1) := by decide +kernel
theorem dL_sequence_0 : decode cL_sequence 0 = .ok (.aload_n 3, 1) := by decide +kernel
theorem dL_sequence_1 : decode cL_sequence 1 = .ok (.iconst 0, 1) := by decide +kernel
theorem dL_sequence_2 : decode cL_sequence 2 = .ok (.aload_n 0, 1) := by decide +kernel
theorem dL_sequence_3 : decode cL_sequence 3 = .ok (.iload_n 1, 1) := by decide +kernel
theorem dL_sequence_4 : decode cL_sequence 4 = .ok (.iload_n 2, 1) := by decide +kernel
theorem dL_sequence_5 : decode cL_sequence 5 = .ok (.invokevirtual 21, 3) := by decide +kernel
theorem dL_sequence_8 : decode cL_sequence 8 = .ok (.i2l, 1) := by decide +kernel
theorem dL_sequence_9 : decode cL_sequence 9 = .ok (.lastore, 1) := by decide +kernel
theorem dL_sequence_10 : decode cL_sequence 10 = .ok (.goto 7, 3) := by decide +kernel
theorem dL_sequence_13 : decode cL_sequence 13 = .ok (.astore 4, 2) := by decide +kernel
theorem dL_sequence_15 : decode cL_sequence 15 = .ok (.iconst 1, 1) := by decide +kernel
theorem dL_sequence_16 : decode cL_sequence 16 = .ok (.ireturn, 1) := by decide +kernel
theorem dL_sequence_17 : decode cL_sequence 17 = .ok (.iconst 0, 1) := by decide +kernel
theorem dL_sequence_18 : decode cL_sequence 18 = .ok (.ireturn, 1) := by decide +kernel
theorem dL_letter_0 : decode cL_letter 0 = .ok (.aload_n 3, 1) := by decide +kernel
theorem dL_letter_1 : decode cL_letter 1 = .ok (.iconst 0, 1) := by decide +kernel
theorem dL_letter_2 : decode cL_letter 2 = .ok (.aload_n 0, 1) := by decide +kernel
theorem dL_letter_3 : decode cL_letter 3 = .ok (.iload_n 1, 1) := by decide +kernel
theorem dL_letter_4 : decode cL_letter 4 = .ok (.iload_n 2, 1) := by decide +kernel
theorem dL_letter_5 : decode cL_letter 5 = .ok (.invokevirtual 25, 3) := by decide +kernel
theorem dL_letter_8 : decode cL_letter 8 = .ok (.i2l, 1) := by decide +kernel
theorem dL_letter_9 : decode cL_letter 9 = .ok (.lastore, 1) := by decide +kernel
theorem dL_letter_10 : decode cL_letter 10 = .ok (.goto 7, 3) := by decide +kernel
theorem dL_letter_13 : decode cL_letter 13 = .ok (.astore 4, 2) := by decide +kernel
theorem dL_letter_15 : decode cL_letter 15 = .ok (.iconst 1, 1) := by decide +kernel
theorem dL_letter_16 : decode cL_letter 16 = .ok (.ireturn, 1) := by decide +kernel
theorem dL_letter_17 : decode cL_letter 17 = .ok (.iconst 0, 1) := by decide +kernel
theorem dL_letter_18 : decode cL_letter 18 = .ok (.ireturn, 1) := by decide +kernel
theorem dL_table_0 : decode cL_table 0 = .ok (.aload_n 3, 1) := by decide +kernel
theorem dL_table_1 : decode cL_table 1 = .ok (.iconst 0, 1) := by decide +kernel
theorem dL_table_2 : decode cL_table 2 = .ok (.aload_n 0, 1) := by decide +kernel
theorem dL_table_3 : decode cL_table 3 = .ok (.iload_n 1, 1) := by decide +kernel
theorem dL_table_4 : decode cL_table 4 = .ok (.iload_n 2, 1) := by decide +kernel
theorem dL_table_5 : decode cL_table 5 = .ok (.invokevirtual 28, 3) := by decide +kernel
theorem dL_table_8 : decode cL_table 8 = .ok (.i2l, 1) := by decide +kernel
theorem dL_table_9 : decode cL_table 9 = .ok (.lastore, 1) := by decide +kernel
theorem dL_table_10 : decode cL_table 10 = .ok (.goto 7, 3) := by decide +kernel
theorem dL_table_13 : decode cL_table 13 = .ok (.astore 4, 2) := by decide +kernel
theorem dL_table_15 : decode cL_table 15 = .ok (.iconst 1, 1) := by decide +kernel
theorem dL_table_16 : decode cL_table 16 = .ok (.ireturn, 1) := by decide +kernel
theorem dL_table_17 : decode cL_table 17 = .ok (.iconst 0, 1) := by decide +kernel
theorem dL_table_18 : decode cL_table 18 = .ok (.ireturn, 1) := by decide +kernel
theorem dL_record_0 : decode cL_record 0 = .ok (.aload 4, 2) := by decide +kernel
theorem dL_record_2 : decode cL_record 2 = .ok (.iconst 0, 1) := by decide +kernel
theorem dL_record_3 : decode cL_record 3 = .ok (.aload_n 0, 1) := by decide +kernel
theorem dL_record_4 : decode cL_record 4 = .ok (.iload_n 1, 1) := by decide +kernel
theorem dL_record_5 : decode cL_record 5 = .ok (.iload_n 2, 1) := by decide +kernel
theorem dL_record_6 : decode cL_record 6 = .ok (.iload_n 3, 1) := by decide +kernel
theorem dL_record_7 : decode cL_record 7 = .ok (.invokevirtual 31, 3) := by decide +kernel
theorem dL_record_10 : decode cL_record 10 = .ok (.i2l, 1) := by decide +kernel
theorem dL_record_11 : decode cL_record 11 = .ok (.lastore, 1) := by decide +kernel
theorem dL_record_12 : decode cL_record 12 = .ok (.goto 7, 3) := by decide +kernel
theorem dL_record_15 : decode cL_record 15 = .ok (.astore 5, 2) := by decide +kernel
theorem dL_record_17 : decode cL_record 17 = .ok (.iconst 1, 1) := by decide +kernel
theorem dL_record_18 : decode cL_record 18 = .ok (.ireturn, 1) := by decide +kernel
theorem dL_record_19 : decode cL_record 19 = .ok (.iconst 0, 1) := by decide +kernel
theorem dL_record_20 : decode cL_record 20 = .ok (.ireturn, 1) := by decide +kernel
theorem dL_row_0 : decode cL_row 0 = .ok (.aload 5, 2) := by decide +kernel
theorem dL_row_2 : decode cL_row 2 = .ok (.iconst 0, 1) := by decide +kernel
theorem dL_row_3 : decode cL_row 3 = .ok (.aload_n 0, 1) := by decide +kernel
theorem dL_row_4 : decode cL_row 4 = .ok (.iload_n 1, 1) := by decide +kernel
theorem dL_row_5 : decode cL_row 5 = .ok (.iload_n 2, 1) := by decide +kernel
theorem dL_row_6 : decode cL_row 6 = .ok (.iload_n 3, 1) := by decide +kernel
theorem dL_row_7 : decode cL_row 7 = .ok (.iload 4, 2) := by decide +kernel
theorem dL_row_9 : decode cL_row 9 = .ok (.invokevirtual 35, 3) := by decide +kernel
theorem dL_row_12 : decode cL_row 12 = .ok (.i2l, 1) := by decide +kernel
theorem dL_row_13 : decode cL_row 13 = .ok (.lastore, 1) := by decide +kernel
theorem dL_row_14 : decode cL_row 14 = .ok (.goto 7, 3) := by decide +kernel
theorem dL_row_17 : decode cL_row 17 = .ok (.astore 6, 2) := by decide +kernel
theorem dL_row_19 : decode cL_row 19 = .ok (.iconst 1, 1) := by decide +kernel
theorem dL_row_20 : decode cL_row 20 = .ok (.ireturn, 1) := by decide +kernel
theorem dL_row_21 : decode cL_row 21 = .ok (.iconst 0, 1) := by decide +kernel
theorem dL_row_22 : decode cL_row 22 = .ok (.ireturn, 1) := by decide +kernel
theorem dL_call_0 : decode cL_call 0 = .ok (.aload 5, 2) := by decide +kernel
theorem dL_call_2 : decode cL_call 2 = .ok (.iconst 0, 1) := by decide +kernel
theorem dL_call_3 : decode cL_call 3 = .ok (.aload_n 0, 1) := by decide +kernel
theorem dL_call_4 : decode cL_call 4 = .ok (.iload_n 1, 1) := by decide +kernel
theorem dL_call_5 : decode cL_call 5 = .ok (.iload_n 2, 1) := by decide +kernel
theorem dL_call_6 : decode cL_call 6 = .ok (.iload_n 3, 1) := by decide +kernel
theorem dL_call_7 : decode cL_call 7 = .ok (.iload 4, 2) := by decide +kernel
theorem dL_call_9 : decode cL_call 9 = .ok (.invokevirtual 39, 3) := by decide +kernel
theorem dL_call_12 : decode cL_call 12 = .ok (.i2l, 1) := by decide +kernel
theorem dL_call_13 : decode cL_call 13 = .ok (.lastore, 1) := by decide +kernel
theorem dL_call_14 : decode cL_call 14 = .ok (.goto 7, 3) := by decide +kernel
theorem dL_call_17 : decode cL_call 17 = .ok (.astore 6, 2) := by decide +kernel
theorem dL_call_19 : decode cL_call 19 = .ok (.iconst 1, 1) := by decide +kernel
theorem dL_call_20 : decode cL_call 20 = .ok (.ireturn, 1) := by decide +kernel
theorem dL_call_21 : decode cL_call 21 = .ok (.iconst 0, 1) := by decide +kernel
theorem dL_call_22 : decode cL_call 22 = .ok (.ireturn, 1) := by decide +kernel
theorem dL_normalise_0 : decode cL_normalise 0 = .ok (.aload_n 2, 1) := by decide +kernel
theorem dL_normalise_1 : decode cL_normalise 1 = .ok (.iconst 0, 1) := by decide +kernel
theorem dL_normalise_2 : decode cL_normalise 2 = .ok (.aload_n 0, 1) := by decide +kernel
theorem dL_normalise_3 : decode cL_normalise 3 = .ok (.iload_n 1, 1) := by decide +kernel
theorem dL_normalise_4 : decode cL_normalise 4 = .ok (.invokevirtual 42, 3) := by decide +kernel
theorem dL_normalise_7 : decode cL_normalise 7 = .ok (.i2l, 1) := by decide +kernel
theorem dL_normalise_8 : decode cL_normalise 8 = .ok (.lastore, 1) := by decide +kernel
theorem dL_normalise_9 : decode cL_normalise 9 = .ok (.goto 6, 3) := by decide +kernel
theorem dL_normalise_12 : decode cL_normalise 12 = .ok (.astore_n 3, 1) := by decide +kernel
theorem dL_normalise_13 : decode cL_normalise 13 = .ok (.iconst 1, 1) := by decide +kernel
theorem dL_normalise_14 : decode cL_normalise 14 = .ok (.ireturn, 1) := by decide +kernel
theorem dL_normalise_15 : decode cL_normalise 15 = .ok (.iconst 0, 1) := by decide +kernel
theorem dL_normalise_16 : decode cL_normalise 16 = .ok (.ireturn, 1) := by decide +kernel
theorem dL_split_0 : decode cL_split 0 = .ok (.aload_n 2, 1) := by decide +kernel
theorem dL_split_1 : decode cL_split 1 = .ok (.iconst 0, 1) := by decide +kernel
theorem dL_split_2 : decode cL_split 2 = .ok (.aload_n 0, 1) := by decide +kernel
theorem dL_split_3 : decode cL_split 3 = .ok (.iload_n 1, 1) := by decide +kernel
theorem dL_split_4 : decode cL_split 4 = .ok (.invokevirtual 45, 3) := by decide +kernel
theorem dL_split_7 : decode cL_split 7 = .ok (.i2l, 1) := by decide +kernel
theorem dL_split_8 : decode cL_split 8 = .ok (.lastore, 1) := by decide +kernel
theorem dL_split_9 : decode cL_split 9 = .ok (.goto 6, 3) := by decide +kernel
theorem dL_split_12 : decode cL_split 12 = .ok (.astore_n 3, 1) := by decide +kernel
theorem dL_split_13 : decode cL_split 13 = .ok (.iconst 1, 1) := by decide +kernel
theorem dL_split_14 : decode cL_split 14 = .ok (.ireturn, 1) := by decide +kernel
theorem dL_split_15 : decode cL_split 15 = .ok (.iconst 0, 1) := by decide +kernel
theorem dL_split_16 : decode cL_split 16 = .ok (.ireturn, 1) := by decide +kernel
theorem dL_join_0 : decode cL_join 0 = .ok (.aload_n 2, 1) := by decide +kernel
theorem dL_join_1 : decode cL_join 1 = .ok (.iconst 0, 1) := by decide +kernel
theorem dL_join_2 : decode cL_join 2 = .ok (.aload_n 0, 1) := by decide +kernel
theorem dL_join_3 : decode cL_join 3 = .ok (.iload_n 1, 1) := by decide +kernel
theorem dL_join_4 : decode cL_join 4 = .ok (.invokevirtual 48, 3) := by decide +kernel
theorem dL_join_7 : decode cL_join 7 = .ok (.i2l, 1) := by decide +kernel
theorem dL_join_8 : decode cL_join 8 = .ok (.lastore, 1) := by decide +kernel
theorem dL_join_9 : decode cL_join 9 = .ok (.goto 6, 3) := by decide +kernel
theorem dL_join_12 : decode cL_join 12 = .ok (.astore_n 3, 1) := by decide +kernel
theorem dL_join_13 : decode cL_join 13 = .ok (.iconst 1, 1) := by decide +kernel
theorem dL_join_14 : decode cL_join 14 = .ok (.ireturn, 1) := by decide +kernel
theorem dL_join_15 : decode cL_join 15 = .ok (.iconst 0, 1) := by decide +kernel
theorem dL_join_16 : decode cL_join 16 = .ok (.ireturn, 1) := by decide +kernel
theorem dL_sort_0 : decode cL_sort 0 = .ok (.aload_n 2, 1) := by decide +kernel
theorem dL_sort_1 : decode cL_sort 1 = .ok (.iconst 0, 1) := by decide +kernel
theorem dL_sort_2 : decode cL_sort 2 = .ok (.aload_n 0, 1) := by decide +kernel
theorem dL_sort_3 : decode cL_sort 3 = .ok (.iload_n 1, 1) := by decide +kernel
theorem dL_sort_4 : decode cL_sort 4 = .ok (.invokevirtual 51, 3) := by decide +kernel
theorem dL_sort_7 : decode cL_sort 7 = .ok (.i2l, 1) := by decide +kernel
theorem dL_sort_8 : decode cL_sort 8 = .ok (.lastore, 1) := by decide +kernel
theorem dL_sort_9 : decode cL_sort 9 = .ok (.goto 6, 3) := by decide +kernel
theorem dL_sort_12 : decode cL_sort 12 = .ok (.astore_n 3, 1) := by decide +kernel
theorem dL_sort_13 : decode cL_sort 13 = .ok (.iconst 1, 1) := by decide +kernel
theorem dL_sort_14 : decode cL_sort 14 = .ok (.ireturn, 1) := by decide +kernel
theorem dL_sort_15 : decode cL_sort 15 = .ok (.iconst 0, 1) := by decide +kernel
theorem dL_sort_16 : decode cL_sort 16 = .ok (.ireturn, 1) := by decide +kernel
theorem dL_apply_0 : decode cL_apply 0 = .ok (.aload 5, 2) := by decide +kernel
theorem dL_apply_2 : decode cL_apply 2 = .ok (.iconst 0, 1) := by decide +kernel
theorem dL_apply_3 : decode cL_apply 3 = .ok (.aload_n 0, 1) := by decide +kernel
theorem dL_apply_4 : decode cL_apply 4 = .ok (.iload_n 1, 1) := by decide +kernel
theorem dL_apply_5 : decode cL_apply 5 = .ok (.iload_n 2, 1) := by decide +kernel
theorem dL_apply_6 : decode cL_apply 6 = .ok (.iload_n 3, 1) := by decide +kernel
theorem dL_apply_7 : decode cL_apply 7 = .ok (.iload 4, 2) := by decide +kernel
theorem dL_apply_9 : decode cL_apply 9 = .ok (.invokevirtual 54, 3) := by decide +kernel
theorem dL_apply_12 : decode cL_apply 12 = .ok (.i2l, 1) := by decide +kernel
theorem dL_apply_13 : decode cL_apply 13 = .ok (.lastore, 1) := by decide +kernel
theorem dL_apply_14 : decode cL_apply 14 = .ok (.goto 7, 3) := by decide +kernel
theorem dL_apply_17 : decode cL_apply 17 = .ok (.astore 6, 2) := by decide +kernel
theorem dL_apply_19 : decode cL_apply 19 = .ok (.iconst 1, 1) := by decide +kernel
theorem dL_apply_20 : decode cL_apply 20 = .ok (.ireturn, 1) := by decide +kernel
theorem dL_apply_21 : decode cL_apply 21 = .ok (.iconst 0, 1) := by decide +kernel
theorem dL_apply_22 : decode cL_apply 22 = .ok (.ireturn, 1) := by decide +kernel
theorem dL_same_0 : decode cL_same 0 = .ok (.aload 5, 2) := by decide +kernel
theorem dL_same_2 : decode cL_same 2 = .ok (.iconst 0, 1) := by decide +kernel
theorem dL_same_3 : decode cL_same 3 = .ok (.aload_n 0, 1) := by decide +kernel
theorem dL_same_4 : decode cL_same 4 = .ok (.iload_n 1, 1) := by decide +kernel
theorem dL_same_5 : decode cL_same 5 = .ok (.iload_n 2, 1) := by decide +kernel
theorem dL_same_6 : decode cL_same 6 = .ok (.iload_n 3, 1) := by decide +kernel
theorem dL_same_7 : decode cL_same 7 = .ok (.iload 4, 2) := by decide +kernel
theorem dL_same_9 : decode cL_same 9 = .ok (.invokevirtual 57, 3) := by decide +kernel
theorem dL_same_12 : decode cL_same 12 = .ok (.ifCond .eq 7, 3) := by decide +kernel
theorem dL_same_15 : decode cL_same 15 = .ok (.lconst 1, 1) := by decide +kernel
theorem dL_same_16 : decode cL_same 16 = .ok (.goto 4, 3) := by decide +kernel
theorem dL_same_19 : decode cL_same 19 = .ok (.lconst 0, 1) := by decide +kernel
theorem dL_same_20 : decode cL_same 20 = .ok (.lastore, 1) := by decide +kernel
theorem dL_same_21 : decode cL_same 21 = .ok (.goto 7, 3) := by decide +kernel
theorem dL_same_24 : decode cL_same 24 = .ok (.astore 6, 2) := by decide +kernel
theorem dL_same_26 : decode cL_same 26 = .ok (.iconst 1, 1) := by decide +kernel
theorem dL_same_27 : decode cL_same 27 = .ok (.ireturn, 1) := by decide +kernel
theorem dL_same_28 : decode cL_same 28 = .ok (.iconst 0, 1) := by decide +kernel
theorem dL_same_29 : decode cL_same 29 = .ok (.ireturn, 1) := by decide +kernel
theorem dL_write_0 : decode cL_write 0 = .ok (.aload_n 2, 1) := by decide +kernel
theorem dL_write_1 : decode cL_write 1 = .ok (.iconst 0, 1) := by decide +kernel
theorem dL_write_2 : decode cL_write 2 = .ok (.aload_n 0, 1) := by decide +kernel
theorem dL_write_3 : decode cL_write 3 = .ok (.iload_n 1, 1) := by decide +kernel
theorem dL_write_4 : decode cL_write 4 = .ok (.invokevirtual 61, 3) := by decide +kernel
theorem dL_write_7 : decode cL_write 7 = .ok (.i2l, 1) := by decide +kernel
theorem dL_write_8 : decode cL_write 8 = .ok (.lastore, 1) := by decide +kernel
theorem dL_write_9 : decode cL_write 9 = .ok (.goto 6, 3) := by decide +kernel
theorem dL_write_12 : decode cL_write 12 = .ok (.astore_n 3, 1) := by decide +kernel
theorem dL_write_13 : decode cL_write 13 = .ok (.iconst 1, 1) := by decide +kernel
theorem dL_write_14 : decode cL_write 14 = .ok (.ireturn, 1) := by decide +kernel
theorem dL_write_15 : decode cL_write 15 = .ok (.iconst 0, 1) := by decide +kernel
theorem dL_write_16 : decode cL_write 16 = .ok (.ireturn, 1) := by decide +kernel
theorem dL_law_0 : decode cL_law 0 = .ok (.new 8, 3) := by decide +kernel
theorem dL_law_3 : decode cL_law 3 = .ok (.dup, 1) := by decide +kernel
theorem dL_law_4 : decode cL_law 4 = .ok (.invokespecial 64, 3) := by decide +kernel
theorem dL_law_7 : decode cL_law 7 = .ok (.astore_n 1, 1) := by decide +kernel
theorem dL_law_8 : decode cL_law 8 = .ok (.new 65, 3) := by decide +kernel
theorem dL_law_11 : decode cL_law 11 = .ok (.dup, 1) := by decide +kernel
theorem dL_law_12 : decode cL_law 12 = .ok (.invokespecial 67, 3) := by decide +kernel
theorem dL_law_15 : decode cL_law 15 = .ok (.astore_n 2, 1) := by decide +kernel
theorem dL_law_16 : decode cL_law 16 = .ok (.iconst 1, 1) := by decide +kernel
theorem dL_law_17 : decode cL_law 17 = .ok (.newarray .long, 2) := by decide +kernel
theorem dL_law_19 : decode cL_law 19 = .ok (.astore_n 3, 1) := by decide +kernel
theorem dL_law_20 : decode cL_law 20 = .ok (.iconst 0, 1) := by decide +kernel
theorem dL_law_21 : decode cL_law 21 = .ok (.istore 4, 2) := by decide +kernel
theorem dL_law_23 : decode cL_law 23 = .ok (.iload 4, 2) := by decide +kernel
theorem dL_law_25 : decode cL_law 25 = .ok (.aload_n 0, 1) := by decide +kernel
theorem dL_law_26 : decode cL_law 26 = .ok (.arraylength, 1) := by decide +kernel
theorem dL_law_27 : decode cL_law 27 = .ok (.iconst 5, 1) := by decide +kernel
theorem dL_law_28 : decode cL_law 28 = .ok (.isub, 1) := by decide +kernel
theorem dL_law_29 : decode cL_law 29 = .ok (.if_icmp .gt 1339, 3) := by decide +kernel
theorem dL_law_32 : decode cL_law 32 = .ok (.aload_n 0, 1) := by decide +kernel
theorem dL_law_33 : decode cL_law 33 = .ok (.iload 4, 2) := by decide +kernel
theorem dL_law_35 : decode cL_law 35 = .ok (.iaload, 1) := by decide +kernel
theorem dL_law_36 : decode cL_law 36 = .ok (.bipush 31, 2) := by decide +kernel
theorem dL_law_38 : decode cL_law 38 = .ok (.iand, 1) := by decide +kernel
theorem dL_law_39 : decode cL_law 39 = .ok (.tableswitch 1323 0 21 #[101, 201, 214, 270, 283, 351, 419, 487, 567, 659, 751, 807, 863, 919, 975, 988, 1080, 1105, 1130, 1229, 1285, 1310], 101) := by decide +kernel
theorem dL_law_140 : decode cL_law 140 = .ok (.aload_n 1, 1) := by decide +kernel
theorem dL_law_141 : decode cL_law 141 = .ok (.aload_n 0, 1) := by decide +kernel
theorem dL_law_142 : decode cL_law 142 = .ok (.iload 4, 2) := by decide +kernel
theorem dL_law_144 : decode cL_law 144 = .ok (.iconst 1, 1) := by decide +kernel
theorem dL_law_145 : decode cL_law 145 = .ok (.iadd, 1) := by decide +kernel
theorem dL_law_146 : decode cL_law 146 = .ok (.iaload, 1) := by decide +kernel
theorem dL_law_147 : decode cL_law 147 = .ok (.aload_n 0, 1) := by decide +kernel
theorem dL_law_148 : decode cL_law 148 = .ok (.iload 4, 2) := by decide +kernel
theorem dL_law_150 : decode cL_law 150 = .ok (.iconst 2, 1) := by decide +kernel
theorem dL_law_151 : decode cL_law 151 = .ok (.iadd, 1) := by decide +kernel
theorem dL_law_152 : decode cL_law 152 = .ok (.iaload, 1) := by decide +kernel
theorem dL_law_153 : decode cL_law 153 = .ok (.i2l, 1) := by decide +kernel
theorem dL_law_154 : decode cL_law 154 = .ok (.bipush 32, 2) := by decide +kernel
theorem dL_law_156 : decode cL_law 156 = .ok (.lshl, 1) := by decide +kernel
theorem dL_law_157 : decode cL_law 157 = .ok (.aload_n 0, 1) := by decide +kernel
theorem dL_law_158 : decode cL_law 158 = .ok (.iload 4, 2) := by decide +kernel
theorem dL_law_160 : decode cL_law 160 = .ok (.iconst 3, 1) := by decide +kernel
theorem dL_law_161 : decode cL_law 161 = .ok (.iadd, 1) := by decide +kernel
theorem dL_law_162 : decode cL_law 162 = .ok (.iaload, 1) := by decide +kernel
theorem dL_law_163 : decode cL_law 163 = .ok (.i2l, 1) := by decide +kernel
theorem dL_law_164 : decode cL_law 164 = .ok (.ldc2_w 68, 3) := by decide +kernel
theorem dL_law_167 : decode cL_law 167 = .ok (.land, 1) := by decide +kernel
theorem dL_law_168 : decode cL_law 168 = .ok (.lor, 1) := by decide +kernel
theorem dL_law_169 : decode cL_law 169 = .ok (.aload_n 3, 1) := by decide +kernel
theorem dL_law_170 : decode cL_law 170 = .ok (.invokestatic 70, 3) := by decide +kernel
theorem dL_law_173 : decode cL_law 173 = .ok (.istore 5, 2) := by decide +kernel
theorem dL_law_175 : decode cL_law 175 = .ok (.aload_n 2, 1) := by decide +kernel
theorem dL_law_176 : decode cL_law 176 = .ok (.aload_n 0, 1) := by decide +kernel
theorem dL_law_177 : decode cL_law 177 = .ok (.iload 4, 2) := by decide +kernel
theorem dL_law_179 : decode cL_law 179 = .ok (.iconst 1, 1) := by decide +kernel
theorem dL_law_180 : decode cL_law 180 = .ok (.iadd, 1) := by decide +kernel
theorem dL_law_181 : decode cL_law 181 = .ok (.iaload, 1) := by decide +kernel
theorem dL_law_182 : decode cL_law 182 = .ok (.aload_n 0, 1) := by decide +kernel
theorem dL_law_183 : decode cL_law 183 = .ok (.iload 4, 2) := by decide +kernel
theorem dL_law_185 : decode cL_law 185 = .ok (.iconst 2, 1) := by decide +kernel
theorem dL_law_186 : decode cL_law 186 = .ok (.iadd, 1) := by decide +kernel
theorem dL_law_187 : decode cL_law 187 = .ok (.iaload, 1) := by decide +kernel
theorem dL_law_188 : decode cL_law 188 = .ok (.i2l, 1) := by decide +kernel
theorem dL_law_189 : decode cL_law 189 = .ok (.bipush 32, 2) := by decide +kernel
theorem dL_law_191 : decode cL_law 191 = .ok (.lshl, 1) := by decide +kernel
theorem dL_law_192 : decode cL_law 192 = .ok (.aload_n 0, 1) := by decide +kernel
theorem dL_law_193 : decode cL_law 193 = .ok (.iload 4, 2) := by decide +kernel
theorem dL_law_195 : decode cL_law 195 = .ok (.iconst 3, 1) := by decide +kernel
theorem dL_law_196 : decode cL_law 196 = .ok (.iadd, 1) := by decide +kernel
theorem dL_law_197 : decode cL_law 197 = .ok (.iaload, 1) := by decide +kernel
theorem dL_law_198 : decode cL_law 198 = .ok (.i2l, 1) := by decide +kernel
theorem dL_law_199 : decode cL_law 199 = .ok (.ldc2_w 68, 3) := by decide +kernel
theorem dL_law_202 : decode cL_law 202 = .ok (.land, 1) := by decide +kernel
theorem dL_law_203 : decode cL_law 203 = .ok (.lor, 1) := by decide +kernel
theorem dL_law_204 : decode cL_law 204 = .ok (.invokevirtual 75, 3) := by decide +kernel
theorem dL_law_207 : decode cL_law 207 = .ok (.istore 6, 2) := by decide +kernel
theorem dL_law_209 : decode cL_law 209 = .ok (.aload_n 2, 1) := by decide +kernel
theorem dL_law_210 : decode cL_law 210 = .ok (.invokevirtual 76, 3) := by decide +kernel
theorem dL_law_213 : decode cL_law 213 = .ok (.iload 5, 2) := by decide +kernel
theorem dL_law_215 : decode cL_law 215 = .ok (.if_icmp .eq 5, 3) := by decide +kernel
theorem dL_law_218 : decode cL_law 218 = .ok (.iconst 0, 1) := by decide +kernel
theorem dL_law_219 : decode cL_law 219 = .ok (.ireturn, 1) := by decide +kernel
theorem dL_law_220 : decode cL_law 220 = .ok (.iload 5, 2) := by decide +kernel
theorem dL_law_222 : decode cL_law 222 = .ok (.ifCond .ne 15, 3) := by decide +kernel
theorem dL_law_225 : decode cL_law 225 = .ok (.aload_n 3, 1) := by decide +kernel
theorem dL_law_226 : decode cL_law 226 = .ok (.iconst 0, 1) := by decide +kernel
theorem dL_law_227 : decode cL_law 227 = .ok (.laload, 1) := by decide +kernel
theorem dL_law_228 : decode cL_law 228 = .ok (.iload 6, 2) := by decide +kernel
theorem dL_law_230 : decode cL_law 230 = .ok (.i2l, 1) := by decide +kernel
theorem dL_law_231 : decode cL_law 231 = .ok (.lcmp, 1) := by decide +kernel
theorem dL_law_232 : decode cL_law 232 = .ok (.ifCond .eq 5, 3) := by decide +kernel
theorem dL_law_235 : decode cL_law 235 = .ok (.iconst 0, 1) := by decide +kernel
theorem dL_law_236 : decode cL_law 236 = .ok (.ireturn, 1) := by decide +kernel
theorem dL_law_237 : decode cL_law 237 = .ok (.goto 1125, 3) := by decide +kernel
theorem dL_law_240 : decode cL_law 240 = .ok (.aload_n 1, 1) := by decide +kernel
theorem dL_law_241 : decode cL_law 241 = .ok (.invokevirtual 80, 3) := by decide +kernel
theorem dL_law_244 : decode cL_law 244 = .ok (.aload_n 2, 1) := by decide +kernel
theorem dL_law_245 : decode cL_law 245 = .ok (.invokevirtual 83, 3) := by decide +kernel
theorem dL_law_248 : decode cL_law 248 = .ok (.if_icmp .eq 1114, 3) := by decide +kernel
theorem dL_law_251 : decode cL_law 251 = .ok (.iconst 0, 1) := by decide +kernel
theorem dL_law_252 : decode cL_law 252 = .ok (.ireturn, 1) := by decide +kernel
theorem dL_law_253 : decode cL_law 253 = .ok (.aload_n 1, 1) := by decide +kernel
theorem dL_law_254 : decode cL_law 254 = .ok (.aload_n 0, 1) := by decide +kernel
theorem dL_law_255 : decode cL_law 255 = .ok (.iload 4, 2) := by decide +kernel
theorem dL_law_257 : decode cL_law 257 = .ok (.iconst 1, 1) := by decide +kernel
theorem dL_law_258 : decode cL_law 258 = .ok (.iadd, 1) := by decide +kernel
theorem dL_law_259 : decode cL_law 259 = .ok (.iaload, 1) := by decide +kernel
theorem dL_law_260 : decode cL_law 260 = .ok (.aload_n 3, 1) := by decide +kernel
theorem dL_law_261 : decode cL_law 261 = .ok (.invokestatic 84, 3) := by decide +kernel
theorem dL_law_264 : decode cL_law 264 = .ok (.istore 5, 2) := by decide +kernel
theorem dL_law_266 : decode cL_law 266 = .ok (.aload_n 2, 1) := by decide +kernel
theorem dL_law_267 : decode cL_law 267 = .ok (.aload_n 0, 1) := by decide +kernel
theorem dL_law_268 : decode cL_law 268 = .ok (.iload 4, 2) := by decide +kernel
theorem dL_law_270 : decode cL_law 270 = .ok (.iconst 1, 1) := by decide +kernel
theorem dL_law_271 : decode cL_law 271 = .ok (.iadd, 1) := by decide +kernel
theorem dL_law_272 : decode cL_law 272 = .ok (.iaload, 1) := by decide +kernel
theorem dL_law_273 : decode cL_law 273 = .ok (.invokevirtual 87, 3) := by decide +kernel
theorem dL_law_276 : decode cL_law 276 = .ok (.istore 6, 2) := by decide +kernel
theorem dL_law_278 : decode cL_law 278 = .ok (.aload_n 2, 1) := by decide +kernel
theorem dL_law_279 : decode cL_law 279 = .ok (.invokevirtual 76, 3) := by decide +kernel
theorem dL_law_282 : decode cL_law 282 = .ok (.iload 5, 2) := by decide +kernel
theorem dL_law_284 : decode cL_law 284 = .ok (.if_icmp .eq 5, 3) := by decide +kernel
theorem dL_law_287 : decode cL_law 287 = .ok (.iconst 0, 1) := by decide +kernel
theorem dL_law_288 : decode cL_law 288 = .ok (.ireturn, 1) := by decide +kernel
theorem dL_law_289 : decode cL_law 289 = .ok (.iload 5, 2) := by decide +kernel
theorem dL_law_291 : decode cL_law 291 = .ok (.ifCond .ne 15, 3) := by decide +kernel
theorem dL_law_294 : decode cL_law 294 = .ok (.aload_n 3, 1) := by decide +kernel
theorem dL_law_295 : decode cL_law 295 = .ok (.iconst 0, 1) := by decide +kernel
theorem dL_law_296 : decode cL_law 296 = .ok (.laload, 1) := by decide +kernel
theorem dL_law_297 : decode cL_law 297 = .ok (.iload 6, 2) := by decide +kernel
theorem dL_law_299 : decode cL_law 299 = .ok (.i2l, 1) := by decide +kernel
theorem dL_law_300 : decode cL_law 300 = .ok (.lcmp, 1) := by decide +kernel
theorem dL_law_301 : decode cL_law 301 = .ok (.ifCond .eq 5, 3) := by decide +kernel
theorem dL_law_304 : decode cL_law 304 = .ok (.iconst 0, 1) := by decide +kernel
theorem dL_law_305 : decode cL_law 305 = .ok (.ireturn, 1) := by decide +kernel
theorem dL_law_306 : decode cL_law 306 = .ok (.goto 1056, 3) := by decide +kernel
theorem dL_law_309 : decode cL_law 309 = .ok (.aload_n 1, 1) := by decide +kernel
theorem dL_law_310 : decode cL_law 310 = .ok (.invokevirtual 88, 3) := by decide +kernel
theorem dL_law_313 : decode cL_law 313 = .ok (.aload_n 2, 1) := by decide +kernel
theorem dL_law_314 : decode cL_law 314 = .ok (.invokevirtual 91, 3) := by decide +kernel
theorem dL_law_317 : decode cL_law 317 = .ok (.if_icmp .eq 1045, 3) := by decide +kernel
theorem dL_law_320 : decode cL_law 320 = .ok (.iconst 0, 1) := by decide +kernel
theorem dL_law_321 : decode cL_law 321 = .ok (.ireturn, 1) := by decide +kernel
theorem dL_law_322 : decode cL_law 322 = .ok (.aload_n 1, 1) := by decide +kernel
theorem dL_law_323 : decode cL_law 323 = .ok (.aload_n 0, 1) := by decide +kernel
theorem dL_law_324 : decode cL_law 324 = .ok (.iload 4, 2) := by decide +kernel
theorem dL_law_326 : decode cL_law 326 = .ok (.iconst 1, 1) := by decide +kernel
theorem dL_law_327 : decode cL_law 327 = .ok (.iadd, 1) := by decide +kernel
theorem dL_law_328 : decode cL_law 328 = .ok (.iaload, 1) := by decide +kernel
theorem dL_law_329 : decode cL_law 329 = .ok (.aload_n 0, 1) := by decide +kernel
theorem dL_law_330 : decode cL_law 330 = .ok (.iload 4, 2) := by decide +kernel
theorem dL_law_332 : decode cL_law 332 = .ok (.iconst 2, 1) := by decide +kernel
theorem dL_law_333 : decode cL_law 333 = .ok (.iadd, 1) := by decide +kernel
theorem dL_law_334 : decode cL_law 334 = .ok (.iaload, 1) := by decide +kernel
theorem dL_law_335 : decode cL_law 335 = .ok (.aload_n 3, 1) := by decide +kernel
theorem dL_law_336 : decode cL_law 336 = .ok (.invokestatic 92, 3) := by decide +kernel
theorem dL_law_339 : decode cL_law 339 = .ok (.istore 5, 2) := by decide +kernel
theorem dL_law_341 : decode cL_law 341 = .ok (.aload_n 2, 1) := by decide +kernel
theorem dL_law_342 : decode cL_law 342 = .ok (.aload_n 0, 1) := by decide +kernel
theorem dL_law_343 : decode cL_law 343 = .ok (.iload 4, 2) := by decide +kernel
theorem dL_law_345 : decode cL_law 345 = .ok (.iconst 1, 1) := by decide +kernel
theorem dL_law_346 : decode cL_law 346 = .ok (.iadd, 1) := by decide +kernel
theorem dL_law_347 : decode cL_law 347 = .ok (.iaload, 1) := by decide +kernel
theorem dL_law_348 : decode cL_law 348 = .ok (.aload_n 0, 1) := by decide +kernel
theorem dL_law_349 : decode cL_law 349 = .ok (.iload 4, 2) := by decide +kernel
theorem dL_law_351 : decode cL_law 351 = .ok (.iconst 2, 1) := by decide +kernel
theorem dL_law_352 : decode cL_law 352 = .ok (.iadd, 1) := by decide +kernel
theorem dL_law_353 : decode cL_law 353 = .ok (.iaload, 1) := by decide +kernel
theorem dL_law_354 : decode cL_law 354 = .ok (.invokevirtual 95, 3) := by decide +kernel
theorem dL_law_357 : decode cL_law 357 = .ok (.istore 6, 2) := by decide +kernel
theorem dL_law_359 : decode cL_law 359 = .ok (.aload_n 2, 1) := by decide +kernel
theorem dL_law_360 : decode cL_law 360 = .ok (.invokevirtual 76, 3) := by decide +kernel
theorem dL_law_363 : decode cL_law 363 = .ok (.iload 5, 2) := by decide +kernel
theorem dL_law_365 : decode cL_law 365 = .ok (.if_icmp .eq 5, 3) := by decide +kernel
theorem dL_law_368 : decode cL_law 368 = .ok (.iconst 0, 1) := by decide +kernel
theorem dL_law_369 : decode cL_law 369 = .ok (.ireturn, 1) := by decide +kernel
theorem dL_law_370 : decode cL_law 370 = .ok (.iload 5, 2) := by decide +kernel
theorem dL_law_372 : decode cL_law 372 = .ok (.ifCond .ne 15, 3) := by decide +kernel
theorem dL_law_375 : decode cL_law 375 = .ok (.aload_n 3, 1) := by decide +kernel
theorem dL_law_376 : decode cL_law 376 = .ok (.iconst 0, 1) := by decide +kernel
theorem dL_law_377 : decode cL_law 377 = .ok (.laload, 1) := by decide +kernel
theorem dL_law_378 : decode cL_law 378 = .ok (.iload 6, 2) := by decide +kernel
theorem dL_law_380 : decode cL_law 380 = .ok (.i2l, 1) := by decide +kernel
theorem dL_law_381 : decode cL_law 381 = .ok (.lcmp, 1) := by decide +kernel
theorem dL_law_382 : decode cL_law 382 = .ok (.ifCond .eq 5, 3) := by decide +kernel
theorem dL_law_385 : decode cL_law 385 = .ok (.iconst 0, 1) := by decide +kernel
theorem dL_law_386 : decode cL_law 386 = .ok (.ireturn, 1) := by decide +kernel
theorem dL_law_387 : decode cL_law 387 = .ok (.goto 975, 3) := by decide +kernel
theorem dL_law_390 : decode cL_law 390 = .ok (.aload_n 1, 1) := by decide +kernel
theorem dL_law_391 : decode cL_law 391 = .ok (.aload_n 0, 1) := by decide +kernel
theorem dL_law_392 : decode cL_law 392 = .ok (.iload 4, 2) := by decide +kernel
theorem dL_law_394 : decode cL_law 394 = .ok (.iconst 1, 1) := by decide +kernel
theorem dL_law_395 : decode cL_law 395 = .ok (.iadd, 1) := by decide +kernel
theorem dL_law_396 : decode cL_law 396 = .ok (.iaload, 1) := by decide +kernel
theorem dL_law_397 : decode cL_law 397 = .ok (.aload_n 0, 1) := by decide +kernel
theorem dL_law_398 : decode cL_law 398 = .ok (.iload 4, 2) := by decide +kernel
theorem dL_law_400 : decode cL_law 400 = .ok (.iconst 2, 1) := by decide +kernel
theorem dL_law_401 : decode cL_law 401 = .ok (.iadd, 1) := by decide +kernel
theorem dL_law_402 : decode cL_law 402 = .ok (.iaload, 1) := by decide +kernel
theorem dL_law_403 : decode cL_law 403 = .ok (.aload_n 3, 1) := by decide +kernel
theorem dL_law_404 : decode cL_law 404 = .ok (.invokestatic 96, 3) := by decide +kernel
theorem dL_law_407 : decode cL_law 407 = .ok (.istore 5, 2) := by decide +kernel
theorem dL_law_409 : decode cL_law 409 = .ok (.aload_n 2, 1) := by decide +kernel
theorem dL_law_410 : decode cL_law 410 = .ok (.aload_n 0, 1) := by decide +kernel
theorem dL_law_411 : decode cL_law 411 = .ok (.iload 4, 2) := by decide +kernel
theorem dL_law_413 : decode cL_law 413 = .ok (.iconst 1, 1) := by decide +kernel
theorem dL_law_414 : decode cL_law 414 = .ok (.iadd, 1) := by decide +kernel
theorem dL_law_415 : decode cL_law 415 = .ok (.iaload, 1) := by decide +kernel
theorem dL_law_416 : decode cL_law 416 = .ok (.aload_n 0, 1) := by decide +kernel
theorem dL_law_417 : decode cL_law 417 = .ok (.iload 4, 2) := by decide +kernel
theorem dL_law_419 : decode cL_law 419 = .ok (.iconst 2, 1) := by decide +kernel
theorem dL_law_420 : decode cL_law 420 = .ok (.iadd, 1) := by decide +kernel
theorem dL_law_421 : decode cL_law 421 = .ok (.iaload, 1) := by decide +kernel
theorem dL_law_422 : decode cL_law 422 = .ok (.invokevirtual 98, 3) := by decide +kernel
theorem dL_law_425 : decode cL_law 425 = .ok (.istore 6, 2) := by decide +kernel
theorem dL_law_427 : decode cL_law 427 = .ok (.aload_n 2, 1) := by decide +kernel
theorem dL_law_428 : decode cL_law 428 = .ok (.invokevirtual 76, 3) := by decide +kernel
theorem dL_law_431 : decode cL_law 431 = .ok (.iload 5, 2) := by decide +kernel
theorem dL_law_433 : decode cL_law 433 = .ok (.if_icmp .eq 5, 3) := by decide +kernel
theorem dL_law_436 : decode cL_law 436 = .ok (.iconst 0, 1) := by decide +kernel
theorem dL_law_437 : decode cL_law 437 = .ok (.ireturn, 1) := by decide +kernel
theorem dL_law_438 : decode cL_law 438 = .ok (.iload 5, 2) := by decide +kernel
theorem dL_law_440 : decode cL_law 440 = .ok (.ifCond .ne 15, 3) := by decide +kernel
theorem dL_law_443 : decode cL_law 443 = .ok (.aload_n 3, 1) := by decide +kernel
theorem dL_law_444 : decode cL_law 444 = .ok (.iconst 0, 1) := by decide +kernel
theorem dL_law_445 : decode cL_law 445 = .ok (.laload, 1) := by decide +kernel
theorem dL_law_446 : decode cL_law 446 = .ok (.iload 6, 2) := by decide +kernel
theorem dL_law_448 : decode cL_law 448 = .ok (.i2l, 1) := by decide +kernel
theorem dL_law_449 : decode cL_law 449 = .ok (.lcmp, 1) := by decide +kernel
theorem dL_law_450 : decode cL_law 450 = .ok (.ifCond .eq 5, 3) := by decide +kernel
theorem dL_law_453 : decode cL_law 453 = .ok (.iconst 0, 1) := by decide +kernel
theorem dL_law_454 : decode cL_law 454 = .ok (.ireturn, 1) := by decide +kernel
theorem dL_law_455 : decode cL_law 455 = .ok (.goto 907, 3) := by decide +kernel
theorem dL_law_458 : decode cL_law 458 = .ok (.aload_n 1, 1) := by decide +kernel
theorem dL_law_459 : decode cL_law 459 = .ok (.aload_n 0, 1) := by decide +kernel
theorem dL_law_460 : decode cL_law 460 = .ok (.iload 4, 2) := by decide +kernel
theorem dL_law_462 : decode cL_law 462 = .ok (.iconst 1, 1) := by decide +kernel
theorem dL_law_463 : decode cL_law 463 = .ok (.iadd, 1) := by decide +kernel
theorem dL_law_464 : decode cL_law 464 = .ok (.iaload, 1) := by decide +kernel
theorem dL_law_465 : decode cL_law 465 = .ok (.aload_n 0, 1) := by decide +kernel
theorem dL_law_466 : decode cL_law 466 = .ok (.iload 4, 2) := by decide +kernel
theorem dL_law_468 : decode cL_law 468 = .ok (.iconst 2, 1) := by decide +kernel
theorem dL_law_469 : decode cL_law 469 = .ok (.iadd, 1) := by decide +kernel
theorem dL_law_470 : decode cL_law 470 = .ok (.iaload, 1) := by decide +kernel
theorem dL_law_471 : decode cL_law 471 = .ok (.aload_n 3, 1) := by decide +kernel
theorem dL_law_472 : decode cL_law 472 = .ok (.invokestatic 99, 3) := by decide +kernel
theorem dL_law_475 : decode cL_law 475 = .ok (.istore 5, 2) := by decide +kernel
theorem dL_law_477 : decode cL_law 477 = .ok (.aload_n 2, 1) := by decide +kernel
theorem dL_law_478 : decode cL_law 478 = .ok (.aload_n 0, 1) := by decide +kernel
theorem dL_law_479 : decode cL_law 479 = .ok (.iload 4, 2) := by decide +kernel
theorem dL_law_481 : decode cL_law 481 = .ok (.iconst 1, 1) := by decide +kernel
theorem dL_law_482 : decode cL_law 482 = .ok (.iadd, 1) := by decide +kernel
theorem dL_law_483 : decode cL_law 483 = .ok (.iaload, 1) := by decide +kernel
theorem dL_law_484 : decode cL_law 484 = .ok (.aload_n 0, 1) := by decide +kernel
theorem dL_law_485 : decode cL_law 485 = .ok (.iload 4, 2) := by decide +kernel
theorem dL_law_487 : decode cL_law 487 = .ok (.iconst 2, 1) := by decide +kernel
theorem dL_law_488 : decode cL_law 488 = .ok (.iadd, 1) := by decide +kernel
theorem dL_law_489 : decode cL_law 489 = .ok (.iaload, 1) := by decide +kernel
theorem dL_law_490 : decode cL_law 490 = .ok (.invokevirtual 101, 3) := by decide +kernel
theorem dL_law_493 : decode cL_law 493 = .ok (.istore 6, 2) := by decide +kernel
theorem dL_law_495 : decode cL_law 495 = .ok (.aload_n 2, 1) := by decide +kernel
theorem dL_law_496 : decode cL_law 496 = .ok (.invokevirtual 76, 3) := by decide +kernel
theorem dL_law_499 : decode cL_law 499 = .ok (.iload 5, 2) := by decide +kernel
theorem dL_law_501 : decode cL_law 501 = .ok (.if_icmp .eq 5, 3) := by decide +kernel
theorem dL_law_504 : decode cL_law 504 = .ok (.iconst 0, 1) := by decide +kernel
theorem dL_law_505 : decode cL_law 505 = .ok (.ireturn, 1) := by decide +kernel
theorem dL_law_506 : decode cL_law 506 = .ok (.iload 5, 2) := by decide +kernel
theorem dL_law_508 : decode cL_law 508 = .ok (.ifCond .ne 15, 3) := by decide +kernel
theorem dL_law_511 : decode cL_law 511 = .ok (.aload_n 3, 1) := by decide +kernel
theorem dL_law_512 : decode cL_law 512 = .ok (.iconst 0, 1) := by decide +kernel
theorem dL_law_513 : decode cL_law 513 = .ok (.laload, 1) := by decide +kernel
theorem dL_law_514 : decode cL_law 514 = .ok (.iload 6, 2) := by decide +kernel
theorem dL_law_516 : decode cL_law 516 = .ok (.i2l, 1) := by decide +kernel
theorem dL_law_517 : decode cL_law 517 = .ok (.lcmp, 1) := by decide +kernel
theorem dL_law_518 : decode cL_law 518 = .ok (.ifCond .eq 5, 3) := by decide +kernel
theorem dL_law_521 : decode cL_law 521 = .ok (.iconst 0, 1) := by decide +kernel
theorem dL_law_522 : decode cL_law 522 = .ok (.ireturn, 1) := by decide +kernel
theorem dL_law_523 : decode cL_law 523 = .ok (.goto 839, 3) := by decide +kernel
theorem dL_law_526 : decode cL_law 526 = .ok (.aload_n 1, 1) := by decide +kernel
theorem dL_law_527 : decode cL_law 527 = .ok (.aload_n 0, 1) := by decide +kernel
theorem dL_law_528 : decode cL_law 528 = .ok (.iload 4, 2) := by decide +kernel
theorem dL_law_530 : decode cL_law 530 = .ok (.iconst 1, 1) := by decide +kernel
theorem dL_law_531 : decode cL_law 531 = .ok (.iadd, 1) := by decide +kernel
theorem dL_law_532 : decode cL_law 532 = .ok (.iaload, 1) := by decide +kernel
theorem dL_law_533 : decode cL_law 533 = .ok (.aload_n 0, 1) := by decide +kernel
theorem dL_law_534 : decode cL_law 534 = .ok (.iload 4, 2) := by decide +kernel
theorem dL_law_536 : decode cL_law 536 = .ok (.iconst 2, 1) := by decide +kernel
theorem dL_law_537 : decode cL_law 537 = .ok (.iadd, 1) := by decide +kernel
theorem dL_law_538 : decode cL_law 538 = .ok (.iaload, 1) := by decide +kernel
theorem dL_law_539 : decode cL_law 539 = .ok (.aload_n 0, 1) := by decide +kernel
theorem dL_law_540 : decode cL_law 540 = .ok (.iload 4, 2) := by decide +kernel
theorem dL_law_542 : decode cL_law 542 = .ok (.iconst 3, 1) := by decide +kernel
theorem dL_law_543 : decode cL_law 543 = .ok (.iadd, 1) := by decide +kernel
theorem dL_law_544 : decode cL_law 544 = .ok (.iaload, 1) := by decide +kernel
theorem dL_law_545 : decode cL_law 545 = .ok (.aload_n 3, 1) := by decide +kernel
theorem dL_law_546 : decode cL_law 546 = .ok (.invokestatic 102, 3) := by decide +kernel
theorem dL_law_549 : decode cL_law 549 = .ok (.istore 5, 2) := by decide +kernel
theorem dL_law_551 : decode cL_law 551 = .ok (.aload_n 2, 1) := by decide +kernel
theorem dL_law_552 : decode cL_law 552 = .ok (.aload_n 0, 1) := by decide +kernel
theorem dL_law_553 : decode cL_law 553 = .ok (.iload 4, 2) := by decide +kernel
theorem dL_law_555 : decode cL_law 555 = .ok (.iconst 1, 1) := by decide +kernel
theorem dL_law_556 : decode cL_law 556 = .ok (.iadd, 1) := by decide +kernel
theorem dL_law_557 : decode cL_law 557 = .ok (.iaload, 1) := by decide +kernel
theorem dL_law_558 : decode cL_law 558 = .ok (.aload_n 0, 1) := by decide +kernel
theorem dL_law_559 : decode cL_law 559 = .ok (.iload 4, 2) := by decide +kernel
theorem dL_law_561 : decode cL_law 561 = .ok (.iconst 2, 1) := by decide +kernel
theorem dL_law_562 : decode cL_law 562 = .ok (.iadd, 1) := by decide +kernel
theorem dL_law_563 : decode cL_law 563 = .ok (.iaload, 1) := by decide +kernel
theorem dL_law_564 : decode cL_law 564 = .ok (.aload_n 0, 1) := by decide +kernel
theorem dL_law_565 : decode cL_law 565 = .ok (.iload 4, 2) := by decide +kernel
theorem dL_law_567 : decode cL_law 567 = .ok (.iconst 3, 1) := by decide +kernel
theorem dL_law_568 : decode cL_law 568 = .ok (.iadd, 1) := by decide +kernel
theorem dL_law_569 : decode cL_law 569 = .ok (.iaload, 1) := by decide +kernel
theorem dL_law_570 : decode cL_law 570 = .ok (.invokevirtual 105, 3) := by decide +kernel
theorem dL_law_573 : decode cL_law 573 = .ok (.istore 6, 2) := by decide +kernel
theorem dL_law_575 : decode cL_law 575 = .ok (.aload_n 2, 1) := by decide +kernel
theorem dL_law_576 : decode cL_law 576 = .ok (.invokevirtual 76, 3) := by decide +kernel
theorem dL_law_579 : decode cL_law 579 = .ok (.iload 5, 2) := by decide +kernel
theorem dL_law_581 : decode cL_law 581 = .ok (.if_icmp .eq 5, 3) := by decide +kernel
theorem dL_law_584 : decode cL_law 584 = .ok (.iconst 0, 1) := by decide +kernel
theorem dL_law_585 : decode cL_law 585 = .ok (.ireturn, 1) := by decide +kernel
theorem dL_law_586 : decode cL_law 586 = .ok (.iload 5, 2) := by decide +kernel
theorem dL_law_588 : decode cL_law 588 = .ok (.ifCond .ne 15, 3) := by decide +kernel
theorem dL_law_591 : decode cL_law 591 = .ok (.aload_n 3, 1) := by decide +kernel
theorem dL_law_592 : decode cL_law 592 = .ok (.iconst 0, 1) := by decide +kernel
theorem dL_law_593 : decode cL_law 593 = .ok (.laload, 1) := by decide +kernel
theorem dL_law_594 : decode cL_law 594 = .ok (.iload 6, 2) := by decide +kernel
theorem dL_law_596 : decode cL_law 596 = .ok (.i2l, 1) := by decide +kernel
theorem dL_law_597 : decode cL_law 597 = .ok (.lcmp, 1) := by decide +kernel
theorem dL_law_598 : decode cL_law 598 = .ok (.ifCond .eq 5, 3) := by decide +kernel
theorem dL_law_601 : decode cL_law 601 = .ok (.iconst 0, 1) := by decide +kernel
theorem dL_law_602 : decode cL_law 602 = .ok (.ireturn, 1) := by decide +kernel
theorem dL_law_603 : decode cL_law 603 = .ok (.goto 759, 3) := by decide +kernel
theorem dL_law_606 : decode cL_law 606 = .ok (.aload_n 1, 1) := by decide +kernel
theorem dL_law_607 : decode cL_law 607 = .ok (.aload_n 0, 1) := by decide +kernel
theorem dL_law_608 : decode cL_law 608 = .ok (.iload 4, 2) := by decide +kernel
theorem dL_law_610 : decode cL_law 610 = .ok (.iconst 1, 1) := by decide +kernel
theorem dL_law_611 : decode cL_law 611 = .ok (.iadd, 1) := by decide +kernel
theorem dL_law_612 : decode cL_law 612 = .ok (.iaload, 1) := by decide +kernel
theorem dL_law_613 : decode cL_law 613 = .ok (.aload_n 0, 1) := by decide +kernel
theorem dL_law_614 : decode cL_law 614 = .ok (.iload 4, 2) := by decide +kernel
theorem dL_law_616 : decode cL_law 616 = .ok (.iconst 2, 1) := by decide +kernel
theorem dL_law_617 : decode cL_law 617 = .ok (.iadd, 1) := by decide +kernel
theorem dL_law_618 : decode cL_law 618 = .ok (.iaload, 1) := by decide +kernel
theorem dL_law_619 : decode cL_law 619 = .ok (.aload_n 0, 1) := by decide +kernel
theorem dL_law_620 : decode cL_law 620 = .ok (.iload 4, 2) := by decide +kernel
theorem dL_law_622 : decode cL_law 622 = .ok (.iconst 3, 1) := by decide +kernel
theorem dL_law_623 : decode cL_law 623 = .ok (.iadd, 1) := by decide +kernel
theorem dL_law_624 : decode cL_law 624 = .ok (.iaload, 1) := by decide +kernel
theorem dL_law_625 : decode cL_law 625 = .ok (.aload_n 0, 1) := by decide +kernel
theorem dL_law_626 : decode cL_law 626 = .ok (.iload 4, 2) := by decide +kernel
theorem dL_law_628 : decode cL_law 628 = .ok (.iconst 4, 1) := by decide +kernel
theorem dL_law_629 : decode cL_law 629 = .ok (.iadd, 1) := by decide +kernel
theorem dL_law_630 : decode cL_law 630 = .ok (.iaload, 1) := by decide +kernel
theorem dL_law_631 : decode cL_law 631 = .ok (.aload_n 3, 1) := by decide +kernel
theorem dL_law_632 : decode cL_law 632 = .ok (.invokestatic 106, 3) := by decide +kernel
theorem dL_law_635 : decode cL_law 635 = .ok (.istore 5, 2) := by decide +kernel
theorem dL_law_637 : decode cL_law 637 = .ok (.aload_n 2, 1) := by decide +kernel
theorem dL_law_638 : decode cL_law 638 = .ok (.aload_n 0, 1) := by decide +kernel
theorem dL_law_639 : decode cL_law 639 = .ok (.iload 4, 2) := by decide +kernel
theorem dL_law_641 : decode cL_law 641 = .ok (.iconst 1, 1) := by decide +kernel
theorem dL_law_642 : decode cL_law 642 = .ok (.iadd, 1) := by decide +kernel
theorem dL_law_643 : decode cL_law 643 = .ok (.iaload, 1) := by decide +kernel
theorem dL_law_644 : decode cL_law 644 = .ok (.aload_n 0, 1) := by decide +kernel
theorem dL_law_645 : decode cL_law 645 = .ok (.iload 4, 2) := by decide +kernel
theorem dL_law_647 : decode cL_law 647 = .ok (.iconst 2, 1) := by decide +kernel
theorem dL_law_648 : decode cL_law 648 = .ok (.iadd, 1) := by decide +kernel
theorem dL_law_649 : decode cL_law 649 = .ok (.iaload, 1) := by decide +kernel
theorem dL_law_650 : decode cL_law 650 = .ok (.aload_n 0, 1) := by decide +kernel
theorem dL_law_651 : decode cL_law 651 = .ok (.iload 4, 2) := by decide +kernel
theorem dL_law_653 : decode cL_law 653 = .ok (.iconst 3, 1) := by decide +kernel
theorem dL_law_654 : decode cL_law 654 = .ok (.iadd, 1) := by decide +kernel
theorem dL_law_655 : decode cL_law 655 = .ok (.iaload, 1) := by decide +kernel
theorem dL_law_656 : decode cL_law 656 = .ok (.aload_n 0, 1) := by decide +kernel
theorem dL_law_657 : decode cL_law 657 = .ok (.iload 4, 2) := by decide +kernel
theorem dL_law_659 : decode cL_law 659 = .ok (.iconst 4, 1) := by decide +kernel
theorem dL_law_660 : decode cL_law 660 = .ok (.iadd, 1) := by decide +kernel
theorem dL_law_661 : decode cL_law 661 = .ok (.iaload, 1) := by decide +kernel
theorem dL_law_662 : decode cL_law 662 = .ok (.invokevirtual 109, 3) := by decide +kernel
theorem dL_law_665 : decode cL_law 665 = .ok (.istore 6, 2) := by decide +kernel
theorem dL_law_667 : decode cL_law 667 = .ok (.aload_n 2, 1) := by decide +kernel
theorem dL_law_668 : decode cL_law 668 = .ok (.invokevirtual 76, 3) := by decide +kernel
theorem dL_law_671 : decode cL_law 671 = .ok (.iload 5, 2) := by decide +kernel
theorem dL_law_673 : decode cL_law 673 = .ok (.if_icmp .eq 5, 3) := by decide +kernel
theorem dL_law_676 : decode cL_law 676 = .ok (.iconst 0, 1) := by decide +kernel
theorem dL_law_677 : decode cL_law 677 = .ok (.ireturn, 1) := by decide +kernel
theorem dL_law_678 : decode cL_law 678 = .ok (.iload 5, 2) := by decide +kernel
theorem dL_law_680 : decode cL_law 680 = .ok (.ifCond .ne 15, 3) := by decide +kernel
theorem dL_law_683 : decode cL_law 683 = .ok (.aload_n 3, 1) := by decide +kernel
theorem dL_law_684 : decode cL_law 684 = .ok (.iconst 0, 1) := by decide +kernel
theorem dL_law_685 : decode cL_law 685 = .ok (.laload, 1) := by decide +kernel
theorem dL_law_686 : decode cL_law 686 = .ok (.iload 6, 2) := by decide +kernel
theorem dL_law_688 : decode cL_law 688 = .ok (.i2l, 1) := by decide +kernel
theorem dL_law_689 : decode cL_law 689 = .ok (.lcmp, 1) := by decide +kernel
theorem dL_law_690 : decode cL_law 690 = .ok (.ifCond .eq 5, 3) := by decide +kernel
theorem dL_law_693 : decode cL_law 693 = .ok (.iconst 0, 1) := by decide +kernel
theorem dL_law_694 : decode cL_law 694 = .ok (.ireturn, 1) := by decide +kernel
theorem dL_law_695 : decode cL_law 695 = .ok (.goto 667, 3) := by decide +kernel
theorem dL_law_698 : decode cL_law 698 = .ok (.aload_n 1, 1) := by decide +kernel
theorem dL_law_699 : decode cL_law 699 = .ok (.aload_n 0, 1) := by decide +kernel
theorem dL_law_700 : decode cL_law 700 = .ok (.iload 4, 2) := by decide +kernel
theorem dL_law_702 : decode cL_law 702 = .ok (.iconst 1, 1) := by decide +kernel
theorem dL_law_703 : decode cL_law 703 = .ok (.iadd, 1) := by decide +kernel
theorem dL_law_704 : decode cL_law 704 = .ok (.iaload, 1) := by decide +kernel
theorem dL_law_705 : decode cL_law 705 = .ok (.aload_n 0, 1) := by decide +kernel
theorem dL_law_706 : decode cL_law 706 = .ok (.iload 4, 2) := by decide +kernel
theorem dL_law_708 : decode cL_law 708 = .ok (.iconst 2, 1) := by decide +kernel
theorem dL_law_709 : decode cL_law 709 = .ok (.iadd, 1) := by decide +kernel
theorem dL_law_710 : decode cL_law 710 = .ok (.iaload, 1) := by decide +kernel
theorem dL_law_711 : decode cL_law 711 = .ok (.aload_n 0, 1) := by decide +kernel
theorem dL_law_712 : decode cL_law 712 = .ok (.iload 4, 2) := by decide +kernel
theorem dL_law_714 : decode cL_law 714 = .ok (.iconst 3, 1) := by decide +kernel
theorem dL_law_715 : decode cL_law 715 = .ok (.iadd, 1) := by decide +kernel
theorem dL_law_716 : decode cL_law 716 = .ok (.iaload, 1) := by decide +kernel
theorem dL_law_717 : decode cL_law 717 = .ok (.aload_n 0, 1) := by decide +kernel
theorem dL_law_718 : decode cL_law 718 = .ok (.iload 4, 2) := by decide +kernel
theorem dL_law_720 : decode cL_law 720 = .ok (.iconst 4, 1) := by decide +kernel
theorem dL_law_721 : decode cL_law 721 = .ok (.iadd, 1) := by decide +kernel
theorem dL_law_722 : decode cL_law 722 = .ok (.iaload, 1) := by decide +kernel
theorem dL_law_723 : decode cL_law 723 = .ok (.aload_n 3, 1) := by decide +kernel
theorem dL_law_724 : decode cL_law 724 = .ok (.invokestatic 110, 3) := by decide +kernel
theorem dL_law_727 : decode cL_law 727 = .ok (.istore 5, 2) := by decide +kernel
theorem dL_law_729 : decode cL_law 729 = .ok (.aload_n 2, 1) := by decide +kernel
theorem dL_law_730 : decode cL_law 730 = .ok (.aload_n 0, 1) := by decide +kernel
theorem dL_law_731 : decode cL_law 731 = .ok (.iload 4, 2) := by decide +kernel
theorem dL_law_733 : decode cL_law 733 = .ok (.iconst 1, 1) := by decide +kernel
theorem dL_law_734 : decode cL_law 734 = .ok (.iadd, 1) := by decide +kernel
theorem dL_law_735 : decode cL_law 735 = .ok (.iaload, 1) := by decide +kernel
theorem dL_law_736 : decode cL_law 736 = .ok (.aload_n 0, 1) := by decide +kernel
theorem dL_law_737 : decode cL_law 737 = .ok (.iload 4, 2) := by decide +kernel
theorem dL_law_739 : decode cL_law 739 = .ok (.iconst 2, 1) := by decide +kernel
theorem dL_law_740 : decode cL_law 740 = .ok (.iadd, 1) := by decide +kernel
theorem dL_law_741 : decode cL_law 741 = .ok (.iaload, 1) := by decide +kernel
theorem dL_law_742 : decode cL_law 742 = .ok (.aload_n 0, 1) := by decide +kernel
theorem dL_law_743 : decode cL_law 743 = .ok (.iload 4, 2) := by decide +kernel
theorem dL_law_745 : decode cL_law 745 = .ok (.iconst 3, 1) := by decide +kernel
theorem dL_law_746 : decode cL_law 746 = .ok (.iadd, 1) := by decide +kernel
theorem dL_law_747 : decode cL_law 747 = .ok (.iaload, 1) := by decide +kernel
theorem dL_law_748 : decode cL_law 748 = .ok (.aload_n 0, 1) := by decide +kernel
theorem dL_law_749 : decode cL_law 749 = .ok (.iload 4, 2) := by decide +kernel
theorem dL_law_751 : decode cL_law 751 = .ok (.iconst 4, 1) := by decide +kernel
theorem dL_law_752 : decode cL_law 752 = .ok (.iadd, 1) := by decide +kernel
theorem dL_law_753 : decode cL_law 753 = .ok (.iaload, 1) := by decide +kernel
theorem dL_law_754 : decode cL_law 754 = .ok (.invokevirtual 112, 3) := by decide +kernel
theorem dL_law_757 : decode cL_law 757 = .ok (.istore 6, 2) := by decide +kernel
theorem dL_law_759 : decode cL_law 759 = .ok (.aload_n 2, 1) := by decide +kernel
theorem dL_law_760 : decode cL_law 760 = .ok (.invokevirtual 76, 3) := by decide +kernel
theorem dL_law_763 : decode cL_law 763 = .ok (.iload 5, 2) := by decide +kernel
theorem dL_law_765 : decode cL_law 765 = .ok (.if_icmp .eq 5, 3) := by decide +kernel
theorem dL_law_768 : decode cL_law 768 = .ok (.iconst 0, 1) := by decide +kernel
theorem dL_law_769 : decode cL_law 769 = .ok (.ireturn, 1) := by decide +kernel
theorem dL_law_770 : decode cL_law 770 = .ok (.iload 5, 2) := by decide +kernel
theorem dL_law_772 : decode cL_law 772 = .ok (.ifCond .ne 15, 3) := by decide +kernel
theorem dL_law_775 : decode cL_law 775 = .ok (.aload_n 3, 1) := by decide +kernel
theorem dL_law_776 : decode cL_law 776 = .ok (.iconst 0, 1) := by decide +kernel
theorem dL_law_777 : decode cL_law 777 = .ok (.laload, 1) := by decide +kernel
theorem dL_law_778 : decode cL_law 778 = .ok (.iload 6, 2) := by decide +kernel
theorem dL_law_780 : decode cL_law 780 = .ok (.i2l, 1) := by decide +kernel
theorem dL_law_781 : decode cL_law 781 = .ok (.lcmp, 1) := by decide +kernel
theorem dL_law_782 : decode cL_law 782 = .ok (.ifCond .eq 5, 3) := by decide +kernel
theorem dL_law_785 : decode cL_law 785 = .ok (.iconst 0, 1) := by decide +kernel
theorem dL_law_786 : decode cL_law 786 = .ok (.ireturn, 1) := by decide +kernel
theorem dL_law_787 : decode cL_law 787 = .ok (.goto 575, 3) := by decide +kernel
theorem dL_law_790 : decode cL_law 790 = .ok (.aload_n 1, 1) := by decide +kernel
theorem dL_law_791 : decode cL_law 791 = .ok (.aload_n 0, 1) := by decide +kernel
theorem dL_law_792 : decode cL_law 792 = .ok (.iload 4, 2) := by decide +kernel
theorem dL_law_794 : decode cL_law 794 = .ok (.iconst 1, 1) := by decide +kernel
theorem dL_law_795 : decode cL_law 795 = .ok (.iadd, 1) := by decide +kernel
theorem dL_law_796 : decode cL_law 796 = .ok (.iaload, 1) := by decide +kernel
theorem dL_law_797 : decode cL_law 797 = .ok (.aload_n 3, 1) := by decide +kernel
theorem dL_law_798 : decode cL_law 798 = .ok (.invokestatic 113, 3) := by decide +kernel
theorem dL_law_801 : decode cL_law 801 = .ok (.istore 5, 2) := by decide +kernel
theorem dL_law_803 : decode cL_law 803 = .ok (.aload_n 2, 1) := by decide +kernel
theorem dL_law_804 : decode cL_law 804 = .ok (.aload_n 0, 1) := by decide +kernel
theorem dL_law_805 : decode cL_law 805 = .ok (.iload 4, 2) := by decide +kernel
theorem dL_law_807 : decode cL_law 807 = .ok (.iconst 1, 1) := by decide +kernel
theorem dL_law_808 : decode cL_law 808 = .ok (.iadd, 1) := by decide +kernel
theorem dL_law_809 : decode cL_law 809 = .ok (.iaload, 1) := by decide +kernel
theorem dL_law_810 : decode cL_law 810 = .ok (.invokevirtual 115, 3) := by decide +kernel
theorem dL_law_813 : decode cL_law 813 = .ok (.istore 6, 2) := by decide +kernel
theorem dL_law_815 : decode cL_law 815 = .ok (.aload_n 2, 1) := by decide +kernel
theorem dL_law_816 : decode cL_law 816 = .ok (.invokevirtual 76, 3) := by decide +kernel
theorem dL_law_819 : decode cL_law 819 = .ok (.iload 5, 2) := by decide +kernel
theorem dL_law_821 : decode cL_law 821 = .ok (.if_icmp .eq 5, 3) := by decide +kernel
theorem dL_law_824 : decode cL_law 824 = .ok (.iconst 0, 1) := by decide +kernel
theorem dL_law_825 : decode cL_law 825 = .ok (.ireturn, 1) := by decide +kernel
theorem dL_law_826 : decode cL_law 826 = .ok (.iload 5, 2) := by decide +kernel
theorem dL_law_828 : decode cL_law 828 = .ok (.ifCond .ne 15, 3) := by decide +kernel
theorem dL_law_831 : decode cL_law 831 = .ok (.aload_n 3, 1) := by decide +kernel
theorem dL_law_832 : decode cL_law 832 = .ok (.iconst 0, 1) := by decide +kernel
theorem dL_law_833 : decode cL_law 833 = .ok (.laload, 1) := by decide +kernel
theorem dL_law_834 : decode cL_law 834 = .ok (.iload 6, 2) := by decide +kernel
theorem dL_law_836 : decode cL_law 836 = .ok (.i2l, 1) := by decide +kernel
theorem dL_law_837 : decode cL_law 837 = .ok (.lcmp, 1) := by decide +kernel
theorem dL_law_838 : decode cL_law 838 = .ok (.ifCond .eq 5, 3) := by decide +kernel
theorem dL_law_841 : decode cL_law 841 = .ok (.iconst 0, 1) := by decide +kernel
theorem dL_law_842 : decode cL_law 842 = .ok (.ireturn, 1) := by decide +kernel
theorem dL_law_843 : decode cL_law 843 = .ok (.goto 519, 3) := by decide +kernel
theorem dL_law_846 : decode cL_law 846 = .ok (.aload_n 1, 1) := by decide +kernel
theorem dL_law_847 : decode cL_law 847 = .ok (.aload_n 0, 1) := by decide +kernel
theorem dL_law_848 : decode cL_law 848 = .ok (.iload 4, 2) := by decide +kernel
theorem dL_law_850 : decode cL_law 850 = .ok (.iconst 1, 1) := by decide +kernel
theorem dL_law_851 : decode cL_law 851 = .ok (.iadd, 1) := by decide +kernel
theorem dL_law_852 : decode cL_law 852 = .ok (.iaload, 1) := by decide +kernel
theorem dL_law_853 : decode cL_law 853 = .ok (.aload_n 3, 1) := by decide +kernel
theorem dL_law_854 : decode cL_law 854 = .ok (.invokestatic 116, 3) := by decide +kernel
theorem dL_law_857 : decode cL_law 857 = .ok (.istore 5, 2) := by decide +kernel
theorem dL_law_859 : decode cL_law 859 = .ok (.aload_n 2, 1) := by decide +kernel
theorem dL_law_860 : decode cL_law 860 = .ok (.aload_n 0, 1) := by decide +kernel
theorem dL_law_861 : decode cL_law 861 = .ok (.iload 4, 2) := by decide +kernel
theorem dL_law_863 : decode cL_law 863 = .ok (.iconst 1, 1) := by decide +kernel
theorem dL_law_864 : decode cL_law 864 = .ok (.iadd, 1) := by decide +kernel
theorem dL_law_865 : decode cL_law 865 = .ok (.iaload, 1) := by decide +kernel
theorem dL_law_866 : decode cL_law 866 = .ok (.invokevirtual 118, 3) := by decide +kernel
theorem dL_law_869 : decode cL_law 869 = .ok (.istore 6, 2) := by decide +kernel
theorem dL_law_871 : decode cL_law 871 = .ok (.aload_n 2, 1) := by decide +kernel
theorem dL_law_872 : decode cL_law 872 = .ok (.invokevirtual 76, 3) := by decide +kernel
theorem dL_law_875 : decode cL_law 875 = .ok (.iload 5, 2) := by decide +kernel
theorem dL_law_877 : decode cL_law 877 = .ok (.if_icmp .eq 5, 3) := by decide +kernel
theorem dL_law_880 : decode cL_law 880 = .ok (.iconst 0, 1) := by decide +kernel
theorem dL_law_881 : decode cL_law 881 = .ok (.ireturn, 1) := by decide +kernel
theorem dL_law_882 : decode cL_law 882 = .ok (.iload 5, 2) := by decide +kernel
theorem dL_law_884 : decode cL_law 884 = .ok (.ifCond .ne 15, 3) := by decide +kernel
theorem dL_law_887 : decode cL_law 887 = .ok (.aload_n 3, 1) := by decide +kernel
theorem dL_law_888 : decode cL_law 888 = .ok (.iconst 0, 1) := by decide +kernel
theorem dL_law_889 : decode cL_law 889 = .ok (.laload, 1) := by decide +kernel
theorem dL_law_890 : decode cL_law 890 = .ok (.iload 6, 2) := by decide +kernel
theorem dL_law_892 : decode cL_law 892 = .ok (.i2l, 1) := by decide +kernel
theorem dL_law_893 : decode cL_law 893 = .ok (.lcmp, 1) := by decide +kernel
theorem dL_law_894 : decode cL_law 894 = .ok (.ifCond .eq 5, 3) := by decide +kernel
theorem dL_law_897 : decode cL_law 897 = .ok (.iconst 0, 1) := by decide +kernel
theorem dL_law_898 : decode cL_law 898 = .ok (.ireturn, 1) := by decide +kernel
theorem dL_law_899 : decode cL_law 899 = .ok (.goto 463, 3) := by decide +kernel
theorem dL_law_902 : decode cL_law 902 = .ok (.aload_n 1, 1) := by decide +kernel
theorem dL_law_903 : decode cL_law 903 = .ok (.aload_n 0, 1) := by decide +kernel
theorem dL_law_904 : decode cL_law 904 = .ok (.iload 4, 2) := by decide +kernel
theorem dL_law_906 : decode cL_law 906 = .ok (.iconst 1, 1) := by decide +kernel
theorem dL_law_907 : decode cL_law 907 = .ok (.iadd, 1) := by decide +kernel
theorem dL_law_908 : decode cL_law 908 = .ok (.iaload, 1) := by decide +kernel
theorem dL_law_909 : decode cL_law 909 = .ok (.aload_n 3, 1) := by decide +kernel
theorem dL_law_910 : decode cL_law 910 = .ok (.invokestatic 119, 3) := by decide +kernel
theorem dL_law_913 : decode cL_law 913 = .ok (.istore 5, 2) := by decide +kernel
theorem dL_law_915 : decode cL_law 915 = .ok (.aload_n 2, 1) := by decide +kernel
theorem dL_law_916 : decode cL_law 916 = .ok (.aload_n 0, 1) := by decide +kernel
theorem dL_law_917 : decode cL_law 917 = .ok (.iload 4, 2) := by decide +kernel
theorem dL_law_919 : decode cL_law 919 = .ok (.iconst 1, 1) := by decide +kernel
theorem dL_law_920 : decode cL_law 920 = .ok (.iadd, 1) := by decide +kernel
theorem dL_law_921 : decode cL_law 921 = .ok (.iaload, 1) := by decide +kernel
theorem dL_law_922 : decode cL_law 922 = .ok (.invokevirtual 121, 3) := by decide +kernel
theorem dL_law_925 : decode cL_law 925 = .ok (.istore 6, 2) := by decide +kernel
theorem dL_law_927 : decode cL_law 927 = .ok (.aload_n 2, 1) := by decide +kernel
theorem dL_law_928 : decode cL_law 928 = .ok (.invokevirtual 76, 3) := by decide +kernel
theorem dL_law_931 : decode cL_law 931 = .ok (.iload 5, 2) := by decide +kernel
theorem dL_law_933 : decode cL_law 933 = .ok (.if_icmp .eq 5, 3) := by decide +kernel
theorem dL_law_936 : decode cL_law 936 = .ok (.iconst 0, 1) := by decide +kernel
theorem dL_law_937 : decode cL_law 937 = .ok (.ireturn, 1) := by decide +kernel
theorem dL_law_938 : decode cL_law 938 = .ok (.iload 5, 2) := by decide +kernel
theorem dL_law_940 : decode cL_law 940 = .ok (.ifCond .ne 15, 3) := by decide +kernel
theorem dL_law_943 : decode cL_law 943 = .ok (.aload_n 3, 1) := by decide +kernel
theorem dL_law_944 : decode cL_law 944 = .ok (.iconst 0, 1) := by decide +kernel
theorem dL_law_945 : decode cL_law 945 = .ok (.laload, 1) := by decide +kernel
theorem dL_law_946 : decode cL_law 946 = .ok (.iload 6, 2) := by decide +kernel
theorem dL_law_948 : decode cL_law 948 = .ok (.i2l, 1) := by decide +kernel
theorem dL_law_949 : decode cL_law 949 = .ok (.lcmp, 1) := by decide +kernel
theorem dL_law_950 : decode cL_law 950 = .ok (.ifCond .eq 5, 3) := by decide +kernel
theorem dL_law_953 : decode cL_law 953 = .ok (.iconst 0, 1) := by decide +kernel
theorem dL_law_954 : decode cL_law 954 = .ok (.ireturn, 1) := by decide +kernel
theorem dL_law_955 : decode cL_law 955 = .ok (.goto 407, 3) := by decide +kernel
theorem dL_law_958 : decode cL_law 958 = .ok (.aload_n 1, 1) := by decide +kernel
theorem dL_law_959 : decode cL_law 959 = .ok (.aload_n 0, 1) := by decide +kernel
theorem dL_law_960 : decode cL_law 960 = .ok (.iload 4, 2) := by decide +kernel
theorem dL_law_962 : decode cL_law 962 = .ok (.iconst 1, 1) := by decide +kernel
theorem dL_law_963 : decode cL_law 963 = .ok (.iadd, 1) := by decide +kernel
theorem dL_law_964 : decode cL_law 964 = .ok (.iaload, 1) := by decide +kernel
theorem dL_law_965 : decode cL_law 965 = .ok (.aload_n 3, 1) := by decide +kernel
theorem dL_law_966 : decode cL_law 966 = .ok (.invokestatic 122, 3) := by decide +kernel
theorem dL_law_969 : decode cL_law 969 = .ok (.istore 5, 2) := by decide +kernel
theorem dL_law_971 : decode cL_law 971 = .ok (.aload_n 2, 1) := by decide +kernel
theorem dL_law_972 : decode cL_law 972 = .ok (.aload_n 0, 1) := by decide +kernel
theorem dL_law_973 : decode cL_law 973 = .ok (.iload 4, 2) := by decide +kernel
theorem dL_law_975 : decode cL_law 975 = .ok (.iconst 1, 1) := by decide +kernel
theorem dL_law_976 : decode cL_law 976 = .ok (.iadd, 1) := by decide +kernel
theorem dL_law_977 : decode cL_law 977 = .ok (.iaload, 1) := by decide +kernel
theorem dL_law_978 : decode cL_law 978 = .ok (.invokevirtual 124, 3) := by decide +kernel
theorem dL_law_981 : decode cL_law 981 = .ok (.istore 6, 2) := by decide +kernel
theorem dL_law_983 : decode cL_law 983 = .ok (.aload_n 2, 1) := by decide +kernel
theorem dL_law_984 : decode cL_law 984 = .ok (.invokevirtual 76, 3) := by decide +kernel
theorem dL_law_987 : decode cL_law 987 = .ok (.iload 5, 2) := by decide +kernel
theorem dL_law_989 : decode cL_law 989 = .ok (.if_icmp .eq 5, 3) := by decide +kernel
theorem dL_law_992 : decode cL_law 992 = .ok (.iconst 0, 1) := by decide +kernel
theorem dL_law_993 : decode cL_law 993 = .ok (.ireturn, 1) := by decide +kernel
theorem dL_law_994 : decode cL_law 994 = .ok (.iload 5, 2) := by decide +kernel
theorem dL_law_996 : decode cL_law 996 = .ok (.ifCond .ne 15, 3) := by decide +kernel
theorem dL_law_999 : decode cL_law 999 = .ok (.aload_n 3, 1) := by decide +kernel
theorem dL_law_1000 : decode cL_law 1000 = .ok (.iconst 0, 1) := by decide +kernel
theorem dL_law_1001 : decode cL_law 1001 = .ok (.laload, 1) := by decide +kernel
theorem dL_law_1002 : decode cL_law 1002 = .ok (.iload 6, 2) := by decide +kernel
theorem dL_law_1004 : decode cL_law 1004 = .ok (.i2l, 1) := by decide +kernel
theorem dL_law_1005 : decode cL_law 1005 = .ok (.lcmp, 1) := by decide +kernel
theorem dL_law_1006 : decode cL_law 1006 = .ok (.ifCond .eq 5, 3) := by decide +kernel
theorem dL_law_1009 : decode cL_law 1009 = .ok (.iconst 0, 1) := by decide +kernel
theorem dL_law_1010 : decode cL_law 1010 = .ok (.ireturn, 1) := by decide +kernel
theorem dL_law_1011 : decode cL_law 1011 = .ok (.goto 351, 3) := by decide +kernel
theorem dL_law_1014 : decode cL_law 1014 = .ok (.aload_n 1, 1) := by decide +kernel
theorem dL_law_1015 : decode cL_law 1015 = .ok (.invokevirtual 125, 3) := by decide +kernel
theorem dL_law_1018 : decode cL_law 1018 = .ok (.aload_n 2, 1) := by decide +kernel
theorem dL_law_1019 : decode cL_law 1019 = .ok (.invokevirtual 128, 3) := by decide +kernel
theorem dL_law_1022 : decode cL_law 1022 = .ok (.if_icmp .eq 340, 3) := by decide +kernel
theorem dL_law_1025 : decode cL_law 1025 = .ok (.iconst 0, 1) := by decide +kernel
theorem dL_law_1026 : decode cL_law 1026 = .ok (.ireturn, 1) := by decide +kernel
theorem dL_law_1027 : decode cL_law 1027 = .ok (.aload_n 1, 1) := by decide +kernel
theorem dL_law_1028 : decode cL_law 1028 = .ok (.aload_n 0, 1) := by decide +kernel
theorem dL_law_1029 : decode cL_law 1029 = .ok (.iload 4, 2) := by decide +kernel
theorem dL_law_1031 : decode cL_law 1031 = .ok (.iconst 1, 1) := by decide +kernel
theorem dL_law_1032 : decode cL_law 1032 = .ok (.iadd, 1) := by decide +kernel
theorem dL_law_1033 : decode cL_law 1033 = .ok (.iaload, 1) := by decide +kernel
theorem dL_law_1034 : decode cL_law 1034 = .ok (.aload_n 0, 1) := by decide +kernel
theorem dL_law_1035 : decode cL_law 1035 = .ok (.iload 4, 2) := by decide +kernel
theorem dL_law_1037 : decode cL_law 1037 = .ok (.iconst 2, 1) := by decide +kernel
theorem dL_law_1038 : decode cL_law 1038 = .ok (.iadd, 1) := by decide +kernel
theorem dL_law_1039 : decode cL_law 1039 = .ok (.iaload, 1) := by decide +kernel
theorem dL_law_1040 : decode cL_law 1040 = .ok (.aload_n 0, 1) := by decide +kernel
theorem dL_law_1041 : decode cL_law 1041 = .ok (.iload 4, 2) := by decide +kernel
theorem dL_law_1043 : decode cL_law 1043 = .ok (.iconst 3, 1) := by decide +kernel
theorem dL_law_1044 : decode cL_law 1044 = .ok (.iadd, 1) := by decide +kernel
theorem dL_law_1045 : decode cL_law 1045 = .ok (.iaload, 1) := by decide +kernel
theorem dL_law_1046 : decode cL_law 1046 = .ok (.aload_n 0, 1) := by decide +kernel
theorem dL_law_1047 : decode cL_law 1047 = .ok (.iload 4, 2) := by decide +kernel
theorem dL_law_1049 : decode cL_law 1049 = .ok (.iconst 4, 1) := by decide +kernel
theorem dL_law_1050 : decode cL_law 1050 = .ok (.iadd, 1) := by decide +kernel
theorem dL_law_1051 : decode cL_law 1051 = .ok (.iaload, 1) := by decide +kernel
theorem dL_law_1052 : decode cL_law 1052 = .ok (.aload_n 3, 1) := by decide +kernel
theorem dL_law_1053 : decode cL_law 1053 = .ok (.invokestatic 129, 3) := by decide +kernel
theorem dL_law_1056 : decode cL_law 1056 = .ok (.istore 5, 2) := by decide +kernel
theorem dL_law_1058 : decode cL_law 1058 = .ok (.aload_n 2, 1) := by decide +kernel
theorem dL_law_1059 : decode cL_law 1059 = .ok (.aload_n 0, 1) := by decide +kernel
theorem dL_law_1060 : decode cL_law 1060 = .ok (.iload 4, 2) := by decide +kernel
theorem dL_law_1062 : decode cL_law 1062 = .ok (.iconst 1, 1) := by decide +kernel
theorem dL_law_1063 : decode cL_law 1063 = .ok (.iadd, 1) := by decide +kernel
theorem dL_law_1064 : decode cL_law 1064 = .ok (.iaload, 1) := by decide +kernel
theorem dL_law_1065 : decode cL_law 1065 = .ok (.aload_n 0, 1) := by decide +kernel
theorem dL_law_1066 : decode cL_law 1066 = .ok (.iload 4, 2) := by decide +kernel
theorem dL_law_1068 : decode cL_law 1068 = .ok (.iconst 2, 1) := by decide +kernel
theorem dL_law_1069 : decode cL_law 1069 = .ok (.iadd, 1) := by decide +kernel
theorem dL_law_1070 : decode cL_law 1070 = .ok (.iaload, 1) := by decide +kernel
theorem dL_law_1071 : decode cL_law 1071 = .ok (.aload_n 0, 1) := by decide +kernel
theorem dL_law_1072 : decode cL_law 1072 = .ok (.iload 4, 2) := by decide +kernel
theorem dL_law_1074 : decode cL_law 1074 = .ok (.iconst 3, 1) := by decide +kernel
theorem dL_law_1075 : decode cL_law 1075 = .ok (.iadd, 1) := by decide +kernel
theorem dL_law_1076 : decode cL_law 1076 = .ok (.iaload, 1) := by decide +kernel
theorem dL_law_1077 : decode cL_law 1077 = .ok (.aload_n 0, 1) := by decide +kernel
theorem dL_law_1078 : decode cL_law 1078 = .ok (.iload 4, 2) := by decide +kernel
theorem dL_law_1080 : decode cL_law 1080 = .ok (.iconst 4, 1) := by decide +kernel
theorem dL_law_1081 : decode cL_law 1081 = .ok (.iadd, 1) := by decide +kernel
theorem dL_law_1082 : decode cL_law 1082 = .ok (.iaload, 1) := by decide +kernel
theorem dL_law_1083 : decode cL_law 1083 = .ok (.invokevirtual 131, 3) := by decide +kernel
theorem dL_law_1086 : decode cL_law 1086 = .ok (.istore 6, 2) := by decide +kernel
theorem dL_law_1088 : decode cL_law 1088 = .ok (.aload_n 2, 1) := by decide +kernel
theorem dL_law_1089 : decode cL_law 1089 = .ok (.invokevirtual 76, 3) := by decide +kernel
theorem dL_law_1092 : decode cL_law 1092 = .ok (.iload 5, 2) := by decide +kernel
theorem dL_law_1094 : decode cL_law 1094 = .ok (.if_icmp .eq 5, 3) := by decide +kernel
theorem dL_law_1097 : decode cL_law 1097 = .ok (.iconst 0, 1) := by decide +kernel
theorem dL_law_1098 : decode cL_law 1098 = .ok (.ireturn, 1) := by decide +kernel
theorem dL_law_1099 : decode cL_law 1099 = .ok (.iload 5, 2) := by decide +kernel
theorem dL_law_1101 : decode cL_law 1101 = .ok (.ifCond .ne 15, 3) := by decide +kernel
theorem dL_law_1104 : decode cL_law 1104 = .ok (.aload_n 3, 1) := by decide +kernel
theorem dL_law_1105 : decode cL_law 1105 = .ok (.iconst 0, 1) := by decide +kernel
theorem dL_law_1106 : decode cL_law 1106 = .ok (.laload, 1) := by decide +kernel
theorem dL_law_1107 : decode cL_law 1107 = .ok (.iload 6, 2) := by decide +kernel
theorem dL_law_1109 : decode cL_law 1109 = .ok (.i2l, 1) := by decide +kernel
theorem dL_law_1110 : decode cL_law 1110 = .ok (.lcmp, 1) := by decide +kernel
theorem dL_law_1111 : decode cL_law 1111 = .ok (.ifCond .eq 5, 3) := by decide +kernel
theorem dL_law_1114 : decode cL_law 1114 = .ok (.iconst 0, 1) := by decide +kernel
theorem dL_law_1115 : decode cL_law 1115 = .ok (.ireturn, 1) := by decide +kernel
theorem dL_law_1116 : decode cL_law 1116 = .ok (.goto 246, 3) := by decide +kernel
theorem dL_law_1119 : decode cL_law 1119 = .ok (.aload_n 1, 1) := by decide +kernel
theorem dL_law_1120 : decode cL_law 1120 = .ok (.aload_n 0, 1) := by decide +kernel
theorem dL_law_1121 : decode cL_law 1121 = .ok (.iload 4, 2) := by decide +kernel
theorem dL_law_1123 : decode cL_law 1123 = .ok (.iconst 1, 1) := by decide +kernel
theorem dL_law_1124 : decode cL_law 1124 = .ok (.iadd, 1) := by decide +kernel
theorem dL_law_1125 : decode cL_law 1125 = .ok (.iaload, 1) := by decide +kernel
theorem dL_law_1126 : decode cL_law 1126 = .ok (.invokevirtual 132, 3) := by decide +kernel
theorem dL_law_1129 : decode cL_law 1129 = .ok (.aload_n 2, 1) := by decide +kernel
theorem dL_law_1130 : decode cL_law 1130 = .ok (.aload_n 0, 1) := by decide +kernel
theorem dL_law_1131 : decode cL_law 1131 = .ok (.iload 4, 2) := by decide +kernel
theorem dL_law_1133 : decode cL_law 1133 = .ok (.iconst 1, 1) := by decide +kernel
theorem dL_law_1134 : decode cL_law 1134 = .ok (.iadd, 1) := by decide +kernel
theorem dL_law_1135 : decode cL_law 1135 = .ok (.iaload, 1) := by decide +kernel
theorem dL_law_1136 : decode cL_law 1136 = .ok (.invokevirtual 135, 3) := by decide +kernel
theorem dL_law_1139 : decode cL_law 1139 = .ok (.if_icmp .eq 223, 3) := by decide +kernel
theorem dL_law_1142 : decode cL_law 1142 = .ok (.iconst 0, 1) := by decide +kernel
theorem dL_law_1143 : decode cL_law 1143 = .ok (.ireturn, 1) := by decide +kernel
theorem dL_law_1144 : decode cL_law 1144 = .ok (.aload_n 1, 1) := by decide +kernel
theorem dL_law_1145 : decode cL_law 1145 = .ok (.aload_n 0, 1) := by decide +kernel
theorem dL_law_1146 : decode cL_law 1146 = .ok (.iload 4, 2) := by decide +kernel
theorem dL_law_1148 : decode cL_law 1148 = .ok (.iconst 1, 1) := by decide +kernel
theorem dL_law_1149 : decode cL_law 1149 = .ok (.iadd, 1) := by decide +kernel
theorem dL_law_1150 : decode cL_law 1150 = .ok (.iaload, 1) := by decide +kernel
theorem dL_law_1151 : decode cL_law 1151 = .ok (.invokevirtual 136, 3) := by decide +kernel
theorem dL_law_1154 : decode cL_law 1154 = .ok (.aload_n 2, 1) := by decide +kernel
theorem dL_law_1155 : decode cL_law 1155 = .ok (.aload_n 0, 1) := by decide +kernel
theorem dL_law_1156 : decode cL_law 1156 = .ok (.iload 4, 2) := by decide +kernel
theorem dL_law_1158 : decode cL_law 1158 = .ok (.iconst 1, 1) := by decide +kernel
theorem dL_law_1159 : decode cL_law 1159 = .ok (.iadd, 1) := by decide +kernel
theorem dL_law_1160 : decode cL_law 1160 = .ok (.iaload, 1) := by decide +kernel
theorem dL_law_1161 : decode cL_law 1161 = .ok (.invokevirtual 139, 3) := by decide +kernel
theorem dL_law_1164 : decode cL_law 1164 = .ok (.if_icmp .eq 198, 3) := by decide +kernel
theorem dL_law_1167 : decode cL_law 1167 = .ok (.iconst 0, 1) := by decide +kernel
theorem dL_law_1168 : decode cL_law 1168 = .ok (.ireturn, 1) := by decide +kernel
theorem dL_law_1169 : decode cL_law 1169 = .ok (.aload_n 1, 1) := by decide +kernel
theorem dL_law_1170 : decode cL_law 1170 = .ok (.aload_n 0, 1) := by decide +kernel
theorem dL_law_1171 : decode cL_law 1171 = .ok (.iload 4, 2) := by decide +kernel
theorem dL_law_1173 : decode cL_law 1173 = .ok (.iconst 1, 1) := by decide +kernel
theorem dL_law_1174 : decode cL_law 1174 = .ok (.iadd, 1) := by decide +kernel
theorem dL_law_1175 : decode cL_law 1175 = .ok (.iaload, 1) := by decide +kernel
theorem dL_law_1176 : decode cL_law 1176 = .ok (.aload_n 0, 1) := by decide +kernel
theorem dL_law_1177 : decode cL_law 1177 = .ok (.iload 4, 2) := by decide +kernel
theorem dL_law_1179 : decode cL_law 1179 = .ok (.iconst 2, 1) := by decide +kernel
theorem dL_law_1180 : decode cL_law 1180 = .ok (.iadd, 1) := by decide +kernel
theorem dL_law_1181 : decode cL_law 1181 = .ok (.iaload, 1) := by decide +kernel
theorem dL_law_1182 : decode cL_law 1182 = .ok (.aload_n 0, 1) := by decide +kernel
theorem dL_law_1183 : decode cL_law 1183 = .ok (.iload 4, 2) := by decide +kernel
theorem dL_law_1185 : decode cL_law 1185 = .ok (.iconst 3, 1) := by decide +kernel
theorem dL_law_1186 : decode cL_law 1186 = .ok (.iadd, 1) := by decide +kernel
theorem dL_law_1187 : decode cL_law 1187 = .ok (.iaload, 1) := by decide +kernel
theorem dL_law_1188 : decode cL_law 1188 = .ok (.aload_n 0, 1) := by decide +kernel
theorem dL_law_1189 : decode cL_law 1189 = .ok (.iload 4, 2) := by decide +kernel
theorem dL_law_1191 : decode cL_law 1191 = .ok (.iconst 4, 1) := by decide +kernel
theorem dL_law_1192 : decode cL_law 1192 = .ok (.iadd, 1) := by decide +kernel
theorem dL_law_1193 : decode cL_law 1193 = .ok (.iaload, 1) := by decide +kernel
theorem dL_law_1194 : decode cL_law 1194 = .ok (.aload_n 3, 1) := by decide +kernel
theorem dL_law_1195 : decode cL_law 1195 = .ok (.invokestatic 140, 3) := by decide +kernel
theorem dL_law_1198 : decode cL_law 1198 = .ok (.istore 5, 2) := by decide +kernel
theorem dL_law_1200 : decode cL_law 1200 = .ok (.aload_n 2, 1) := by decide +kernel
theorem dL_law_1201 : decode cL_law 1201 = .ok (.aload_n 0, 1) := by decide +kernel
theorem dL_law_1202 : decode cL_law 1202 = .ok (.iload 4, 2) := by decide +kernel
theorem dL_law_1204 : decode cL_law 1204 = .ok (.iconst 1, 1) := by decide +kernel
theorem dL_law_1205 : decode cL_law 1205 = .ok (.iadd, 1) := by decide +kernel
theorem dL_law_1206 : decode cL_law 1206 = .ok (.iaload, 1) := by decide +kernel
theorem dL_law_1207 : decode cL_law 1207 = .ok (.aload_n 0, 1) := by decide +kernel
theorem dL_law_1208 : decode cL_law 1208 = .ok (.iload 4, 2) := by decide +kernel
theorem dL_law_1210 : decode cL_law 1210 = .ok (.iconst 2, 1) := by decide +kernel
theorem dL_law_1211 : decode cL_law 1211 = .ok (.iadd, 1) := by decide +kernel
theorem dL_law_1212 : decode cL_law 1212 = .ok (.iaload, 1) := by decide +kernel
theorem dL_law_1213 : decode cL_law 1213 = .ok (.aload_n 0, 1) := by decide +kernel
theorem dL_law_1214 : decode cL_law 1214 = .ok (.iload 4, 2) := by decide +kernel
theorem dL_law_1216 : decode cL_law 1216 = .ok (.iconst 3, 1) := by decide +kernel
theorem dL_law_1217 : decode cL_law 1217 = .ok (.iadd, 1) := by decide +kernel
theorem dL_law_1218 : decode cL_law 1218 = .ok (.iaload, 1) := by decide +kernel
theorem dL_law_1219 : decode cL_law 1219 = .ok (.aload_n 0, 1) := by decide +kernel
theorem dL_law_1220 : decode cL_law 1220 = .ok (.iload 4, 2) := by decide +kernel
theorem dL_law_1222 : decode cL_law 1222 = .ok (.iconst 4, 1) := by decide +kernel
theorem dL_law_1223 : decode cL_law 1223 = .ok (.iadd, 1) := by decide +kernel
theorem dL_law_1224 : decode cL_law 1224 = .ok (.iaload, 1) := by decide +kernel
theorem dL_law_1225 : decode cL_law 1225 = .ok (.invokevirtual 142, 3) := by decide +kernel
theorem dL_law_1228 : decode cL_law 1228 = .ok (.istore 6, 2) := by decide +kernel
theorem dL_law_1230 : decode cL_law 1230 = .ok (.aload_n 2, 1) := by decide +kernel
theorem dL_law_1231 : decode cL_law 1231 = .ok (.invokevirtual 76, 3) := by decide +kernel
theorem dL_law_1234 : decode cL_law 1234 = .ok (.iload 5, 2) := by decide +kernel
theorem dL_law_1236 : decode cL_law 1236 = .ok (.if_icmp .eq 5, 3) := by decide +kernel
theorem dL_law_1239 : decode cL_law 1239 = .ok (.iconst 0, 1) := by decide +kernel
theorem dL_law_1240 : decode cL_law 1240 = .ok (.ireturn, 1) := by decide +kernel
theorem dL_law_1241 : decode cL_law 1241 = .ok (.iload 5, 2) := by decide +kernel
theorem dL_law_1243 : decode cL_law 1243 = .ok (.ifCond .ne 22, 3) := by decide +kernel
theorem dL_law_1246 : decode cL_law 1246 = .ok (.aload_n 3, 1) := by decide +kernel
theorem dL_law_1247 : decode cL_law 1247 = .ok (.iconst 0, 1) := by decide +kernel
theorem dL_law_1248 : decode cL_law 1248 = .ok (.laload, 1) := by decide +kernel
theorem dL_law_1249 : decode cL_law 1249 = .ok (.iload 6, 2) := by decide +kernel
theorem dL_law_1251 : decode cL_law 1251 = .ok (.ifCond .eq 7, 3) := by decide +kernel
theorem dL_law_1254 : decode cL_law 1254 = .ok (.lconst 1, 1) := by decide +kernel
theorem dL_law_1255 : decode cL_law 1255 = .ok (.goto 4, 3) := by decide +kernel
theorem dL_law_1258 : decode cL_law 1258 = .ok (.lconst 0, 1) := by decide +kernel
theorem dL_law_1259 : decode cL_law 1259 = .ok (.lcmp, 1) := by decide +kernel
theorem dL_law_1260 : decode cL_law 1260 = .ok (.ifCond .eq 5, 3) := by decide +kernel
theorem dL_law_1263 : decode cL_law 1263 = .ok (.iconst 0, 1) := by decide +kernel
theorem dL_law_1264 : decode cL_law 1264 = .ok (.ireturn, 1) := by decide +kernel
theorem dL_law_1265 : decode cL_law 1265 = .ok (.goto 97, 3) := by decide +kernel
theorem dL_law_1268 : decode cL_law 1268 = .ok (.aload_n 1, 1) := by decide +kernel
theorem dL_law_1269 : decode cL_law 1269 = .ok (.aload_n 0, 1) := by decide +kernel
theorem dL_law_1270 : decode cL_law 1270 = .ok (.iload 4, 2) := by decide +kernel
theorem dL_law_1272 : decode cL_law 1272 = .ok (.iconst 1, 1) := by decide +kernel
theorem dL_law_1273 : decode cL_law 1273 = .ok (.iadd, 1) := by decide +kernel
theorem dL_law_1274 : decode cL_law 1274 = .ok (.iaload, 1) := by decide +kernel
theorem dL_law_1275 : decode cL_law 1275 = .ok (.aload_n 3, 1) := by decide +kernel
theorem dL_law_1276 : decode cL_law 1276 = .ok (.invokestatic 143, 3) := by decide +kernel
theorem dL_law_1279 : decode cL_law 1279 = .ok (.istore 5, 2) := by decide +kernel
theorem dL_law_1281 : decode cL_law 1281 = .ok (.aload_n 2, 1) := by decide +kernel
theorem dL_law_1282 : decode cL_law 1282 = .ok (.aload_n 0, 1) := by decide +kernel
theorem dL_law_1283 : decode cL_law 1283 = .ok (.iload 4, 2) := by decide +kernel
theorem dL_law_1285 : decode cL_law 1285 = .ok (.iconst 1, 1) := by decide +kernel
theorem dL_law_1286 : decode cL_law 1286 = .ok (.iadd, 1) := by decide +kernel
theorem dL_law_1287 : decode cL_law 1287 = .ok (.iaload, 1) := by decide +kernel
theorem dL_law_1288 : decode cL_law 1288 = .ok (.invokevirtual 145, 3) := by decide +kernel
theorem dL_law_1291 : decode cL_law 1291 = .ok (.istore 6, 2) := by decide +kernel
theorem dL_law_1293 : decode cL_law 1293 = .ok (.aload_n 2, 1) := by decide +kernel
theorem dL_law_1294 : decode cL_law 1294 = .ok (.invokevirtual 76, 3) := by decide +kernel
theorem dL_law_1297 : decode cL_law 1297 = .ok (.iload 5, 2) := by decide +kernel
theorem dL_law_1299 : decode cL_law 1299 = .ok (.if_icmp .eq 5, 3) := by decide +kernel
theorem dL_law_1302 : decode cL_law 1302 = .ok (.iconst 0, 1) := by decide +kernel
theorem dL_law_1303 : decode cL_law 1303 = .ok (.ireturn, 1) := by decide +kernel
theorem dL_law_1304 : decode cL_law 1304 = .ok (.iload 5, 2) := by decide +kernel
theorem dL_law_1306 : decode cL_law 1306 = .ok (.ifCond .ne 15, 3) := by decide +kernel
theorem dL_law_1309 : decode cL_law 1309 = .ok (.aload_n 3, 1) := by decide +kernel
theorem dL_law_1310 : decode cL_law 1310 = .ok (.iconst 0, 1) := by decide +kernel
theorem dL_law_1311 : decode cL_law 1311 = .ok (.laload, 1) := by decide +kernel
theorem dL_law_1312 : decode cL_law 1312 = .ok (.iload 6, 2) := by decide +kernel
theorem dL_law_1314 : decode cL_law 1314 = .ok (.i2l, 1) := by decide +kernel
theorem dL_law_1315 : decode cL_law 1315 = .ok (.lcmp, 1) := by decide +kernel
theorem dL_law_1316 : decode cL_law 1316 = .ok (.ifCond .eq 5, 3) := by decide +kernel
theorem dL_law_1319 : decode cL_law 1319 = .ok (.iconst 0, 1) := by decide +kernel
theorem dL_law_1320 : decode cL_law 1320 = .ok (.ireturn, 1) := by decide +kernel
theorem dL_law_1321 : decode cL_law 1321 = .ok (.goto 41, 3) := by decide +kernel
theorem dL_law_1324 : decode cL_law 1324 = .ok (.aload_n 1, 1) := by decide +kernel
theorem dL_law_1325 : decode cL_law 1325 = .ok (.aload_n 0, 1) := by decide +kernel
theorem dL_law_1326 : decode cL_law 1326 = .ok (.iload 4, 2) := by decide +kernel
theorem dL_law_1328 : decode cL_law 1328 = .ok (.iconst 1, 1) := by decide +kernel
theorem dL_law_1329 : decode cL_law 1329 = .ok (.iadd, 1) := by decide +kernel
theorem dL_law_1330 : decode cL_law 1330 = .ok (.iaload, 1) := by decide +kernel
theorem dL_law_1331 : decode cL_law 1331 = .ok (.invokevirtual 146, 3) := by decide +kernel
theorem dL_law_1334 : decode cL_law 1334 = .ok (.aload_n 2, 1) := by decide +kernel
theorem dL_law_1335 : decode cL_law 1335 = .ok (.aload_n 0, 1) := by decide +kernel
theorem dL_law_1336 : decode cL_law 1336 = .ok (.iload 4, 2) := by decide +kernel
theorem dL_law_1338 : decode cL_law 1338 = .ok (.iconst 1, 1) := by decide +kernel
theorem dL_law_1339 : decode cL_law 1339 = .ok (.iadd, 1) := by decide +kernel
theorem dL_law_1340 : decode cL_law 1340 = .ok (.iaload, 1) := by decide +kernel
theorem dL_law_1341 : decode cL_law 1341 = .ok (.invokevirtual 149, 3) := by decide +kernel
theorem dL_law_1344 : decode cL_law 1344 = .ok (.if_icmp .eq 18, 3) := by decide +kernel
theorem dL_law_1347 : decode cL_law 1347 = .ok (.iconst 0, 1) := by decide +kernel
theorem dL_law_1348 : decode cL_law 1348 = .ok (.ireturn, 1) := by decide +kernel
theorem dL_law_1349 : decode cL_law 1349 = .ok (.aload_n 1, 1) := by decide +kernel
theorem dL_law_1350 : decode cL_law 1350 = .ok (.invokevirtual 150, 3) := by decide +kernel
theorem dL_law_1353 : decode cL_law 1353 = .ok (.aload_n 2, 1) := by decide +kernel
theorem dL_law_1354 : decode cL_law 1354 = .ok (.invokevirtual 153, 3) := by decide +kernel
theorem dL_law_1357 : decode cL_law 1357 = .ok (.if_icmp .eq 5, 3) := by decide +kernel
theorem dL_law_1360 : decode cL_law 1360 = .ok (.iconst 0, 1) := by decide +kernel
theorem dL_law_1361 : decode cL_law 1361 = .ok (.ireturn, 1) := by decide +kernel
theorem dL_law_1362 : decode cL_law 1362 = .ok (.iinc 4 5, 3) := by decide +kernel
theorem dL_law_1365 : decode cL_law 1365 = .ok (.goto (-1342), 3) := by decide +kernel
theorem dL_law_1368 : decode cL_law 1368 = .ok (.iconst 1, 1) := by decide +kernel
theorem dL_law_1369 : decode cL_law 1369 = .ok (.ireturn, 1) := by decide +kernel
