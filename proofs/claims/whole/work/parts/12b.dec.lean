theorem dX7_sinkToPlace_5 : decode cX7_sinkToPlace 5 = .ok (.aaload, 1) := by decide +kernel
theorem dX7_sinkToPlace_6 : decode cX7_sinkToPlace 6 = .ok (.astore_n 2, 1) := by decide +kernel
theorem dX7_sinkToPlace_7 : decode cX7_sinkToPlace 7 = .ok (.iload_n 1, 1) := by decide +kernel
theorem dX7_sinkToPlace_8 : decode cX7_sinkToPlace 8 = .ok (.istore_n 3, 1) := by decide +kernel
theorem dX7_sinkToPlace_9 : decode cX7_sinkToPlace 9 = .ok (.iload_n 3, 1) := by decide +kernel
theorem dX7_sinkToPlace_10 : decode cX7_sinkToPlace 10 = .ok (.ifCond .le 38, 3) := by decide +kernel
theorem dX7_sinkToPlace_13 : decode cX7_sinkToPlace 13 = .ok (.aload_n 0, 1) := by decide +kernel
theorem dX7_sinkToPlace_14 : decode cX7_sinkToPlace 14 = .ok (.getfield 11, 3) := by decide +kernel
theorem dX7_sinkToPlace_17 : decode cX7_sinkToPlace 17 = .ok (.iload_n 3, 1) := by decide +kernel
theorem dX7_sinkToPlace_18 : decode cX7_sinkToPlace 18 = .ok (.iconst 1, 1) := by decide +kernel
theorem dX7_sinkToPlace_19 : decode cX7_sinkToPlace 19 = .ok (.isub, 1) := by decide +kernel
theorem dX7_sinkToPlace_20 : decode cX7_sinkToPlace 20 = .ok (.aaload, 1) := by decide +kernel
theorem dX7_sinkToPlace_21 : decode cX7_sinkToPlace 21 = .ok (.aload_n 2, 1) := by decide +kernel
theorem dX7_sinkToPlace_22 : decode cX7_sinkToPlace 22 = .ok (.invokevirtual 89, 3) := by decide +kernel
theorem dX7_sinkToPlace_25 : decode cX7_sinkToPlace 25 = .ok (.ifCond .eq 23, 3) := by decide +kernel
theorem dX7_sinkToPlace_28 : decode cX7_sinkToPlace 28 = .ok (.aload_n 0, 1) := by decide +kernel
theorem dX7_sinkToPlace_29 : decode cX7_sinkToPlace 29 = .ok (.getfield 11, 3) := by decide +kernel
theorem dX7_sinkToPlace_32 : decode cX7_sinkToPlace 32 = .ok (.iload_n 3, 1) := by decide +kernel
theorem dX7_sinkToPlace_33 : decode cX7_sinkToPlace 33 = .ok (.aload_n 0, 1) := by decide +kernel
theorem dX7_sinkToPlace_34 : decode cX7_sinkToPlace 34 = .ok (.getfield 11, 3) := by decide +kernel
theorem dX7_sinkToPlace_37 : decode cX7_sinkToPlace 37 = .ok (.iload_n 3, 1) := by decide +kernel
theorem dX7_sinkToPlace_38 : decode cX7_sinkToPlace 38 = .ok (.iconst 1, 1) := by decide +kernel
theorem dX7_sinkToPlace_39 : decode cX7_sinkToPlace 39 = .ok (.isub, 1) := by decide +kernel
theorem dX7_sinkToPlace_40 : decode cX7_sinkToPlace 40 = .ok (.aaload, 1) := by decide +kernel
theorem dX7_sinkToPlace_41 : decode cX7_sinkToPlace 41 = .ok (.aastore, 1) := by decide +kernel
theorem dX7_sinkToPlace_42 : decode cX7_sinkToPlace 42 = .ok (.iinc 3 (-1), 3) := by decide +kernel
theorem dX7_sinkToPlace_45 : decode cX7_sinkToPlace 45 = .ok (.goto (-36), 3) := by decide +kernel
theorem dX7_sinkToPlace_48 : decode cX7_sinkToPlace 48 = .ok (.aload_n 0, 1) := by decide +kernel
theorem dX7_sinkToPlace_49 : decode cX7_sinkToPlace 49 = .ok (.getfield 11, 3) := by decide +kernel
theorem dX7_sinkToPlace_52 : decode cX7_sinkToPlace 52 = .ok (.iload_n 3, 1) := by decide +kernel
theorem dX7_sinkToPlace_53 : decode cX7_sinkToPlace 53 = .ok (.aload_n 2, 1) := by decide +kernel
theorem dX7_sinkToPlace_54 : decode cX7_sinkToPlace 54 = .ok (.aastore, 1) := by decide +kernel
theorem dX7_sinkToPlace_55 : decode cX7_sinkToPlace 55 = .ok (.return_, 1) := by decide +kernel
theorem dX7_pairWith_0 : decode cX7_pairWith 0 = .ok (.iconst 0, 1) := by decide +kernel
theorem dX7_pairWith_1 : decode cX7_pairWith 1 = .ok (.istore_n 2, 1) := by decide +kernel
theorem dX7_pairWith_2 : decode cX7_pairWith 2 = .ok (.iload_n 2, 1) := by decide +kernel
theorem dX7_pairWith_3 : decode cX7_pairWith 3 = .ok (.aload_n 0, 1) := by decide +kernel
theorem dX7_pairWith_4 : decode cX7_pairWith 4 = .ok (.getfield 27, 3) := by decide +kernel
theorem dX7_pairWith_7 : decode cX7_pairWith 7 = .ok (.if_icmp .ge 19, 3) := by decide +kernel
theorem dX7_pairWith_10 : decode cX7_pairWith 10 = .ok (.aload_n 0, 1) := by decide +kernel
theorem dX7_pairWith_11 : decode cX7_pairWith 11 = .ok (.getfield 11, 3) := by decide +kernel
theorem dX7_pairWith_14 : decode cX7_pairWith 14 = .ok (.iload_n 2, 1) := by decide +kernel
theorem dX7_pairWith_15 : decode cX7_pairWith 15 = .ok (.aaload, 1) := by decide +kernel
theorem dX7_pairWith_16 : decode cX7_pairWith 16 = .ok (.iconst (-1), 1) := by decide +kernel
theorem dX7_pairWith_17 : decode cX7_pairWith 17 = .ok (.putfield 93, 3) := by decide +kernel
theorem dX7_pairWith_20 : decode cX7_pairWith 20 = .ok (.iinc 2 1, 3) := by decide +kernel
theorem dX7_pairWith_23 : decode cX7_pairWith 23 = .ok (.goto (-21), 3) := by decide +kernel
theorem dX7_pairWith_26 : decode cX7_pairWith 26 = .ok (.iconst 0, 1) := by decide +kernel
theorem dX7_pairWith_27 : decode cX7_pairWith 27 = .ok (.istore_n 2, 1) := by decide +kernel
theorem dX7_pairWith_28 : decode cX7_pairWith 28 = .ok (.iconst 0, 1) := by decide +kernel
theorem dX7_pairWith_29 : decode cX7_pairWith 29 = .ok (.istore_n 3, 1) := by decide +kernel
theorem dX7_pairWith_30 : decode cX7_pairWith 30 = .ok (.iload_n 3, 1) := by decide +kernel
theorem dX7_pairWith_31 : decode cX7_pairWith 31 = .ok (.aload_n 1, 1) := by decide +kernel
theorem dX7_pairWith_32 : decode cX7_pairWith 32 = .ok (.getfield 27, 3) := by decide +kernel
theorem dX7_pairWith_35 : decode cX7_pairWith 35 = .ok (.if_icmp .ge 52, 3) := by decide +kernel
theorem dX7_pairWith_38 : decode cX7_pairWith 38 = .ok (.aload_n 0, 1) := by decide +kernel
theorem dX7_pairWith_39 : decode cX7_pairWith 39 = .ok (.aload_n 1, 1) := by decide +kernel
theorem dX7_pairWith_40 : decode cX7_pairWith 40 = .ok (.getfield 11, 3) := by decide +kernel
theorem dX7_pairWith_43 : decode cX7_pairWith 43 = .ok (.iload_n 3, 1) := by decide +kernel
theorem dX7_pairWith_44 : decode cX7_pairWith 44 = .ok (.aaload, 1) := by decide +kernel
theorem dX7_pairWith_45 : decode cX7_pairWith 45 = .ok (.invokevirtual 96, 3) := by decide +kernel
theorem dX7_pairWith_48 : decode cX7_pairWith 48 = .ok (.istore 4, 2) := by decide +kernel
theorem dX7_pairWith_50 : decode cX7_pairWith 50 = .ok (.aload_n 1, 1) := by decide +kernel
theorem dX7_pairWith_51 : decode cX7_pairWith 51 = .ok (.getfield 11, 3) := by decide +kernel
theorem dX7_pairWith_54 : decode cX7_pairWith 54 = .ok (.iload_n 3, 1) := by decide +kernel
theorem dX7_pairWith_55 : decode cX7_pairWith 55 = .ok (.aaload, 1) := by decide +kernel
theorem dX7_pairWith_56 : decode cX7_pairWith 56 = .ok (.iload 4, 2) := by decide +kernel
theorem dX7_pairWith_58 : decode cX7_pairWith 58 = .ok (.putfield 93, 3) := by decide +kernel
theorem dX7_pairWith_61 : decode cX7_pairWith 61 = .ok (.iload 4, 2) := by decide +kernel
theorem dX7_pairWith_63 : decode cX7_pairWith 63 = .ok (.iconst (-1), 1) := by decide +kernel
theorem dX7_pairWith_64 : decode cX7_pairWith 64 = .ok (.if_icmp .eq 17, 3) := by decide +kernel
theorem dX7_pairWith_67 : decode cX7_pairWith 67 = .ok (.aload_n 0, 1) := by decide +kernel
theorem dX7_pairWith_68 : decode cX7_pairWith 68 = .ok (.getfield 11, 3) := by decide +kernel
theorem dX7_pairWith_71 : decode cX7_pairWith 71 = .ok (.iload 4, 2) := by decide +kernel
theorem dX7_pairWith_73 : decode cX7_pairWith 73 = .ok (.aaload, 1) := by decide +kernel
theorem dX7_pairWith_74 : decode cX7_pairWith 74 = .ok (.iload_n 3, 1) := by decide +kernel
theorem dX7_pairWith_75 : decode cX7_pairWith 75 = .ok (.putfield 93, 3) := by decide +kernel
theorem dX7_pairWith_78 : decode cX7_pairWith 78 = .ok (.iinc 2 1, 3) := by decide +kernel
theorem dX7_pairWith_81 : decode cX7_pairWith 81 = .ok (.iinc 3 1, 3) := by decide +kernel
theorem dX7_pairWith_84 : decode cX7_pairWith 84 = .ok (.goto (-54), 3) := by decide +kernel
theorem dX7_pairWith_87 : decode cX7_pairWith 87 = .ok (.iload_n 2, 1) := by decide +kernel
theorem dX7_pairWith_88 : decode cX7_pairWith 88 = .ok (.ireturn, 1) := by decide +kernel
theorem dX7_firstFreeLike_0 : decode cX7_firstFreeLike 0 = .ok (.iconst 0, 1) := by decide +kernel
theorem dX7_firstFreeLike_1 : decode cX7_firstFreeLike 1 = .ok (.istore_n 2, 1) := by decide +kernel
theorem dX7_firstFreeLike_2 : decode cX7_firstFreeLike 2 = .ok (.iload_n 2, 1) := by decide +kernel
theorem dX7_firstFreeLike_3 : decode cX7_firstFreeLike 3 = .ok (.aload_n 0, 1) := by decide +kernel
theorem dX7_firstFreeLike_4 : decode cX7_firstFreeLike 4 = .ok (.getfield 27, 3) := by decide +kernel
theorem dX7_firstFreeLike_7 : decode cX7_firstFreeLike 7 = .ok (.if_icmp .ge 42, 3) := by decide +kernel
theorem dX7_firstFreeLike_10 : decode cX7_firstFreeLike 10 = .ok (.aload_n 0, 1) := by decide +kernel
theorem dX7_firstFreeLike_11 : decode cX7_firstFreeLike 11 = .ok (.getfield 11, 3) := by decide +kernel
theorem dX7_firstFreeLike_14 : decode cX7_firstFreeLike 14 = .ok (.iload_n 2, 1) := by decide +kernel
theorem dX7_firstFreeLike_15 : decode cX7_firstFreeLike 15 = .ok (.aaload, 1) := by decide +kernel
theorem dX7_firstFreeLike_16 : decode cX7_firstFreeLike 16 = .ok (.astore_n 3, 1) := by decide +kernel
theorem dX7_firstFreeLike_17 : decode cX7_firstFreeLike 17 = .ok (.aload_n 3, 1) := by decide +kernel
theorem dX7_firstFreeLike_18 : decode cX7_firstFreeLike 18 = .ok (.getfield 93, 3) := by decide +kernel
theorem dX7_firstFreeLike_21 : decode cX7_firstFreeLike 21 = .ok (.iconst (-1), 1) := by decide +kernel
theorem dX7_firstFreeLike_22 : decode cX7_firstFreeLike 22 = .ok (.if_icmp .ne 21, 3) := by decide +kernel
theorem dX7_firstFreeLike_25 : decode cX7_firstFreeLike 25 = .ok (.aload_n 3, 1) := by decide +kernel
theorem dX7_firstFreeLike_26 : decode cX7_firstFreeLike 26 = .ok (.aload_n 1, 1) := by decide +kernel
theorem dX7_firstFreeLike_27 : decode cX7_firstFreeLike 27 = .ok (.invokevirtual 100, 3) := by decide +kernel
theorem dX7_firstFreeLike_30 : decode cX7_firstFreeLike 30 = .ok (.ifCond .eq 13, 3) := by decide +kernel
theorem dX7_firstFreeLike_33 : decode cX7_firstFreeLike 33 = .ok (.aload_n 3, 1) := by decide +kernel
theorem dX7_firstFreeLike_34 : decode cX7_firstFreeLike 34 = .ok (.aload_n 1, 1) := by decide +kernel
theorem dX7_firstFreeLike_35 : decode cX7_firstFreeLike 35 = .ok (.invokevirtual 103, 3) := by decide +kernel
theorem dX7_firstFreeLike_38 : decode cX7_firstFreeLike 38 = .ok (.ifCond .eq 5, 3) := by decide +kernel
theorem dX7_firstFreeLike_41 : decode cX7_firstFreeLike 41 = .ok (.iload_n 2, 1) := by decide +kernel
theorem dX7_firstFreeLike_42 : decode cX7_firstFreeLike 42 = .ok (.ireturn, 1) := by decide +kernel
theorem dX7_firstFreeLike_43 : decode cX7_firstFreeLike 43 = .ok (.iinc 2 1, 3) := by decide +kernel
theorem dX7_firstFreeLike_46 : decode cX7_firstFreeLike 46 = .ok (.goto (-44), 3) := by decide +kernel
theorem dX7_firstFreeLike_49 : decode cX7_firstFreeLike 49 = .ok (.iconst (-1), 1) := by decide +kernel
theorem dX7_firstFreeLike_50 : decode cX7_firstFreeLike 50 = .ok (.ireturn, 1) := by decide +kernel
theorem dX7_takeAll_0 : decode cX7_takeAll 0 = .ok (.aload_n 0, 1) := by decide +kernel
theorem dX7_takeAll_1 : decode cX7_takeAll 1 = .ok (.getfield 22, 3) := by decide +kernel
theorem dX7_takeAll_4 : decode cX7_takeAll 4 = .ok (.getfield 34, 3) := by decide +kernel
theorem dX7_takeAll_7 : decode cX7_takeAll 7 = .ok (.istore_n 2, 1) := by decide +kernel
theorem dX7_takeAll_8 : decode cX7_takeAll 8 = .ok (.aload_n 0, 1) := by decide +kernel
theorem dX7_takeAll_9 : decode cX7_takeAll 9 = .ok (.getfield 22, 3) := by decide +kernel
theorem dX7_takeAll_12 : decode cX7_takeAll 12 = .ok (.aload_n 1, 1) := by decide +kernel
theorem dX7_takeAll_13 : decode cX7_takeAll 13 = .ok (.getfield 22, 3) := by decide +kernel
theorem dX7_takeAll_16 : decode cX7_takeAll 16 = .ok (.invokevirtual 51, 3) := by decide +kernel
theorem dX7_takeAll_19 : decode cX7_takeAll 19 = .ok (.iconst 0, 1) := by decide +kernel
theorem dX7_takeAll_20 : decode cX7_takeAll 20 = .ok (.istore_n 3, 1) := by decide +kernel
theorem dX7_takeAll_21 : decode cX7_takeAll 21 = .ok (.iload_n 3, 1) := by decide +kernel
theorem dX7_takeAll_22 : decode cX7_takeAll 22 = .ok (.aload_n 0, 1) := by decide +kernel
theorem dX7_takeAll_23 : decode cX7_takeAll 23 = .ok (.getfield 27, 3) := by decide +kernel
theorem dX7_takeAll_26 : decode cX7_takeAll 26 = .ok (.if_icmp .ge 26, 3) := by decide +kernel
theorem dX7_takeAll_29 : decode cX7_takeAll 29 = .ok (.aload_n 0, 1) := by decide +kernel
theorem dX7_takeAll_30 : decode cX7_takeAll 30 = .ok (.getfield 11, 3) := by decide +kernel
theorem dX7_takeAll_33 : decode cX7_takeAll 33 = .ok (.iload_n 3, 1) := by decide +kernel
theorem dX7_takeAll_34 : decode cX7_takeAll 34 = .ok (.aaload, 1) := by decide +kernel
theorem dX7_takeAll_35 : decode cX7_takeAll 35 = .ok (.iload_n 2, 1) := by decide +kernel
theorem dX7_takeAll_36 : decode cX7_takeAll 36 = .ok (.aload_n 0, 1) := by decide +kernel
theorem dX7_takeAll_37 : decode cX7_takeAll 37 = .ok (.getfield 22, 3) := by decide +kernel
theorem dX7_takeAll_40 : decode cX7_takeAll 40 = .ok (.getfield 34, 3) := by decide +kernel
theorem dX7_takeAll_43 : decode cX7_takeAll 43 = .ok (.invokestatic 106, 3) := by decide +kernel
theorem dX7_takeAll_46 : decode cX7_takeAll 46 = .ok (.iinc 3 1, 3) := by decide +kernel
theorem dX7_takeAll_49 : decode cX7_takeAll 49 = .ok (.goto (-28), 3) := by decide +kernel
theorem dX7_takeAll_52 : decode cX7_takeAll 52 = .ok (.iconst 0, 1) := by decide +kernel
theorem dX7_takeAll_53 : decode cX7_takeAll 53 = .ok (.istore_n 3, 1) := by decide +kernel
theorem dX7_takeAll_54 : decode cX7_takeAll 54 = .ok (.iload_n 3, 1) := by decide +kernel
theorem dX7_takeAll_55 : decode cX7_takeAll 55 = .ok (.aload_n 1, 1) := by decide +kernel
theorem dX7_takeAll_56 : decode cX7_takeAll 56 = .ok (.getfield 27, 3) := by decide +kernel
theorem dX7_takeAll_59 : decode cX7_takeAll 59 = .ok (.if_icmp .ge 118, 3) := by decide +kernel
theorem dX7_takeAll_62 : decode cX7_takeAll 62 = .ok (.aload_n 1, 1) := by decide +kernel
theorem dX7_takeAll_63 : decode cX7_takeAll 63 = .ok (.getfield 11, 3) := by decide +kernel
theorem dX7_takeAll_66 : decode cX7_takeAll 66 = .ok (.iload_n 3, 1) := by decide +kernel
theorem dX7_takeAll_67 : decode cX7_takeAll 67 = .ok (.aaload, 1) := by decide +kernel
theorem dX7_takeAll_68 : decode cX7_takeAll 68 = .ok (.astore 4, 2) := by decide +kernel
theorem dX7_takeAll_70 : decode cX7_takeAll 70 = .ok (.aload 4, 2) := by decide +kernel
theorem dX7_takeAll_72 : decode cX7_takeAll 72 = .ok (.getfield 93, 3) := by decide +kernel
theorem dX7_takeAll_75 : decode cX7_takeAll 75 = .ok (.istore 5, 2) := by decide +kernel
theorem dX7_takeAll_77 : decode cX7_takeAll 77 = .ok (.iload 5, 2) := by decide +kernel
theorem dX7_takeAll_79 : decode cX7_takeAll 79 = .ok (.ifCond .lt 35, 3) := by decide +kernel
theorem dX7_takeAll_82 : decode cX7_takeAll 82 = .ok (.iload 5, 2) := by decide +kernel
theorem dX7_takeAll_84 : decode cX7_takeAll 84 = .ok (.aload_n 0, 1) := by decide +kernel
theorem dX7_takeAll_85 : decode cX7_takeAll 85 = .ok (.getfield 27, 3) := by decide +kernel
theorem dX7_takeAll_88 : decode cX7_takeAll 88 = .ok (.if_icmp .ge 26, 3) := by decide +kernel
theorem dX7_takeAll_91 : decode cX7_takeAll 91 = .ok (.aload 4, 2) := by decide +kernel
theorem dX7_takeAll_93 : decode cX7_takeAll 93 = .ok (.aload_n 0, 1) := by decide +kernel
theorem dX7_takeAll_94 : decode cX7_takeAll 94 = .ok (.getfield 11, 3) := by decide +kernel
theorem dX7_takeAll_97 : decode cX7_takeAll 97 = .ok (.iload 5, 2) := by decide +kernel
theorem dX7_takeAll_99 : decode cX7_takeAll 99 = .ok (.aaload, 1) := by decide +kernel
theorem dX7_takeAll_100 : decode cX7_takeAll 100 = .ok (.iload_n 2, 1) := by decide +kernel
theorem dX7_takeAll_101 : decode cX7_takeAll 101 = .ok (.aload_n 1, 1) := by decide +kernel
theorem dX7_takeAll_102 : decode cX7_takeAll 102 = .ok (.getfield 22, 3) := by decide +kernel
theorem dX7_takeAll_105 : decode cX7_takeAll 105 = .ok (.getfield 34, 3) := by decide +kernel
theorem dX7_takeAll_108 : decode cX7_takeAll 108 = .ok (.invokestatic 109, 3) := by decide +kernel
theorem dX7_takeAll_111 : decode cX7_takeAll 111 = .ok (.goto 60, 3) := by decide +kernel
theorem dX7_takeAll_114 : decode cX7_takeAll 114 = .ok (.aload_n 0, 1) := by decide +kernel
theorem dX7_takeAll_115 : decode cX7_takeAll 115 = .ok (.getfield 27, 3) := by decide +kernel
theorem dX7_takeAll_118 : decode cX7_takeAll 118 = .ok (.bipush 60, 2) := by decide +kernel
theorem dX7_takeAll_120 : decode cX7_takeAll 120 = .ok (.if_icmp .ge 51, 3) := by decide +kernel
theorem dX7_takeAll_123 : decode cX7_takeAll 123 = .ok (.aload 4, 2) := by decide +kernel
theorem dX7_takeAll_125 : decode cX7_takeAll 125 = .ok (.aload 4, 2) := by decide +kernel
theorem dX7_takeAll_127 : decode cX7_takeAll 127 = .ok (.iload_n 2, 1) := by decide +kernel
theorem dX7_takeAll_128 : decode cX7_takeAll 128 = .ok (.aload_n 1, 1) := by decide +kernel
theorem dX7_takeAll_129 : decode cX7_takeAll 129 = .ok (.getfield 22, 3) := by decide +kernel
theorem dX7_takeAll_132 : decode cX7_takeAll 132 = .ok (.getfield 34, 3) := by decide +kernel
theorem dX7_takeAll_135 : decode cX7_takeAll 135 = .ok (.invokestatic 109, 3) := by decide +kernel
theorem dX7_takeAll_138 : decode cX7_takeAll 138 = .ok (.aload 4, 2) := by decide +kernel
theorem dX7_takeAll_140 : decode cX7_takeAll 140 = .ok (.iconst 0, 1) := by decide +kernel
theorem dX7_takeAll_141 : decode cX7_takeAll 141 = .ok (.iload_n 2, 1) := by decide +kernel
theorem dX7_takeAll_142 : decode cX7_takeAll 142 = .ok (.invokestatic 106, 3) := by decide +kernel
theorem dX7_takeAll_145 : decode cX7_takeAll 145 = .ok (.aload_n 0, 1) := by decide +kernel
theorem dX7_takeAll_146 : decode cX7_takeAll 146 = .ok (.getfield 11, 3) := by decide +kernel
theorem dX7_takeAll_149 : decode cX7_takeAll 149 = .ok (.aload_n 0, 1) := by decide +kernel
theorem dX7_takeAll_150 : decode cX7_takeAll 150 = .ok (.getfield 27, 3) := by decide +kernel
theorem dX7_takeAll_153 : decode cX7_takeAll 153 = .ok (.aload_n 1, 1) := by decide +kernel
theorem dX7_takeAll_154 : decode cX7_takeAll 154 = .ok (.getfield 11, 3) := by decide +kernel
theorem dX7_takeAll_157 : decode cX7_takeAll 157 = .ok (.iload_n 3, 1) := by decide +kernel
theorem dX7_takeAll_158 : decode cX7_takeAll 158 = .ok (.invokestatic 76, 3) := by decide +kernel
theorem dX7_takeAll_161 : decode cX7_takeAll 161 = .ok (.aload_n 0, 1) := by decide +kernel
theorem dX7_takeAll_162 : decode cX7_takeAll 162 = .ok (.dup, 1) := by decide +kernel
theorem dX7_takeAll_163 : decode cX7_takeAll 163 = .ok (.getfield 27, 3) := by decide +kernel
theorem dX7_takeAll_166 : decode cX7_takeAll 166 = .ok (.iconst 1, 1) := by decide +kernel
theorem dX7_takeAll_167 : decode cX7_takeAll 167 = .ok (.iadd, 1) := by decide +kernel
theorem dX7_takeAll_168 : decode cX7_takeAll 168 = .ok (.putfield 27, 3) := by decide +kernel
theorem dX7_takeAll_171 : decode cX7_takeAll 171 = .ok (.iinc 3 1, 3) := by decide +kernel
theorem dX7_takeAll_174 : decode cX7_takeAll 174 = .ok (.goto (-120), 3) := by decide +kernel
theorem dX7_takeAll_177 : decode cX7_takeAll 177 = .ok (.return_, 1) := by decide +kernel
theorem dX7_setNoCalls_0 : decode cX7_setNoCalls 0 = .ok (.iload_n 1, 1) := by decide +kernel
theorem dX7_setNoCalls_1 : decode cX7_setNoCalls 1 = .ok (.istore_n 3, 1) := by decide +kernel
theorem dX7_setNoCalls_2 : decode cX7_setNoCalls 2 = .ok (.iload_n 3, 1) := by decide +kernel
theorem dX7_setNoCalls_3 : decode cX7_setNoCalls 3 = .ok (.iload_n 2, 1) := by decide +kernel
theorem dX7_setNoCalls_4 : decode cX7_setNoCalls 4 = .ok (.if_icmp .ge 14, 3) := by decide +kernel
theorem dX7_setNoCalls_7 : decode cX7_setNoCalls 7 = .ok (.aload_n 0, 1) := by decide +kernel
theorem dX7_setNoCalls_8 : decode cX7_setNoCalls 8 = .ok (.iload_n 3, 1) := by decide +kernel
theorem dX7_setNoCalls_9 : decode cX7_setNoCalls 9 = .ok (.invokevirtual 113, 3) := by decide +kernel
theorem dX7_setNoCalls_12 : decode cX7_setNoCalls 12 = .ok (.iinc 3 1, 3) := by decide +kernel
theorem dX7_setNoCalls_15 : decode cX7_setNoCalls 15 = .ok (.goto (-13), 3) := by decide +kernel
theorem dX7_setNoCalls_18 : decode cX7_setNoCalls 18 = .ok (.return_, 1) := by decide +kernel
theorem dX7_moveCalls_0 : decode cX7_moveCalls 0 = .ok (.iload_n 3, 1) := by decide +kernel
theorem dX7_moveCalls_1 : decode cX7_moveCalls 1 = .ok (.iconst 1, 1) := by decide +kernel
theorem dX7_moveCalls_2 : decode cX7_moveCalls 2 = .ok (.isub, 1) := by decide +kernel
theorem dX7_moveCalls_3 : decode cX7_moveCalls 3 = .ok (.istore 4, 2) := by decide +kernel
theorem dX7_moveCalls_5 : decode cX7_moveCalls 5 = .ok (.iload 4, 2) := by decide +kernel
theorem dX7_moveCalls_7 : decode cX7_moveCalls 7 = .ok (.ifCond .lt 20, 3) := by decide +kernel
theorem dX7_moveCalls_10 : decode cX7_moveCalls 10 = .ok (.aload_n 1, 1) := by decide +kernel
theorem dX7_moveCalls_11 : decode cX7_moveCalls 11 = .ok (.iload 4, 2) := by decide +kernel
theorem dX7_moveCalls_13 : decode cX7_moveCalls 13 = .ok (.iload_n 2, 1) := by decide +kernel
theorem dX7_moveCalls_14 : decode cX7_moveCalls 14 = .ok (.iadd, 1) := by decide +kernel
theorem dX7_moveCalls_15 : decode cX7_moveCalls 15 = .ok (.aload_n 0, 1) := by decide +kernel
theorem dX7_moveCalls_16 : decode cX7_moveCalls 16 = .ok (.iload 4, 2) := by decide +kernel
theorem dX7_moveCalls_18 : decode cX7_moveCalls 18 = .ok (.invokevirtual 116, 3) := by decide +kernel
theorem dX7_moveCalls_21 : decode cX7_moveCalls 21 = .ok (.iinc 4 (-1), 3) := by decide +kernel
theorem dX7_moveCalls_24 : decode cX7_moveCalls 24 = .ok (.goto (-19), 3) := by decide +kernel
theorem dX7_moveCalls_27 : decode cX7_moveCalls 27 = .ok (.return_, 1) := by decide +kernel
theorem dX7_swap_0 : decode cX7_swap 0 = .ok (.aload_n 0, 1) := by decide +kernel
theorem dX7_swap_1 : decode cX7_swap 1 = .ok (.iload_n 1, 1) := by decide +kernel
theorem dX7_swap_2 : decode cX7_swap 2 = .ok (.aaload, 1) := by decide +kernel
theorem dX7_swap_3 : decode cX7_swap 3 = .ok (.astore 4, 2) := by decide +kernel
theorem dX7_swap_5 : decode cX7_swap 5 = .ok (.aload_n 0, 1) := by decide +kernel
theorem dX7_swap_6 : decode cX7_swap 6 = .ok (.iload_n 1, 1) := by decide +kernel
theorem dX7_swap_7 : decode cX7_swap 7 = .ok (.aload_n 2, 1) := by decide +kernel
theorem dX7_swap_8 : decode cX7_swap 8 = .ok (.iload_n 3, 1) := by decide +kernel
theorem dX7_swap_9 : decode cX7_swap 9 = .ok (.aaload, 1) := by decide +kernel
theorem dX7_swap_10 : decode cX7_swap 10 = .ok (.aastore, 1) := by decide +kernel
theorem dX7_swap_11 : decode cX7_swap 11 = .ok (.aload_n 2, 1) := by decide +kernel
theorem dX7_swap_12 : decode cX7_swap 12 = .ok (.iload_n 3, 1) := by decide +kernel
theorem dX7_swap_13 : decode cX7_swap 13 = .ok (.aload 4, 2) := by decide +kernel
theorem dX7_swap_15 : decode cX7_swap 15 = .ok (.aastore, 1) := by decide +kernel
theorem dX7_swap_16 : decode cX7_swap 16 = .ok (.return_, 1) := by decide +kernel
theorem dX7_writeTo_0 : decode cX7_writeTo 0 = .ok (.aload_n 1, 1) := by decide +kernel
theorem dX7_writeTo_1 : decode cX7_writeTo 1 = .ok (.ldc 120, 2) := by decide +kernel
theorem dX7_writeTo_3 : decode cX7_writeTo 3 = .ok (.invokevirtual 122, 3) := by decide +kernel
theorem dX7_writeTo_6 : decode cX7_writeTo 6 = .ok (.aload_n 1, 1) := by decide +kernel
theorem dX7_writeTo_7 : decode cX7_writeTo 7 = .ok (.bipush 10, 2) := by decide +kernel
theorem dX7_writeTo_9 : decode cX7_writeTo 9 = .ok (.invokevirtual 128, 3) := by decide +kernel
theorem dX7_writeTo_12 : decode cX7_writeTo 12 = .ok (.aload_n 1, 1) := by decide +kernel
theorem dX7_writeTo_13 : decode cX7_writeTo 13 = .ok (.ldc 131, 2) := by decide +kernel
theorem dX7_writeTo_15 : decode cX7_writeTo 15 = .ok (.invokevirtual 122, 3) := by decide +kernel
theorem dX7_writeTo_18 : decode cX7_writeTo 18 = .ok (.aload_n 0, 1) := by decide +kernel
theorem dX7_writeTo_19 : decode cX7_writeTo 19 = .ok (.getfield 22, 3) := by decide +kernel
theorem dX7_writeTo_22 : decode cX7_writeTo 22 = .ok (.getfield 34, 3) := by decide +kernel
theorem dX7_writeTo_25 : decode cX7_writeTo 25 = .ok (.ifCond .le 15, 3) := by decide +kernel
theorem dX7_writeTo_28 : decode cX7_writeTo 28 = .ok (.aload_n 1, 1) := by decide +kernel
theorem dX7_writeTo_29 : decode cX7_writeTo 29 = .ok (.bipush 9, 2) := by decide +kernel
theorem dX7_writeTo_31 : decode cX7_writeTo 31 = .ok (.invokevirtual 128, 3) := by decide +kernel
theorem dX7_writeTo_34 : decode cX7_writeTo 34 = .ok (.aload_n 1, 1) := by decide +kernel
theorem dX7_writeTo_35 : decode cX7_writeTo 35 = .ok (.ldc 133, 2) := by decide +kernel
theorem dX7_writeTo_37 : decode cX7_writeTo 37 = .ok (.invokevirtual 122, 3) := by decide +kernel
theorem dX7_writeTo_40 : decode cX7_writeTo 40 = .ok (.iconst 0, 1) := by decide +kernel
theorem dX7_writeTo_41 : decode cX7_writeTo 41 = .ok (.istore_n 3, 1) := by decide +kernel
theorem dX7_writeTo_42 : decode cX7_writeTo 42 = .ok (.iload_n 3, 1) := by decide +kernel
theorem dX7_writeTo_43 : decode cX7_writeTo 43 = .ok (.aload_n 0, 1) := by decide +kernel
theorem dX7_writeTo_44 : decode cX7_writeTo 44 = .ok (.getfield 22, 3) := by decide +kernel
theorem dX7_writeTo_47 : decode cX7_writeTo 47 = .ok (.getfield 34, 3) := by decide +kernel
theorem dX7_writeTo_50 : decode cX7_writeTo 50 = .ok (.if_icmp .ge 24, 3) := by decide +kernel
theorem dX7_writeTo_53 : decode cX7_writeTo 53 = .ok (.aload_n 1, 1) := by decide +kernel
theorem dX7_writeTo_54 : decode cX7_writeTo 54 = .ok (.bipush 9, 2) := by decide +kernel
theorem dX7_writeTo_56 : decode cX7_writeTo 56 = .ok (.invokevirtual 128, 3) := by decide +kernel
theorem dX7_writeTo_59 : decode cX7_writeTo 59 = .ok (.aload_n 0, 1) := by decide +kernel
theorem dX7_writeTo_60 : decode cX7_writeTo 60 = .ok (.getfield 22, 3) := by decide +kernel
theorem dX7_writeTo_63 : decode cX7_writeTo 63 = .ok (.iload_n 3, 1) := by decide +kernel
theorem dX7_writeTo_64 : decode cX7_writeTo 64 = .ok (.aload_n 1, 1) := by decide +kernel
theorem dX7_writeTo_65 : decode cX7_writeTo 65 = .ok (.invokevirtual 135, 3) := by decide +kernel
theorem dX7_writeTo_68 : decode cX7_writeTo 68 = .ok (.iinc 3 1, 3) := by decide +kernel
theorem dX7_writeTo_71 : decode cX7_writeTo 71 = .ok (.goto (-29), 3) := by decide +kernel
theorem dX7_writeTo_74 : decode cX7_writeTo 74 = .ok (.aload_n 1, 1) := by decide +kernel
theorem dX7_writeTo_75 : decode cX7_writeTo 75 = .ok (.bipush 10, 2) := by decide +kernel
theorem dX7_writeTo_77 : decode cX7_writeTo 77 = .ok (.invokevirtual 128, 3) := by decide +kernel
theorem dX7_writeTo_80 : decode cX7_writeTo 80 = .ok (.iconst 0, 1) := by decide +kernel
theorem dX7_writeTo_81 : decode cX7_writeTo 81 = .ok (.istore_n 3, 1) := by decide +kernel
theorem dX7_writeTo_82 : decode cX7_writeTo 82 = .ok (.iload_n 3, 1) := by decide +kernel
theorem dX7_writeTo_83 : decode cX7_writeTo 83 = .ok (.aload_n 0, 1) := by decide +kernel
theorem dX7_writeTo_84 : decode cX7_writeTo 84 = .ok (.getfield 27, 3) := by decide +kernel
theorem dX7_writeTo_87 : decode cX7_writeTo 87 = .ok (.if_icmp .ge 27, 3) := by decide +kernel
theorem dX7_writeTo_90 : decode cX7_writeTo 90 = .ok (.aload_n 0, 1) := by decide +kernel
theorem dX7_writeTo_91 : decode cX7_writeTo 91 = .ok (.getfield 11, 3) := by decide +kernel
theorem dX7_writeTo_94 : decode cX7_writeTo 94 = .ok (.iload_n 3, 1) := by decide +kernel
theorem dX7_writeTo_95 : decode cX7_writeTo 95 = .ok (.aaload, 1) := by decide +kernel
theorem dX7_writeTo_96 : decode cX7_writeTo 96 = .ok (.aload_n 1, 1) := by decide +kernel
theorem dX7_writeTo_97 : decode cX7_writeTo 97 = .ok (.aload_n 0, 1) := by decide +kernel
theorem dX7_writeTo_98 : decode cX7_writeTo 98 = .ok (.getfield 22, 3) := by decide +kernel
theorem dX7_writeTo_101 : decode cX7_writeTo 101 = .ok (.getfield 34, 3) := by decide +kernel
theorem dX7_writeTo_104 : decode cX7_writeTo 104 = .ok (.aload_n 2, 1) := by decide +kernel
theorem dX7_writeTo_105 : decode cX7_writeTo 105 = .ok (.invokevirtual 139, 3) := by decide +kernel
theorem dX7_writeTo_108 : decode cX7_writeTo 108 = .ok (.iinc 3 1, 3) := by decide +kernel
theorem dX7_writeTo_111 : decode cX7_writeTo 111 = .ok (.goto (-29), 3) := by decide +kernel
theorem dX7_writeTo_114 : decode cX7_writeTo 114 = .ok (.return_, 1) := by decide +kernel
theorem dX8_init_0 : decode cX8_init 0 = .ok (.aload_n 0, 1) := by decide +kernel
theorem dX8_init_1 : decode cX8_init 1 = .ok (.invokespecial 3, 3) := by decide +kernel
theorem dX8_init_4 : decode cX8_init 4 = .ok (.aload_n 0, 1) := by decide +kernel
theorem dX8_init_5 : decode cX8_init 5 = .ok (.aload_n 1, 1) := by decide +kernel
theorem dX8_init_6 : decode cX8_init 6 = .ok (.putfield 9, 3) := by decide +kernel
theorem dX8_init_9 : decode cX8_init 9 = .ok (.aload_n 0, 1) := by decide +kernel
theorem dX8_init_10 : decode cX8_init 10 = .ok (.aload_n 2, 1) := by decide +kernel
theorem dX8_init_11 : decode cX8_init 11 = .ok (.putfield 15, 3) := by decide +kernel
theorem dX8_init_14 : decode cX8_init 14 = .ok (.aload_n 0, 1) := by decide +kernel
theorem dX8_init_15 : decode cX8_init 15 = .ok (.aload_n 3, 1) := by decide +kernel
theorem dX8_init_16 : decode cX8_init 16 = .ok (.putfield 19, 3) := by decide +kernel
theorem dX8_init_19 : decode cX8_init 19 = .ok (.aload_n 0, 1) := by decide +kernel
theorem dX8_init_20 : decode cX8_init 20 = .ok (.bipush 13, 2) := by decide +kernel
theorem dX8_init_22 : decode cX8_init 22 = .ok (.newarray .int, 2) := by decide +kernel
theorem dX8_init_24 : decode cX8_init 24 = .ok (.putfield 23, 3) := by decide +kernel
theorem dX8_init_27 : decode cX8_init 27 = .ok (.return_, 1) := by decide +kernel
theorem dX8_run_0 : decode cX8_run 0 = .ok (.aload_n 0, 1) := by decide +kernel
theorem dX8_run_1 : decode cX8_run 1 = .ok (.getfield 19, 3) := by decide +kernel
theorem dX8_run_4 : decode cX8_run 4 = .ok (.invokevirtual 27, 3) := by decide +kernel
theorem dX8_run_7 : decode cX8_run 7 = .ok (.aload_n 0, 1) := by decide +kernel
theorem dX8_run_8 : decode cX8_run 8 = .ok (.invokevirtual 32, 3) := by decide +kernel
theorem dX8_run_11 : decode cX8_run 11 = .ok (.ifCond .eq 10, 3) := by decide +kernel
theorem dX8_run_14 : decode cX8_run 14 = .ok (.aload_n 0, 1) := by decide +kernel
theorem dX8_run_15 : decode cX8_run 15 = .ok (.invokevirtual 36, 3) := by decide +kernel
theorem dX8_run_18 : decode cX8_run 18 = .ok (.ifCond .ne 5, 3) := by decide +kernel
theorem dX8_run_21 : decode cX8_run 21 = .ok (.iconst 0, 1) := by decide +kernel
theorem dX8_run_22 : decode cX8_run 22 = .ok (.ireturn, 1) := by decide +kernel
theorem dX8_run_23 : decode cX8_run 23 = .ok (.aload_n 0, 1) := by decide +kernel
theorem dX8_run_24 : decode cX8_run 24 = .ok (.getfield 39, 3) := by decide +kernel
theorem dX8_run_27 : decode cX8_run 27 = .ok (.istore_n 1, 1) := by decide +kernel
theorem dX8_run_28 : decode cX8_run 28 = .ok (.iconst 0, 1) := by decide +kernel
theorem dX8_run_29 : decode cX8_run 29 = .ok (.istore_n 2, 1) := by decide +kernel
theorem dX8_run_30 : decode cX8_run 30 = .ok (.iload_n 2, 1) := by decide +kernel
theorem dX8_run_31 : decode cX8_run 31 = .ok (.bipush 60, 2) := by decide +kernel
theorem dX8_run_33 : decode cX8_run 33 = .ok (.if_icmp .gt 115, 3) := by decide +kernel
theorem dX8_run_36 : decode cX8_run 36 = .ok (.aload_n 0, 1) := by decide +kernel
theorem dX8_run_37 : decode cX8_run 37 = .ok (.getfield 43, 3) := by decide +kernel
theorem dX8_run_40 : decode cX8_run 40 = .ok (.aload_n 0, 1) := by decide +kernel
theorem dX8_run_41 : decode cX8_run 41 = .ok (.getfield 9, 3) := by decide +kernel
theorem dX8_run_44 : decode cX8_run 44 = .ok (.getfield 46, 3) := by decide +kernel
theorem dX8_run_47 : decode cX8_run 47 = .ok (.if_icmp .ge 101, 3) := by decide +kernel
theorem dX8_run_50 : decode cX8_run 50 = .ok (.aload_n 0, 1) := by decide +kernel
theorem dX8_run_51 : decode cX8_run 51 = .ok (.invokevirtual 51, 3) := by decide +kernel
theorem dX8_run_54 : decode cX8_run 54 = .ok (.ifCond .ne 5, 3) := by decide +kernel
theorem dX8_run_57 : decode cX8_run 57 = .ok (.iconst 0, 1) := by decide +kernel
theorem dX8_run_58 : decode cX8_run 58 = .ok (.ireturn, 1) := by decide +kernel
theorem dX8_run_59 : decode cX8_run 59 = .ok (.iload_n 2, 1) := by decide +kernel
theorem dX8_run_60 : decode cX8_run 60 = .ok (.bipush 60, 2) := by decide +kernel
theorem dX8_run_62 : decode cX8_run 62 = .ok (.if_icmp .ne 14, 3) := by decide +kernel
theorem dX8_run_65 : decode cX8_run 65 = .ok (.aload_n 0, 1) := by decide +kernel
theorem dX8_run_66 : decode cX8_run 66 = .ok (.bipush 6, 2) := by decide +kernel
theorem dX8_run_68 : decode cX8_run 68 = .ok (.aload_n 0, 1) := by decide +kernel
theorem dX8_run_69 : decode cX8_run 69 = .ok (.getfield 54, 3) := by decide +kernel
theorem dX8_run_72 : decode cX8_run 72 = .ok (.invokevirtual 57, 3) := by decide +kernel
theorem dX8_run_75 : decode cX8_run 75 = .ok (.ireturn, 1) := by decide +kernel
theorem dX8_run_76 : decode cX8_run 76 = .ok (.aload_n 0, 1) := by decide +kernel
theorem dX8_run_77 : decode cX8_run 77 = .ok (.invokevirtual 61, 3) := by decide +kernel
theorem dX8_run_80 : decode cX8_run 80 = .ok (.aload_n 0, 1) := by decide +kernel
theorem dX8_run_81 : decode cX8_run 81 = .ok (.getfield 39, 3) := by decide +kernel
theorem dX8_run_84 : decode cX8_run 84 = .ok (.iload_n 1, 1) := by decide +kernel
theorem dX8_run_85 : decode cX8_run 85 = .ok (.if_icmp .eq 13, 3) := by decide +kernel
theorem dX8_run_88 : decode cX8_run 88 = .ok (.aload_n 0, 1) := by decide +kernel
theorem dX8_run_89 : decode cX8_run 89 = .ok (.iconst 3, 1) := by decide +kernel
theorem dX8_run_90 : decode cX8_run 90 = .ok (.aload_n 0, 1) := by decide +kernel
theorem dX8_run_91 : decode cX8_run 91 = .ok (.getfield 54, 3) := by decide +kernel
theorem dX8_run_94 : decode cX8_run 94 = .ok (.invokevirtual 57, 3) := by decide +kernel
theorem dX8_run_97 : decode cX8_run 97 = .ok (.ireturn, 1) := by decide +kernel
theorem dX8_run_98 : decode cX8_run 98 = .ok (.aload_n 0, 1) := by decide +kernel
theorem dX8_run_99 : decode cX8_run 99 = .ok (.aload_n 0, 1) := by decide +kernel
theorem dX8_run_100 : decode cX8_run 100 = .ok (.getfield 19, 3) := by decide +kernel
theorem dX8_run_103 : decode cX8_run 103 = .ok (.getfield 64, 3) := by decide +kernel
theorem dX8_run_106 : decode cX8_run 106 = .ok (.iload_n 2, 1) := by decide +kernel
theorem dX8_run_107 : decode cX8_run 107 = .ok (.aaload, 1) := by decide +kernel
theorem dX8_run_108 : decode cX8_run 108 = .ok (.invokevirtual 68, 3) := by decide +kernel
theorem dX8_run_111 : decode cX8_run 111 = .ok (.ifCond .eq 19, 3) := by decide +kernel
theorem dX8_run_114 : decode cX8_run 114 = .ok (.aload_n 0, 1) := by decide +kernel
theorem dX8_run_115 : decode cX8_run 115 = .ok (.aload_n 0, 1) := by decide +kernel
theorem dX8_run_116 : decode cX8_run 116 = .ok (.getfield 19, 3) := by decide +kernel
theorem dX8_run_119 : decode cX8_run 119 = .ok (.getfield 64, 3) := by decide +kernel
theorem dX8_run_122 : decode cX8_run 122 = .ok (.iload_n 2, 1) := by decide +kernel
theorem dX8_run_123 : decode cX8_run 123 = .ok (.aaload, 1) := by decide +kernel
theorem dX8_run_124 : decode cX8_run 124 = .ok (.invokevirtual 72, 3) := by decide +kernel
theorem dX8_run_127 : decode cX8_run 127 = .ok (.ifCond .ne 5, 3) := by decide +kernel
theorem dX8_run_130 : decode cX8_run 130 = .ok (.iconst 0, 1) := by decide +kernel
theorem dX8_run_131 : decode cX8_run 131 = .ok (.ireturn, 1) := by decide +kernel
theorem dX8_run_132 : decode cX8_run 132 = .ok (.aload_n 0, 1) := by decide +kernel
theorem dX8_run_133 : decode cX8_run 133 = .ok (.getfield 19, 3) := by decide +kernel
theorem dX8_run_136 : decode cX8_run 136 = .ok (.iload_n 2, 1) := by decide +kernel
theorem dX8_run_137 : decode cX8_run 137 = .ok (.iconst 1, 1) := by decide +kernel
theorem dX8_run_138 : decode cX8_run 138 = .ok (.iadd, 1) := by decide +kernel
theorem dX8_run_139 : decode cX8_run 139 = .ok (.putfield 75, 3) := by decide +kernel
theorem dX8_run_142 : decode cX8_run 142 = .ok (.iinc 2 1, 3) := by decide +kernel
theorem dX8_run_145 : decode cX8_run 145 = .ok (.goto (-115), 3) := by decide +kernel
theorem dX8_run_148 : decode cX8_run 148 = .ok (.iconst 1, 1) := by decide +kernel
theorem dX8_run_149 : decode cX8_run 149 = .ok (.ireturn, 1) := by decide +kernel
theorem dX8_fail_0 : decode cX8_fail 0 = .ok (.aload_n 0, 1) := by decide +kernel
theorem dX8_fail_1 : decode cX8_fail 1 = .ok (.iload_n 1, 1) := by decide +kernel
theorem dX8_fail_2 : decode cX8_fail 2 = .ok (.putfield 76, 3) := by decide +kernel
theorem dX8_fail_5 : decode cX8_fail 5 = .ok (.aload_n 0, 1) := by decide +kernel
theorem dX8_fail_6 : decode cX8_fail 6 = .ok (.iload_n 2, 1) := by decide +kernel
theorem dX8_fail_7 : decode cX8_fail 7 = .ok (.putfield 79, 3) := by decide +kernel
theorem dX8_fail_10 : decode cX8_fail 10 = .ok (.iconst 0, 1) := by decide +kernel
theorem dX8_fail_11 : decode cX8_fail 11 = .ok (.ireturn, 1) := by decide +kernel
theorem dX8_takeLine_0 : decode cX8_takeLine 0 = .ok (.aload_n 0, 1) := by decide +kernel
theorem dX8_takeLine_1 : decode cX8_takeLine 1 = .ok (.aload_n 0, 1) := by decide +kernel
theorem dX8_takeLine_2 : decode cX8_takeLine 2 = .ok (.getfield 43, 3) := by decide +kernel
theorem dX8_takeLine_5 : decode cX8_takeLine 5 = .ok (.putfield 54, 3) := by decide +kernel
theorem dX8_takeLine_8 : decode cX8_takeLine 8 = .ok (.aload_n 0, 1) := by decide +kernel
theorem dX8_takeLine_9 : decode cX8_takeLine 9 = .ok (.aload_n 0, 1) := by decide +kernel
theorem dX8_takeLine_10 : decode cX8_takeLine 10 = .ok (.getfield 9, 3) := by decide +kernel
theorem dX8_takeLine_13 : decode cX8_takeLine 13 = .ok (.bipush 10, 2) := by decide +kernel
theorem dX8_takeLine_15 : decode cX8_takeLine 15 = .ok (.aload_n 0, 1) := by decide +kernel
theorem dX8_takeLine_16 : decode cX8_takeLine 16 = .ok (.getfield 54, 3) := by decide +kernel
theorem dX8_takeLine_19 : decode cX8_takeLine 19 = .ok (.invokevirtual 82, 3) := by decide +kernel
theorem dX8_takeLine_22 : decode cX8_takeLine 22 = .ok (.putfield 86, 3) := by decide +kernel
theorem dX8_takeLine_25 : decode cX8_takeLine 25 = .ok (.aload_n 0, 1) := by decide +kernel
theorem dX8_takeLine_26 : decode cX8_takeLine 26 = .ok (.getfield 86, 3) := by decide +kernel
theorem dX8_takeLine_29 : decode cX8_takeLine 29 = .ok (.iconst (-1), 1) := by decide +kernel
theorem dX8_takeLine_30 : decode cX8_takeLine 30 = .ok (.if_icmp .ne 16, 3) := by decide +kernel
theorem dX8_takeLine_33 : decode cX8_takeLine 33 = .ok (.aload_n 0, 1) := by decide +kernel
theorem dX8_takeLine_34 : decode cX8_takeLine 34 = .ok (.iconst 1, 1) := by decide +kernel
theorem dX8_takeLine_35 : decode cX8_takeLine 35 = .ok (.aload_n 0, 1) := by decide +kernel
theorem dX8_takeLine_36 : decode cX8_takeLine 36 = .ok (.getfield 9, 3) := by decide +kernel
theorem dX8_takeLine_39 : decode cX8_takeLine 39 = .ok (.getfield 46, 3) := by decide +kernel
theorem dX8_takeLine_42 : decode cX8_takeLine 42 = .ok (.invokevirtual 57, 3) := by decide +kernel
theorem dX8_takeLine_45 : decode cX8_takeLine 45 = .ok (.ireturn, 1) := by decide +kernel
theorem dX8_takeLine_46 : decode cX8_takeLine 46 = .ok (.aload_n 0, 1) := by decide +kernel
theorem dX8_takeLine_47 : decode cX8_takeLine 47 = .ok (.aload_n 0, 1) := by decide +kernel
theorem dX8_takeLine_48 : decode cX8_takeLine 48 = .ok (.getfield 86, 3) := by decide +kernel
theorem dX8_takeLine_51 : decode cX8_takeLine 51 = .ok (.iconst 1, 1) := by decide +kernel
theorem dX8_takeLine_52 : decode cX8_takeLine 52 = .ok (.iadd, 1) := by decide +kernel
theorem dX8_takeLine_53 : decode cX8_takeLine 53 = .ok (.putfield 43, 3) := by decide +kernel
theorem dX8_takeLine_56 : decode cX8_takeLine 56 = .ok (.iconst 1, 1) := by decide +kernel
theorem dX8_takeLine_57 : decode cX8_takeLine 57 = .ok (.ireturn, 1) := by decide +kernel
theorem dX8_takeFirstLine_0 : decode cX8_takeFirstLine 0 = .ok (.aload_n 0, 1) := by decide +kernel
theorem dX8_takeFirstLine_1 : decode cX8_takeFirstLine 1 = .ok (.invokevirtual 51, 3) := by decide +kernel
theorem dX8_takeFirstLine_4 : decode cX8_takeFirstLine 4 = .ok (.ifCond .eq 39, 3) := by decide +kernel
theorem dX8_takeFirstLine_7 : decode cX8_takeFirstLine 7 = .ok (.aload_n 0, 1) := by decide +kernel
theorem dX8_takeFirstLine_8 : decode cX8_takeFirstLine 8 = .ok (.getfield 9, 3) := by decide +kernel
theorem dX8_takeFirstLine_11 : decode cX8_takeFirstLine 11 = .ok (.aload_n 0, 1) := by decide +kernel
theorem dX8_takeFirstLine_12 : decode cX8_takeFirstLine 12 = .ok (.getfield 54, 3) := by decide +kernel
theorem dX8_takeFirstLine_15 : decode cX8_takeFirstLine 15 = .ok (.aload_n 0, 1) := by decide +kernel
theorem dX8_takeFirstLine_16 : decode cX8_takeFirstLine 16 = .ok (.getfield 86, 3) := by decide +kernel
theorem dX8_takeFirstLine_19 : decode cX8_takeFirstLine 19 = .ok (.ldc 89, 2) := by decide +kernel
theorem dX8_takeFirstLine_21 : decode cX8_takeFirstLine 21 = .ok (.invokevirtual 91, 3) := by decide +kernel
theorem dX8_takeFirstLine_24 : decode cX8_takeFirstLine 24 = .ok (.ifCond .ne 15, 3) := by decide +kernel
theorem dX8_takeFirstLine_27 : decode cX8_takeFirstLine 27 = .ok (.aload_n 0, 1) := by decide +kernel
theorem dX8_takeFirstLine_28 : decode cX8_takeFirstLine 28 = .ok (.iconst 2, 1) := by decide +kernel
theorem dX8_takeFirstLine_29 : decode cX8_takeFirstLine 29 = .ok (.aload_n 0, 1) := by decide +kernel
theorem dX8_takeFirstLine_30 : decode cX8_takeFirstLine 30 = .ok (.getfield 54, 3) := by decide +kernel
theorem dX8_takeFirstLine_33 : decode cX8_takeFirstLine 33 = .ok (.invokevirtual 57, 3) := by decide +kernel
theorem dX8_takeFirstLine_36 : decode cX8_takeFirstLine 36 = .ok (.ifCond .eq 7, 3) := by decide +kernel
theorem dX8_takeFirstLine_39 : decode cX8_takeFirstLine 39 = .ok (.iconst 1, 1) := by decide +kernel
theorem dX8_takeFirstLine_40 : decode cX8_takeFirstLine 40 = .ok (.goto 4, 3) := by decide +kernel
theorem dX8_takeFirstLine_43 : decode cX8_takeFirstLine 43 = .ok (.iconst 0, 1) := by decide +kernel
theorem dX8_takeFirstLine_44 : decode cX8_takeFirstLine 44 = .ok (.ireturn, 1) := by decide +kernel
theorem dX8_takeLinesToHead_0 : decode cX8_takeLinesToHead 0 = .ok (.iconst 0, 1) := by decide +kernel
theorem dX8_takeLinesToHead_1 : decode cX8_takeLinesToHead 1 = .ok (.istore_n 1, 1) := by decide +kernel
theorem dX8_takeLinesToHead_2 : decode cX8_takeLinesToHead 2 = .ok (.iload_n 1, 1) := by decide +kernel
theorem dX8_takeLinesToHead_3 : decode cX8_takeLinesToHead 3 = .ok (.sipush 8000, 3) := by decide +kernel
theorem dX8_takeLinesToHead_6 : decode cX8_takeLinesToHead 6 = .ok (.if_icmp .gt 63, 3) := by decide +kernel
theorem dX8_takeLinesToHead_9 : decode cX8_takeLinesToHead 9 = .ok (.aload_n 0, 1) := by decide +kernel
theorem dX8_takeLinesToHead_10 : decode cX8_takeLinesToHead 10 = .ok (.invokevirtual 51, 3) := by decide +kernel
theorem dX8_takeLinesToHead_13 : decode cX8_takeLinesToHead 13 = .ok (.ifCond .ne 5, 3) := by decide +kernel
theorem dX8_takeLinesToHead_16 : decode cX8_takeLinesToHead 16 = .ok (.iconst 0, 1) := by decide +kernel
theorem dX8_takeLinesToHead_17 : decode cX8_takeLinesToHead 17 = .ok (.ireturn, 1) := by decide +kernel
theorem dX8_takeLinesToHead_18 : decode cX8_takeLinesToHead 18 = .ok (.aload_n 0, 1) := by decide +kernel
theorem dX8_takeLinesToHead_19 : decode cX8_takeLinesToHead 19 = .ok (.getfield 9, 3) := by decide +kernel
theorem dX8_takeLinesToHead_22 : decode cX8_takeLinesToHead 22 = .ok (.aload_n 0, 1) := by decide +kernel
theorem dX8_takeLinesToHead_23 : decode cX8_takeLinesToHead 23 = .ok (.getfield 54, 3) := by decide +kernel
theorem dX8_takeLinesToHead_26 : decode cX8_takeLinesToHead 26 = .ok (.ldc 95, 2) := by decide +kernel
theorem dX8_takeLinesToHead_28 : decode cX8_takeLinesToHead 28 = .ok (.invokevirtual 97, 3) := by decide +kernel
theorem dX8_takeLinesToHead_31 : decode cX8_takeLinesToHead 31 = .ok (.ifCond .ne 32, 3) := by decide +kernel
theorem dX8_takeLinesToHead_34 : decode cX8_takeLinesToHead 34 = .ok (.aload_n 0, 1) := by decide +kernel
theorem dX8_takeLinesToHead_35 : decode cX8_takeLinesToHead 35 = .ok (.invokevirtual 61, 3) := by decide +kernel
theorem dX8_takeLinesToHead_38 : decode cX8_takeLinesToHead 38 = .ok (.aload_n 0, 1) := by decide +kernel
theorem dX8_takeLinesToHead_39 : decode cX8_takeLinesToHead 39 = .ok (.invokevirtual 101, 3) := by decide +kernel
theorem dX8_takeLinesToHead_42 : decode cX8_takeLinesToHead 42 = .ok (.ifCond .ne 15, 3) := by decide +kernel
theorem dX8_takeLinesToHead_45 : decode cX8_takeLinesToHead 45 = .ok (.aload_n 0, 1) := by decide +kernel
theorem dX8_takeLinesToHead_46 : decode cX8_takeLinesToHead 46 = .ok (.iconst 2, 1) := by decide +kernel
theorem dX8_takeLinesToHead_47 : decode cX8_takeLinesToHead 47 = .ok (.aload_n 0, 1) := by decide +kernel
theorem dX8_takeLinesToHead_48 : decode cX8_takeLinesToHead 48 = .ok (.getfield 54, 3) := by decide +kernel
theorem dX8_takeLinesToHead_51 : decode cX8_takeLinesToHead 51 = .ok (.invokevirtual 57, 3) := by decide +kernel
theorem dX8_takeLinesToHead_54 : decode cX8_takeLinesToHead 54 = .ok (.ifCond .eq 7, 3) := by decide +kernel
theorem dX8_takeLinesToHead_57 : decode cX8_takeLinesToHead 57 = .ok (.iconst 1, 1) := by decide +kernel
theorem dX8_takeLinesToHead_58 : decode cX8_takeLinesToHead 58 = .ok (.goto 4, 3) := by decide +kernel
theorem dX8_takeLinesToHead_61 : decode cX8_takeLinesToHead 61 = .ok (.iconst 0, 1) := by decide +kernel
theorem dX8_takeLinesToHead_62 : decode cX8_takeLinesToHead 62 = .ok (.ireturn, 1) := by decide +kernel
theorem dX8_takeLinesToHead_63 : decode cX8_takeLinesToHead 63 = .ok (.iinc 1 1, 3) := by decide +kernel
theorem dX8_takeLinesToHead_66 : decode cX8_takeLinesToHead 66 = .ok (.goto (-64), 3) := by decide +kernel
theorem dX8_takeLinesToHead_69 : decode cX8_takeLinesToHead 69 = .ok (.aload_n 0, 1) := by decide +kernel
theorem dX8_takeLinesToHead_70 : decode cX8_takeLinesToHead 70 = .ok (.iconst 1, 1) := by decide +kernel
theorem dX8_takeLinesToHead_71 : decode cX8_takeLinesToHead 71 = .ok (.aload_n 0, 1) := by decide +kernel
theorem dX8_takeLinesToHead_72 : decode cX8_takeLinesToHead 72 = .ok (.getfield 9, 3) := by decide +kernel
theorem dX8_takeLinesToHead_75 : decode cX8_takeLinesToHead 75 = .ok (.getfield 46, 3) := by decide +kernel
theorem dX8_takeLinesToHead_78 : decode cX8_takeLinesToHead 78 = .ok (.invokevirtual 57, 3) := by decide +kernel
theorem dX8_takeLinesToHead_81 : decode cX8_takeLinesToHead 81 = .ok (.ireturn, 1) := by decide +kernel
theorem dX8_cutColumns_0 : decode cX8_cutColumns 0 = .ok (.aload_n 0, 1) := by decide +kernel
theorem dX8_cutColumns_1 : decode cX8_cutColumns 1 = .ok (.iconst 0, 1) := by decide +kernel
theorem dX8_cutColumns_2 : decode cX8_cutColumns 2 = .ok (.putfield 39, 3) := by decide +kernel
theorem dX8_cutColumns_5 : decode cX8_cutColumns 5 = .ok (.aload_n 0, 1) := by decide +kernel
theorem dX8_cutColumns_6 : decode cX8_cutColumns 6 = .ok (.getfield 54, 3) := by decide +kernel
theorem dX8_cutColumns_9 : decode cX8_cutColumns 9 = .ok (.istore_n 1, 1) := by decide +kernel
theorem dX8_cutColumns_10 : decode cX8_cutColumns 10 = .ok (.aload_n 0, 1) := by decide +kernel
theorem dX8_cutColumns_11 : decode cX8_cutColumns 11 = .ok (.getfield 54, 3) := by decide +kernel
theorem dX8_cutColumns_14 : decode cX8_cutColumns 14 = .ok (.istore_n 2, 1) := by decide +kernel
theorem dX8_cutColumns_15 : decode cX8_cutColumns 15 = .ok (.iload_n 2, 1) := by decide +kernel
theorem dX8_cutColumns_16 : decode cX8_cutColumns 16 = .ok (.aload_n 0, 1) := by decide +kernel
theorem dX8_cutColumns_17 : decode cX8_cutColumns 17 = .ok (.getfield 86, 3) := by decide +kernel
theorem dX8_cutColumns_20 : decode cX8_cutColumns 20 = .ok (.if_icmp .gt 77, 3) := by decide +kernel
theorem dX8_cutColumns_23 : decode cX8_cutColumns 23 = .ok (.iload_n 2, 1) := by decide +kernel
theorem dX8_cutColumns_24 : decode cX8_cutColumns 24 = .ok (.aload_n 0, 1) := by decide +kernel
theorem dX8_cutColumns_25 : decode cX8_cutColumns 25 = .ok (.getfield 86, 3) := by decide +kernel
theorem dX8_cutColumns_28 : decode cX8_cutColumns 28 = .ok (.if_icmp .eq 16, 3) := by decide +kernel
theorem dX8_cutColumns_31 : decode cX8_cutColumns 31 = .ok (.aload_n 0, 1) := by decide +kernel
theorem dX8_cutColumns_32 : decode cX8_cutColumns 32 = .ok (.getfield 9, 3) := by decide +kernel
theorem dX8_cutColumns_35 : decode cX8_cutColumns 35 = .ok (.iload_n 2, 1) := by decide +kernel
theorem dX8_cutColumns_36 : decode cX8_cutColumns 36 = .ok (.invokevirtual 104, 3) := by decide +kernel
theorem dX8_cutColumns_39 : decode cX8_cutColumns 39 = .ok (.bipush 9, 2) := by decide +kernel
theorem dX8_cutColumns_41 : decode cX8_cutColumns 41 = .ok (.if_icmp .ne 50, 3) := by decide +kernel
theorem dX8_cutColumns_44 : decode cX8_cutColumns 44 = .ok (.aload_n 0, 1) := by decide +kernel
theorem dX8_cutColumns_45 : decode cX8_cutColumns 45 = .ok (.getfield 39, 3) := by decide +kernel
theorem dX8_cutColumns_48 : decode cX8_cutColumns 48 = .ok (.bipush 12, 2) := by decide +kernel
theorem dX8_cutColumns_50 : decode cX8_cutColumns 50 = .ok (.if_icmp .ge 27, 3) := by decide +kernel
theorem dX8_cutColumns_53 : decode cX8_cutColumns 53 = .ok (.aload_n 0, 1) := by decide +kernel
theorem dX8_cutColumns_54 : decode cX8_cutColumns 54 = .ok (.getfield 23, 3) := by decide +kernel
theorem dX8_cutColumns_57 : decode cX8_cutColumns 57 = .ok (.aload_n 0, 1) := by decide +kernel
theorem dX8_cutColumns_58 : decode cX8_cutColumns 58 = .ok (.getfield 39, 3) := by decide +kernel
theorem dX8_cutColumns_61 : decode cX8_cutColumns 61 = .ok (.iload_n 1, 1) := by decide +kernel
theorem dX8_cutColumns_62 : decode cX8_cutColumns 62 = .ok (.iastore, 1) := by decide +kernel
theorem dX8_cutColumns_63 : decode cX8_cutColumns 63 = .ok (.aload_n 0, 1) := by decide +kernel
theorem dX8_cutColumns_64 : decode cX8_cutColumns 64 = .ok (.getfield 23, 3) := by decide +kernel
theorem dX8_cutColumns_67 : decode cX8_cutColumns 67 = .ok (.aload_n 0, 1) := by decide +kernel
theorem dX8_cutColumns_68 : decode cX8_cutColumns 68 = .ok (.getfield 39, 3) := by decide +kernel
theorem dX8_cutColumns_71 : decode cX8_cutColumns 71 = .ok (.iconst 1, 1) := by decide +kernel
theorem dX8_cutColumns_72 : decode cX8_cutColumns 72 = .ok (.iadd, 1) := by decide +kernel
theorem dX8_cutColumns_73 : decode cX8_cutColumns 73 = .ok (.iload_n 2, 1) := by decide +kernel
theorem dX8_cutColumns_74 : decode cX8_cutColumns 74 = .ok (.iconst 1, 1) := by decide +kernel
theorem dX8_cutColumns_75 : decode cX8_cutColumns 75 = .ok (.iadd, 1) := by decide +kernel
theorem dX8_cutColumns_76 : decode cX8_cutColumns 76 = .ok (.iastore, 1) := by decide +kernel
theorem dX8_cutColumns_77 : decode cX8_cutColumns 77 = .ok (.iload_n 2, 1) := by decide +kernel
theorem dX8_cutColumns_78 : decode cX8_cutColumns 78 = .ok (.iconst 1, 1) := by decide +kernel
theorem dX8_cutColumns_79 : decode cX8_cutColumns 79 = .ok (.iadd, 1) := by decide +kernel
theorem dX8_cutColumns_80 : decode cX8_cutColumns 80 = .ok (.istore_n 1, 1) := by decide +kernel
theorem dX8_cutColumns_81 : decode cX8_cutColumns 81 = .ok (.aload_n 0, 1) := by decide +kernel
theorem dX8_cutColumns_82 : decode cX8_cutColumns 82 = .ok (.dup, 1) := by decide +kernel
theorem dX8_cutColumns_83 : decode cX8_cutColumns 83 = .ok (.getfield 39, 3) := by decide +kernel
theorem dX8_cutColumns_86 : decode cX8_cutColumns 86 = .ok (.iconst 1, 1) := by decide +kernel
theorem dX8_cutColumns_87 : decode cX8_cutColumns 87 = .ok (.iadd, 1) := by decide +kernel
theorem dX8_cutColumns_88 : decode cX8_cutColumns 88 = .ok (.putfield 39, 3) := by decide +kernel
theorem dX8_cutColumns_91 : decode cX8_cutColumns 91 = .ok (.iinc 2 1, 3) := by decide +kernel
theorem dX8_cutColumns_94 : decode cX8_cutColumns 94 = .ok (.goto (-79), 3) := by decide +kernel
theorem dX8_cutColumns_97 : decode cX8_cutColumns 97 = .ok (.return_, 1) := by decide +kernel
theorem dX8_takeHead_0 : decode cX8_takeHead 0 = .ok (.aload_n 0, 1) := by decide +kernel
theorem dX8_takeHead_1 : decode cX8_takeHead 1 = .ok (.getfield 39, 3) := by decide +kernel
theorem dX8_takeHead_4 : decode cX8_takeHead 4 = .ok (.bipush 8, 2) := by decide +kernel
theorem dX8_takeHead_6 : decode cX8_takeHead 6 = .ok (.if_icmp .ne 21, 3) := by decide +kernel
theorem dX8_takeHead_9 : decode cX8_takeHead 9 = .ok (.aload_n 0, 1) := by decide +kernel
theorem dX8_takeHead_10 : decode cX8_takeHead 10 = .ok (.getfield 9, 3) := by decide +kernel
theorem dX8_takeHead_13 : decode cX8_takeHead 13 = .ok (.aload_n 0, 1) := by decide +kernel
theorem dX8_takeHead_14 : decode cX8_takeHead 14 = .ok (.getfield 54, 3) := by decide +kernel
theorem dX8_takeHead_17 : decode cX8_takeHead 17 = .ok (.aload_n 0, 1) := by decide +kernel
theorem dX8_takeHead_18 : decode cX8_takeHead 18 = .ok (.getfield 86, 3) := by decide +kernel
theorem dX8_takeHead_21 : decode cX8_takeHead 21 = .ok (.ldc 108, 2) := by decide +kernel
theorem dX8_takeHead_23 : decode cX8_takeHead 23 = .ok (.invokevirtual 91, 3) := by decide +kernel
theorem dX8_takeHead_26 : decode cX8_takeHead 26 = .ok (.ireturn, 1) := by decide +kernel
theorem dX8_takeHead_27 : decode cX8_takeHead 27 = .ok (.aload_n 0, 1) := by decide +kernel
theorem dX8_takeHead_28 : decode cX8_takeHead 28 = .ok (.getfield 39, 3) := by decide +kernel
theorem dX8_takeHead_31 : decode cX8_takeHead 31 = .ok (.bipush 10, 2) := by decide +kernel
theorem dX8_takeHead_33 : decode cX8_takeHead 33 = .ok (.if_icmp .lt 12, 3) := by decide +kernel
theorem dX8_takeHead_36 : decode cX8_takeHead 36 = .ok (.aload_n 0, 1) := by decide +kernel
theorem dX8_takeHead_37 : decode cX8_takeHead 37 = .ok (.getfield 39, 3) := by decide +kernel
theorem dX8_takeHead_40 : decode cX8_takeHead 40 = .ok (.bipush 12, 2) := by decide +kernel
theorem dX8_takeHead_42 : decode cX8_takeHead 42 = .ok (.if_icmp .le 5, 3) := by decide +kernel
theorem dX8_takeHead_45 : decode cX8_takeHead 45 = .ok (.iconst 0, 1) := by decide +kernel
theorem dX8_takeHead_46 : decode cX8_takeHead 46 = .ok (.ireturn, 1) := by decide +kernel
theorem dX8_takeHead_47 : decode cX8_takeHead 47 = .ok (.aload_n 0, 1) := by decide +kernel
theorem dX8_takeHead_48 : decode cX8_takeHead 48 = .ok (.getfield 9, 3) := by decide +kernel
theorem dX8_takeHead_51 : decode cX8_takeHead 51 = .ok (.aload_n 0, 1) := by decide +kernel
theorem dX8_takeHead_52 : decode cX8_takeHead 52 = .ok (.getfield 54, 3) := by decide +kernel
theorem dX8_takeHead_55 : decode cX8_takeHead 55 = .ok (.aload_n 0, 1) := by decide +kernel
theorem dX8_takeHead_56 : decode cX8_takeHead 56 = .ok (.getfield 23, 3) := by decide +kernel
theorem dX8_takeHead_59 : decode cX8_takeHead 59 = .ok (.bipush 8, 2) := by decide +kernel
theorem dX8_takeHead_61 : decode cX8_takeHead 61 = .ok (.iaload, 1) := by decide +kernel
theorem dX8_takeHead_62 : decode cX8_takeHead 62 = .ok (.iconst 1, 1) := by decide +kernel
theorem dX8_takeHead_63 : decode cX8_takeHead 63 = .ok (.isub, 1) := by decide +kernel
theorem dX8_takeHead_64 : decode cX8_takeHead 64 = .ok (.ldc 108, 2) := by decide +kernel
theorem dX8_takeHead_66 : decode cX8_takeHead 66 = .ok (.invokevirtual 91, 3) := by decide +kernel
theorem dX8_takeHead_69 : decode cX8_takeHead 69 = .ok (.ifCond .eq 14, 3) := by decide +kernel
theorem dX8_takeHead_72 : decode cX8_takeHead 72 = .ok (.aload_n 0, 1) := by decide +kernel
theorem dX8_takeHead_73 : decode cX8_takeHead 73 = .ok (.bipush 8, 2) := by decide +kernel
theorem dX8_takeHead_75 : decode cX8_takeHead 75 = .ok (.ldc 110, 2) := by decide +kernel
theorem dX8_takeHead_77 : decode cX8_takeHead 77 = .ok (.invokevirtual 112, 3) := by decide +kernel
theorem dX8_takeHead_80 : decode cX8_takeHead 80 = .ok (.ifCond .ne 5, 3) := by decide +kernel
theorem dX8_takeHead_83 : decode cX8_takeHead 83 = .ok (.iconst 0, 1) := by decide +kernel
theorem dX8_takeHead_84 : decode cX8_takeHead 84 = .ok (.ireturn, 1) := by decide +kernel
theorem dX8_takeHead_85 : decode cX8_takeHead 85 = .ok (.bipush 9, 2) := by decide +kernel
theorem dX8_takeHead_87 : decode cX8_takeHead 87 = .ok (.istore_n 1, 1) := by decide +kernel
theorem dX8_takeHead_88 : decode cX8_takeHead 88 = .ok (.iload_n 1, 1) := by decide +kernel
theorem dX8_takeHead_89 : decode cX8_takeHead 89 = .ok (.aload_n 0, 1) := by decide +kernel
theorem dX8_takeHead_90 : decode cX8_takeHead 90 = .ok (.getfield 39, 3) := by decide +kernel
theorem dX8_takeHead_93 : decode cX8_takeHead 93 = .ok (.if_icmp .ge 34, 3) := by decide +kernel
theorem dX8_takeHead_96 : decode cX8_takeHead 96 = .ok (.aload_n 0, 1) := by decide +kernel
theorem dX8_takeHead_97 : decode cX8_takeHead 97 = .ok (.aload_n 0, 1) := by decide +kernel
theorem dX8_takeHead_98 : decode cX8_takeHead 98 = .ok (.getfield 23, 3) := by decide +kernel
theorem dX8_takeHead_101 : decode cX8_takeHead 101 = .ok (.iload_n 1, 1) := by decide +kernel
theorem dX8_takeHead_102 : decode cX8_takeHead 102 = .ok (.iaload, 1) := by decide +kernel
theorem dX8_takeHead_103 : decode cX8_takeHead 103 = .ok (.aload_n 0, 1) := by decide +kernel
theorem dX8_takeHead_104 : decode cX8_takeHead 104 = .ok (.getfield 23, 3) := by decide +kernel
theorem dX8_takeHead_107 : decode cX8_takeHead 107 = .ok (.iload_n 1, 1) := by decide +kernel
theorem dX8_takeHead_108 : decode cX8_takeHead 108 = .ok (.iconst 1, 1) := by decide +kernel
theorem dX8_takeHead_109 : decode cX8_takeHead 109 = .ok (.iadd, 1) := by decide +kernel
theorem dX8_takeHead_110 : decode cX8_takeHead 110 = .ok (.iaload, 1) := by decide +kernel
theorem dX8_takeHead_111 : decode cX8_takeHead 111 = .ok (.iconst 1, 1) := by decide +kernel
theorem dX8_takeHead_112 : decode cX8_takeHead 112 = .ok (.isub, 1) := by decide +kernel
theorem dX8_takeHead_113 : decode cX8_takeHead 113 = .ok (.invokevirtual 115, 3) := by decide +kernel
theorem dX8_takeHead_116 : decode cX8_takeHead 116 = .ok (.ifCond .ne 5, 3) := by decide +kernel
theorem dX8_takeHead_119 : decode cX8_takeHead 119 = .ok (.iconst 0, 1) := by decide +kernel
theorem dX8_takeHead_120 : decode cX8_takeHead 120 = .ok (.ireturn, 1) := by decide +kernel
theorem dX8_takeHead_121 : decode cX8_takeHead 121 = .ok (.iinc 1 1, 3) := by decide +kernel
theorem dX8_takeHead_124 : decode cX8_takeHead 124 = .ok (.goto (-36), 3) := by decide +kernel
theorem dX8_takeHead_127 : decode cX8_takeHead 127 = .ok (.iconst 1, 1) := by decide +kernel
theorem dX8_takeHead_128 : decode cX8_takeHead 128 = .ok (.ireturn, 1) := by decide +kernel
theorem dX8_takeSampleName_0 : decode cX8_takeSampleName 0 = .ok (.aload_n 0, 1) := by decide +kernel
theorem dX8_takeSampleName_1 : decode cX8_takeSampleName 1 = .ok (.getfield 9, 3) := by decide +kernel
theorem dX8_takeSampleName_4 : decode cX8_takeSampleName 4 = .ok (.iload_n 1, 1) := by decide +kernel
theorem dX8_takeSampleName_5 : decode cX8_takeSampleName 5 = .ok (.iload_n 2, 1) := by decide +kernel
theorem dX8_takeSampleName_6 : decode cX8_takeSampleName 6 = .ok (.invokevirtual 118, 3) := by decide +kernel
theorem dX8_takeSampleName_9 : decode cX8_takeSampleName 9 = .ok (.ifCond .eq 23, 3) := by decide +kernel
theorem dX8_takeSampleName_12 : decode cX8_takeSampleName 12 = .ok (.aload_n 0, 1) := by decide +kernel
theorem dX8_takeSampleName_13 : decode cX8_takeSampleName 13 = .ok (.getfield 19, 3) := by decide +kernel
theorem dX8_takeSampleName_16 : decode cX8_takeSampleName 16 = .ok (.getfield 121, 3) := by decide +kernel
theorem dX8_takeSampleName_19 : decode cX8_takeSampleName 19 = .ok (.aload_n 0, 1) := by decide +kernel
theorem dX8_takeSampleName_20 : decode cX8_takeSampleName 20 = .ok (.getfield 9, 3) := by decide +kernel
theorem dX8_takeSampleName_23 : decode cX8_takeSampleName 23 = .ok (.iload_n 1, 1) := by decide +kernel
theorem dX8_takeSampleName_24 : decode cX8_takeSampleName 24 = .ok (.iload_n 2, 1) := by decide +kernel
theorem dX8_takeSampleName_25 : decode cX8_takeSampleName 25 = .ok (.invokevirtual 125, 3) := by decide +kernel
theorem dX8_takeSampleName_28 : decode cX8_takeSampleName 28 = .ok (.iconst (-1), 1) := by decide +kernel
theorem dX8_takeSampleName_29 : decode cX8_takeSampleName 29 = .ok (.if_icmp .eq 5, 3) := by decide +kernel
theorem dX8_takeSampleName_32 : decode cX8_takeSampleName 32 = .ok (.iconst 0, 1) := by decide +kernel
theorem dX8_takeSampleName_33 : decode cX8_takeSampleName 33 = .ok (.ireturn, 1) := by decide +kernel
theorem dX8_takeSampleName_34 : decode cX8_takeSampleName 34 = .ok (.aload_n 0, 1) := by decide +kernel
theorem dX8_takeSampleName_35 : decode cX8_takeSampleName 35 = .ok (.getfield 19, 3) := by decide +kernel
theorem dX8_takeSampleName_38 : decode cX8_takeSampleName 38 = .ok (.getfield 121, 3) := by decide +kernel
theorem dX8_takeSampleName_41 : decode cX8_takeSampleName 41 = .ok (.invokevirtual 131, 3) := by decide +kernel
theorem dX8_takeSampleName_44 : decode cX8_takeSampleName 44 = .ok (.iload_n 1, 1) := by decide +kernel
theorem dX8_takeSampleName_45 : decode cX8_takeSampleName 45 = .ok (.istore_n 3, 1) := by decide +kernel
theorem dX8_takeSampleName_46 : decode cX8_takeSampleName 46 = .ok (.iload_n 3, 1) := by decide +kernel
theorem dX8_takeSampleName_47 : decode cX8_takeSampleName 47 = .ok (.iload_n 2, 1) := by decide +kernel
theorem dX8_takeSampleName_48 : decode cX8_takeSampleName 48 = .ok (.if_icmp .ge 27, 3) := by decide +kernel
theorem dX8_takeSampleName_51 : decode cX8_takeSampleName 51 = .ok (.aload_n 0, 1) := by decide +kernel
theorem dX8_takeSampleName_52 : decode cX8_takeSampleName 52 = .ok (.getfield 19, 3) := by decide +kernel
theorem dX8_takeSampleName_55 : decode cX8_takeSampleName 55 = .ok (.getfield 121, 3) := by decide +kernel
theorem dX8_takeSampleName_58 : decode cX8_takeSampleName 58 = .ok (.aload_n 0, 1) := by decide +kernel
theorem dX8_takeSampleName_59 : decode cX8_takeSampleName 59 = .ok (.getfield 9, 3) := by decide +kernel
theorem dX8_takeSampleName_62 : decode cX8_takeSampleName 62 = .ok (.iload_n 3, 1) := by decide +kernel
theorem dX8_takeSampleName_63 : decode cX8_takeSampleName 63 = .ok (.invokevirtual 104, 3) := by decide +kernel
theorem dX8_takeSampleName_66 : decode cX8_takeSampleName 66 = .ok (.invokevirtual 134, 3) := by decide +kernel
theorem dX8_takeSampleName_69 : decode cX8_takeSampleName 69 = .ok (.iinc 3 1, 3) := by decide +kernel
theorem dX8_takeSampleName_72 : decode cX8_takeSampleName 72 = .ok (.goto (-26), 3) := by decide +kernel
theorem dX8_takeSampleName_75 : decode cX8_takeSampleName 75 = .ok (.iconst 1, 1) := by decide +kernel
theorem dX8_takeSampleName_76 : decode cX8_takeSampleName 76 = .ok (.ireturn, 1) := by decide +kernel
theorem dX8_takeEntry_0 : decode cX8_takeEntry 0 = .ok (.aload_n 0, 1) := by decide +kernel
theorem dX8_takeEntry_1 : decode cX8_takeEntry 1 = .ok (.aload_n 1, 1) := by decide +kernel
theorem dX8_takeEntry_2 : decode cX8_takeEntry 2 = .ok (.invokevirtual 138, 3) := by decide +kernel
theorem dX8_takeEntry_5 : decode cX8_takeEntry 5 = .ok (.ifCond .ne 11, 3) := by decide +kernel
theorem dX8_takeEntry_8 : decode cX8_takeEntry 8 = .ok (.aload_n 0, 1) := by decide +kernel
theorem dX8_takeEntry_9 : decode cX8_takeEntry 9 = .ok (.iconst 0, 1) := by decide +kernel
theorem dX8_takeEntry_10 : decode cX8_takeEntry 10 = .ok (.invokevirtual 141, 3) := by decide +kernel
theorem dX8_takeEntry_13 : decode cX8_takeEntry 13 = .ok (.ifCond .eq 194, 3) := by decide +kernel
theorem dX8_takeEntry_16 : decode cX8_takeEntry 16 = .ok (.aload_n 0, 1) := by decide +kernel
theorem dX8_takeEntry_17 : decode cX8_takeEntry 17 = .ok (.aload_n 1, 1) := by decide +kernel
theorem dX8_takeEntry_18 : decode cX8_takeEntry 18 = .ok (.invokevirtual 145, 3) := by decide +kernel
theorem dX8_takeEntry_21 : decode cX8_takeEntry 21 = .ok (.ifCond .ne 11, 3) := by decide +kernel
theorem dX8_takeEntry_24 : decode cX8_takeEntry 24 = .ok (.aload_n 0, 1) := by decide +kernel
theorem dX8_takeEntry_25 : decode cX8_takeEntry 25 = .ok (.iconst 1, 1) := by decide +kernel
theorem dX8_takeEntry_26 : decode cX8_takeEntry 26 = .ok (.invokevirtual 141, 3) := by decide +kernel
theorem dX8_takeEntry_29 : decode cX8_takeEntry 29 = .ok (.ifCond .eq 178, 3) := by decide +kernel
theorem dX8_takeEntry_32 : decode cX8_takeEntry 32 = .ok (.aload_n 0, 1) := by decide +kernel
theorem dX8_takeEntry_33 : decode cX8_takeEntry 33 = .ok (.aload_n 1, 1) := by decide +kernel
theorem dX8_takeEntry_34 : decode cX8_takeEntry 34 = .ok (.invokevirtual 148, 3) := by decide +kernel
theorem dX8_takeEntry_37 : decode cX8_takeEntry 37 = .ok (.ifCond .ne 11, 3) := by decide +kernel
theorem dX8_takeEntry_40 : decode cX8_takeEntry 40 = .ok (.aload_n 0, 1) := by decide +kernel
theorem dX8_takeEntry_41 : decode cX8_takeEntry 41 = .ok (.iconst 2, 1) := by decide +kernel
theorem dX8_takeEntry_42 : decode cX8_takeEntry 42 = .ok (.invokevirtual 141, 3) := by decide +kernel
theorem dX8_takeEntry_45 : decode cX8_takeEntry 45 = .ok (.ifCond .eq 162, 3) := by decide +kernel
theorem dX8_takeEntry_48 : decode cX8_takeEntry 48 = .ok (.aload_n 0, 1) := by decide +kernel
theorem dX8_takeEntry_49 : decode cX8_takeEntry 49 = .ok (.aload_n 1, 1) := by decide +kernel
theorem dX8_takeEntry_50 : decode cX8_takeEntry 50 = .ok (.iconst 0, 1) := by decide +kernel
theorem dX8_takeEntry_51 : decode cX8_takeEntry 51 = .ok (.aload_n 0, 1) := by decide +kernel
theorem dX8_takeEntry_52 : decode cX8_takeEntry 52 = .ok (.getfield 23, 3) := by decide +kernel
theorem dX8_takeEntry_55 : decode cX8_takeEntry 55 = .ok (.iconst 3, 1) := by decide +kernel
theorem dX8_takeEntry_56 : decode cX8_takeEntry 56 = .ok (.iaload, 1) := by decide +kernel
theorem dX8_takeEntry_57 : decode cX8_takeEntry 57 = .ok (.aload_n 0, 1) := by decide +kernel
theorem dX8_takeEntry_58 : decode cX8_takeEntry 58 = .ok (.getfield 23, 3) := by decide +kernel
theorem dX8_takeEntry_61 : decode cX8_takeEntry 61 = .ok (.iconst 4, 1) := by decide +kernel
theorem dX8_takeEntry_62 : decode cX8_takeEntry 62 = .ok (.iaload, 1) := by decide +kernel
theorem dX8_takeEntry_63 : decode cX8_takeEntry 63 = .ok (.iconst 1, 1) := by decide +kernel
theorem dX8_takeEntry_64 : decode cX8_takeEntry 64 = .ok (.isub, 1) := by decide +kernel
theorem dX8_takeEntry_65 : decode cX8_takeEntry 65 = .ok (.invokevirtual 151, 3) := by decide +kernel
theorem dX8_takeEntry_68 : decode cX8_takeEntry 68 = .ok (.ifCond .ne 11, 3) := by decide +kernel
theorem dX8_takeEntry_71 : decode cX8_takeEntry 71 = .ok (.aload_n 0, 1) := by decide +kernel
theorem dX8_takeEntry_72 : decode cX8_takeEntry 72 = .ok (.iconst 3, 1) := by decide +kernel
theorem dX8_takeEntry_73 : decode cX8_takeEntry 73 = .ok (.invokevirtual 141, 3) := by decide +kernel
theorem dX8_takeEntry_76 : decode cX8_takeEntry 76 = .ok (.ifCond .eq 131, 3) := by decide +kernel
theorem dX8_takeEntry_79 : decode cX8_takeEntry 79 = .ok (.aload_n 0, 1) := by decide +kernel
theorem dX8_takeEntry_80 : decode cX8_takeEntry 80 = .ok (.aload_n 1, 1) := by decide +kernel
theorem dX8_takeEntry_81 : decode cX8_takeEntry 81 = .ok (.invokevirtual 155, 3) := by decide +kernel
theorem dX8_takeEntry_84 : decode cX8_takeEntry 84 = .ok (.ifCond .ne 17, 3) := by decide +kernel
theorem dX8_takeEntry_87 : decode cX8_takeEntry 87 = .ok (.aload_n 0, 1) := by decide +kernel
theorem dX8_takeEntry_88 : decode cX8_takeEntry 88 = .ok (.iconst 5, 1) := by decide +kernel
theorem dX8_takeEntry_89 : decode cX8_takeEntry 89 = .ok (.aload_n 0, 1) := by decide +kernel
theorem dX8_takeEntry_90 : decode cX8_takeEntry 90 = .ok (.getfield 23, 3) := by decide +kernel
theorem dX8_takeEntry_93 : decode cX8_takeEntry 93 = .ok (.iconst 3, 1) := by decide +kernel
theorem dX8_takeEntry_94 : decode cX8_takeEntry 94 = .ok (.iaload, 1) := by decide +kernel
theorem dX8_takeEntry_95 : decode cX8_takeEntry 95 = .ok (.invokevirtual 57, 3) := by decide +kernel
theorem dX8_takeEntry_98 : decode cX8_takeEntry 98 = .ok (.ifCond .eq 109, 3) := by decide +kernel
theorem dX8_takeEntry_101 : decode cX8_takeEntry 101 = .ok (.aload_n 0, 1) := by decide +kernel
theorem dX8_takeEntry_102 : decode cX8_takeEntry 102 = .ok (.aload_n 1, 1) := by decide +kernel
theorem dX8_takeEntry_103 : decode cX8_takeEntry 103 = .ok (.invokevirtual 158, 3) := by decide +kernel
theorem dX8_takeEntry_106 : decode cX8_takeEntry 106 = .ok (.ifCond .ne 11, 3) := by decide +kernel
theorem dX8_takeEntry_109 : decode cX8_takeEntry 109 = .ok (.aload_n 0, 1) := by decide +kernel
theorem dX8_takeEntry_110 : decode cX8_takeEntry 110 = .ok (.iconst 4, 1) := by decide +kernel
theorem dX8_takeEntry_111 : decode cX8_takeEntry 111 = .ok (.invokevirtual 141, 3) := by decide +kernel
theorem dX8_takeEntry_114 : decode cX8_takeEntry 114 = .ok (.ifCond .eq 93, 3) := by decide +kernel
theorem dX8_takeEntry_117 : decode cX8_takeEntry 117 = .ok (.aload_n 0, 1) := by decide +kernel
theorem dX8_takeEntry_118 : decode cX8_takeEntry 118 = .ok (.aload_n 1, 1) := by decide +kernel
theorem dX8_takeEntry_119 : decode cX8_takeEntry 119 = .ok (.invokevirtual 161, 3) := by decide +kernel
theorem dX8_takeEntry_122 : decode cX8_takeEntry 122 = .ok (.ifCond .ne 11, 3) := by decide +kernel
theorem dX8_takeEntry_125 : decode cX8_takeEntry 125 = .ok (.aload_n 0, 1) := by decide +kernel
theorem dX8_takeEntry_126 : decode cX8_takeEntry 126 = .ok (.iconst 5, 1) := by decide +kernel
theorem dX8_takeEntry_127 : decode cX8_takeEntry 127 = .ok (.invokevirtual 141, 3) := by decide +kernel
theorem dX8_takeEntry_130 : decode cX8_takeEntry 130 = .ok (.ifCond .eq 77, 3) := by decide +kernel
theorem dX8_takeEntry_133 : decode cX8_takeEntry 133 = .ok (.aload_n 0, 1) := by decide +kernel
theorem dX8_takeEntry_134 : decode cX8_takeEntry 134 = .ok (.aload_n 1, 1) := by decide +kernel
theorem dX8_takeEntry_135 : decode cX8_takeEntry 135 = .ok (.invokevirtual 164, 3) := by decide +kernel
theorem dX8_takeEntry_138 : decode cX8_takeEntry 138 = .ok (.ifCond .ne 12, 3) := by decide +kernel
theorem dX8_takeEntry_141 : decode cX8_takeEntry 141 = .ok (.aload_n 0, 1) := by decide +kernel
theorem dX8_takeEntry_142 : decode cX8_takeEntry 142 = .ok (.bipush 6, 2) := by decide +kernel
theorem dX8_takeEntry_144 : decode cX8_takeEntry 144 = .ok (.invokevirtual 141, 3) := by decide +kernel
theorem dX8_takeEntry_147 : decode cX8_takeEntry 147 = .ok (.ifCond .eq 60, 3) := by decide +kernel
theorem dX8_takeEntry_150 : decode cX8_takeEntry 150 = .ok (.aload_n 0, 1) := by decide +kernel
theorem dX8_takeEntry_151 : decode cX8_takeEntry 151 = .ok (.bipush 7, 2) := by decide +kernel
theorem dX8_takeEntry_153 : decode cX8_takeEntry 153 = .ok (.ldc 167, 2) := by decide +kernel
theorem dX8_takeEntry_155 : decode cX8_takeEntry 155 = .ok (.invokevirtual 112, 3) := by decide +kernel
theorem dX8_takeEntry_158 : decode cX8_takeEntry 158 = .ok (.ifCond .ne 12, 3) := by decide +kernel
theorem dX8_takeEntry_161 : decode cX8_takeEntry 161 = .ok (.aload_n 0, 1) := by decide +kernel
theorem dX8_takeEntry_162 : decode cX8_takeEntry 162 = .ok (.bipush 7, 2) := by decide +kernel
theorem dX8_takeEntry_164 : decode cX8_takeEntry 164 = .ok (.invokevirtual 141, 3) := by decide +kernel
theorem dX8_takeEntry_167 : decode cX8_takeEntry 167 = .ok (.ifCond .eq 40, 3) := by decide +kernel
theorem dX8_takeEntry_170 : decode cX8_takeEntry 170 = .ok (.aload_n 0, 1) := by decide +kernel
theorem dX8_takeEntry_171 : decode cX8_takeEntry 171 = .ok (.getfield 19, 3) := by decide +kernel
theorem dX8_takeEntry_174 : decode cX8_takeEntry 174 = .ok (.getfield 121, 3) := by decide +kernel
theorem dX8_takeEntry_177 : decode cX8_takeEntry 177 = .ok (.getfield 169, 3) := by decide +kernel
theorem dX8_takeEntry_180 : decode cX8_takeEntry 180 = .ok (.ifCond .eq 23, 3) := by decide +kernel
theorem dX8_takeEntry_183 : decode cX8_takeEntry 183 = .ok (.aload_n 0, 1) := by decide +kernel
theorem dX8_takeEntry_184 : decode cX8_takeEntry 184 = .ok (.bipush 8, 2) := by decide +kernel
theorem dX8_takeEntry_186 : decode cX8_takeEntry 186 = .ok (.ldc 172, 2) := by decide +kernel
theorem dX8_takeEntry_188 : decode cX8_takeEntry 188 = .ok (.invokevirtual 112, 3) := by decide +kernel
theorem dX8_takeEntry_191 : decode cX8_takeEntry 191 = .ok (.ifCond .ne 12, 3) := by decide +kernel
theorem dX8_takeEntry_194 : decode cX8_takeEntry 194 = .ok (.aload_n 0, 1) := by decide +kernel
theorem dX8_takeEntry_195 : decode cX8_takeEntry 195 = .ok (.bipush 8, 2) := by decide +kernel
theorem dX8_takeEntry_197 : decode cX8_takeEntry 197 = .ok (.invokevirtual 141, 3) := by decide +kernel
theorem dX8_takeEntry_200 : decode cX8_takeEntry 200 = .ok (.ifCond .eq 7, 3) := by decide +kernel
theorem dX8_takeEntry_203 : decode cX8_takeEntry 203 = .ok (.iconst 1, 1) := by decide +kernel
theorem dX8_takeEntry_204 : decode cX8_takeEntry 204 = .ok (.goto 4, 3) := by decide +kernel
theorem dX8_takeEntry_207 : decode cX8_takeEntry 207 = .ok (.iconst 0, 1) := by decide +kernel
theorem dX8_takeEntry_208 : decode cX8_takeEntry 208 = .ok (.ireturn, 1) := by decide +kernel
theorem dX8_failColumn_0 : decode cX8_failColumn 0 = .ok (.aload_n 0, 1) := by decide +kernel
theorem dX8_failColumn_1 : decode cX8_failColumn 1 = .ok (.iconst 4, 1) := by decide +kernel
theorem dX8_failColumn_2 : decode cX8_failColumn 2 = .ok (.aload_n 0, 1) := by decide +kernel
theorem dX8_failColumn_3 : decode cX8_failColumn 3 = .ok (.getfield 23, 3) := by decide +kernel
theorem dX8_failColumn_6 : decode cX8_failColumn 6 = .ok (.iload_n 1, 1) := by decide +kernel
theorem dX8_failColumn_7 : decode cX8_failColumn 7 = .ok (.iaload, 1) := by decide +kernel
theorem dX8_failColumn_8 : decode cX8_failColumn 8 = .ok (.invokevirtual 57, 3) := by decide +kernel
theorem dX8_failColumn_11 : decode cX8_failColumn 11 = .ok (.ireturn, 1) := by decide +kernel
theorem dX8_columnIs_0 : decode cX8_columnIs 0 = .ok (.aload_n 0, 1) := by decide +kernel
theorem dX8_columnIs_1 : decode cX8_columnIs 1 = .ok (.getfield 9, 3) := by decide +kernel
theorem dX8_columnIs_4 : decode cX8_columnIs 4 = .ok (.aload_n 0, 1) := by decide +kernel
theorem dX8_columnIs_5 : decode cX8_columnIs 5 = .ok (.getfield 23, 3) := by decide +kernel
theorem dX8_columnIs_8 : decode cX8_columnIs 8 = .ok (.iload_n 1, 1) := by decide +kernel
theorem dX8_columnIs_9 : decode cX8_columnIs 9 = .ok (.iaload, 1) := by decide +kernel
theorem dX8_columnIs_10 : decode cX8_columnIs 10 = .ok (.aload_n 0, 1) := by decide +kernel
theorem dX8_columnIs_11 : decode cX8_columnIs 11 = .ok (.getfield 23, 3) := by decide +kernel
theorem dX8_columnIs_14 : decode cX8_columnIs 14 = .ok (.iload_n 1, 1) := by decide +kernel
theorem dX8_columnIs_15 : decode cX8_columnIs 15 = .ok (.iconst 1, 1) := by decide +kernel
theorem dX8_columnIs_16 : decode cX8_columnIs 16 = .ok (.iadd, 1) := by decide +kernel
theorem dX8_columnIs_17 : decode cX8_columnIs 17 = .ok (.iaload, 1) := by decide +kernel
theorem dX8_columnIs_18 : decode cX8_columnIs 18 = .ok (.iconst 1, 1) := by decide +kernel
theorem dX8_columnIs_19 : decode cX8_columnIs 19 = .ok (.isub, 1) := by decide +kernel
theorem dX8_columnIs_20 : decode cX8_columnIs 20 = .ok (.aload_n 2, 1) := by decide +kernel
theorem dX8_columnIs_21 : decode cX8_columnIs 21 = .ok (.invokevirtual 91, 3) := by decide +kernel
theorem dX8_columnIs_24 : decode cX8_columnIs 24 = .ok (.ireturn, 1) := by decide +kernel
theorem dX8_takeSequence_0 : decode cX8_takeSequence 0 = .ok (.aload_n 1, 1) := by decide +kernel
theorem dX8_takeSequence_1 : decode cX8_takeSequence 1 = .ok (.aload_n 0, 1) := by decide +kernel
theorem dX8_takeSequence_2 : decode cX8_takeSequence 2 = .ok (.getfield 15, 3) := by decide +kernel
theorem dX8_takeSequence_5 : decode cX8_takeSequence 5 = .ok (.getfield 174, 3) := by decide +kernel
theorem dX8_takeSequence_8 : decode cX8_takeSequence 8 = .ok (.aload_n 0, 1) := by decide +kernel
theorem dX8_takeSequence_9 : decode cX8_takeSequence 9 = .ok (.getfield 9, 3) := by decide +kernel
theorem dX8_takeSequence_12 : decode cX8_takeSequence 12 = .ok (.aload_n 0, 1) := by decide +kernel
theorem dX8_takeSequence_13 : decode cX8_takeSequence 13 = .ok (.getfield 23, 3) := by decide +kernel
theorem dX8_takeSequence_16 : decode cX8_takeSequence 16 = .ok (.iconst 0, 1) := by decide +kernel
theorem dX8_takeSequence_17 : decode cX8_takeSequence 17 = .ok (.iaload, 1) := by decide +kernel
theorem dX8_takeSequence_18 : decode cX8_takeSequence 18 = .ok (.aload_n 0, 1) := by decide +kernel
theorem dX8_takeSequence_19 : decode cX8_takeSequence 19 = .ok (.getfield 23, 3) := by decide +kernel
theorem dX8_takeSequence_22 : decode cX8_takeSequence 22 = .ok (.iconst 1, 1) := by decide +kernel
theorem dX8_takeSequence_23 : decode cX8_takeSequence 23 = .ok (.iaload, 1) := by decide +kernel
theorem dX8_takeSequence_24 : decode cX8_takeSequence 24 = .ok (.iconst 1, 1) := by decide +kernel
theorem dX8_takeSequence_25 : decode cX8_takeSequence 25 = .ok (.isub, 1) := by decide +kernel
theorem dX8_takeSequence_26 : decode cX8_takeSequence 26 = .ok (.invokevirtual 125, 3) := by decide +kernel
theorem dX8_takeSequence_29 : decode cX8_takeSequence 29 = .ok (.putfield 177, 3) := by decide +kernel
theorem dX8_takeSequence_32 : decode cX8_takeSequence 32 = .ok (.aload_n 1, 1) := by decide +kernel
theorem dX8_takeSequence_33 : decode cX8_takeSequence 33 = .ok (.getfield 177, 3) := by decide +kernel
theorem dX8_takeSequence_36 : decode cX8_takeSequence 36 = .ok (.iconst (-1), 1) := by decide +kernel
theorem dX8_takeSequence_37 : decode cX8_takeSequence 37 = .ok (.if_icmp .eq 7, 3) := by decide +kernel
theorem dX8_takeSequence_40 : decode cX8_takeSequence 40 = .ok (.iconst 1, 1) := by decide +kernel
theorem dX8_takeSequence_41 : decode cX8_takeSequence 41 = .ok (.goto 4, 3) := by decide +kernel
theorem dX8_takeSequence_44 : decode cX8_takeSequence 44 = .ok (.iconst 0, 1) := by decide +kernel
theorem dX8_takeSequence_45 : decode cX8_takeSequence 45 = .ok (.ireturn, 1) := by decide +kernel
theorem dX8_takePlace_0 : decode cX8_takePlace 0 = .ok (.aload_n 1, 1) := by decide +kernel
theorem dX8_takePlace_1 : decode cX8_takePlace 1 = .ok (.aload_n 0, 1) := by decide +kernel
theorem dX8_takePlace_2 : decode cX8_takePlace 2 = .ok (.getfield 9, 3) := by decide +kernel
theorem dX8_takePlace_5 : decode cX8_takePlace 5 = .ok (.aload_n 0, 1) := by decide +kernel
theorem dX8_takePlace_6 : decode cX8_takePlace 6 = .ok (.getfield 23, 3) := by decide +kernel
theorem dX8_takePlace_9 : decode cX8_takePlace 9 = .ok (.iconst 1, 1) := by decide +kernel
theorem dX8_takePlace_10 : decode cX8_takePlace 10 = .ok (.iaload, 1) := by decide +kernel
theorem dX8_takePlace_11 : decode cX8_takePlace 11 = .ok (.aload_n 0, 1) := by decide +kernel
theorem dX8_takePlace_12 : decode cX8_takePlace 12 = .ok (.getfield 23, 3) := by decide +kernel
theorem dX8_takePlace_15 : decode cX8_takePlace 15 = .ok (.iconst 2, 1) := by decide +kernel
theorem dX8_takePlace_16 : decode cX8_takePlace 16 = .ok (.iaload, 1) := by decide +kernel
theorem dX8_takePlace_17 : decode cX8_takePlace 17 = .ok (.iconst 1, 1) := by decide +kernel
theorem dX8_takePlace_18 : decode cX8_takePlace 18 = .ok (.isub, 1) := by decide +kernel
theorem dX8_takePlace_19 : decode cX8_takePlace 19 = .ok (.aload_n 0, 1) := by decide +kernel
theorem dX8_takePlace_20 : decode cX8_takePlace 20 = .ok (.getfield 15, 3) := by decide +kernel
theorem dX8_takePlace_23 : decode cX8_takePlace 23 = .ok (.aload_n 1, 1) := by decide +kernel
theorem dX8_takePlace_24 : decode cX8_takePlace 24 = .ok (.getfield 177, 3) := by decide +kernel
theorem dX8_takePlace_27 : decode cX8_takePlace 27 = .ok (.invokevirtual 182, 3) := by decide +kernel
theorem dX8_takePlace_30 : decode cX8_takePlace 30 = .ok (.invokevirtual 185, 3) := by decide +kernel
theorem dX8_takePlace_33 : decode cX8_takePlace 33 = .ok (.putfield 189, 3) := by decide +kernel
theorem dX8_takePlace_36 : decode cX8_takePlace 36 = .ok (.aload_n 1, 1) := by decide +kernel
theorem dX8_takePlace_37 : decode cX8_takePlace 37 = .ok (.getfield 189, 3) := by decide +kernel
theorem dX8_takePlace_40 : decode cX8_takePlace 40 = .ok (.ifCond .le 7, 3) := by decide +kernel
theorem dX8_takePlace_43 : decode cX8_takePlace 43 = .ok (.iconst 1, 1) := by decide +kernel
theorem dX8_takePlace_44 : decode cX8_takePlace 44 = .ok (.goto 4, 3) := by decide +kernel
theorem dX8_takePlace_47 : decode cX8_takePlace 47 = .ok (.iconst 0, 1) := by decide +kernel
theorem dX8_takePlace_48 : decode cX8_takePlace 48 = .ok (.ireturn, 1) := by decide +kernel
theorem dX8_takeId_0 : decode cX8_takeId 0 = .ok (.aload_n 1, 1) := by decide +kernel
theorem dX8_takeId_1 : decode cX8_takeId 1 = .ok (.iconst 0, 1) := by decide +kernel
theorem dX8_takeId_2 : decode cX8_takeId 2 = .ok (.putfield 192, 3) := by decide +kernel
theorem dX8_takeId_5 : decode cX8_takeId 5 = .ok (.aload_n 0, 1) := by decide +kernel
theorem dX8_takeId_6 : decode cX8_takeId 6 = .ok (.iconst 2, 1) := by decide +kernel
theorem dX8_takeId_7 : decode cX8_takeId 7 = .ok (.ldc 167, 2) := by decide +kernel
theorem dX8_takeId_9 : decode cX8_takeId 9 = .ok (.invokevirtual 112, 3) := by decide +kernel
theorem dX8_takeId_12 : decode cX8_takeId 12 = .ok (.ifCond .eq 5, 3) := by decide +kernel
theorem dX8_takeId_15 : decode cX8_takeId 15 = .ok (.iconst 1, 1) := by decide +kernel
theorem dX8_takeId_16 : decode cX8_takeId 16 = .ok (.ireturn, 1) := by decide +kernel
theorem dX8_takeId_17 : decode cX8_takeId 17 = .ok (.aload_n 0, 1) := by decide +kernel
theorem dX8_takeId_18 : decode cX8_takeId 18 = .ok (.getfield 23, 3) := by decide +kernel
theorem dX8_takeId_21 : decode cX8_takeId 21 = .ok (.iconst 2, 1) := by decide +kernel
theorem dX8_takeId_22 : decode cX8_takeId 22 = .ok (.iaload, 1) := by decide +kernel
theorem dX8_takeId_23 : decode cX8_takeId 23 = .ok (.istore_n 2, 1) := by decide +kernel
theorem dX8_takeId_24 : decode cX8_takeId 24 = .ok (.aload_n 0, 1) := by decide +kernel
theorem dX8_takeId_25 : decode cX8_takeId 25 = .ok (.getfield 23, 3) := by decide +kernel
theorem dX8_takeId_28 : decode cX8_takeId 28 = .ok (.iconst 3, 1) := by decide +kernel
theorem dX8_takeId_29 : decode cX8_takeId 29 = .ok (.iaload, 1) := by decide +kernel
theorem dX8_takeId_30 : decode cX8_takeId 30 = .ok (.iconst 1, 1) := by decide +kernel
theorem dX8_takeId_31 : decode cX8_takeId 31 = .ok (.isub, 1) := by decide +kernel
theorem dX8_takeId_32 : decode cX8_takeId 32 = .ok (.istore_n 3, 1) := by decide +kernel
theorem dX8_takeId_33 : decode cX8_takeId 33 = .ok (.aload_n 0, 1) := by decide +kernel
theorem dX8_takeId_34 : decode cX8_takeId 34 = .ok (.getfield 9, 3) := by decide +kernel
theorem dX8_takeId_37 : decode cX8_takeId 37 = .ok (.iload_n 2, 1) := by decide +kernel
theorem dX8_takeId_38 : decode cX8_takeId 38 = .ok (.iload_n 3, 1) := by decide +kernel
theorem dX8_takeId_39 : decode cX8_takeId 39 = .ok (.invokevirtual 118, 3) := by decide +kernel
theorem dX8_takeId_42 : decode cX8_takeId 42 = .ok (.ifCond .ne 5, 3) := by decide +kernel
theorem dX8_takeId_45 : decode cX8_takeId 45 = .ok (.iconst 0, 1) := by decide +kernel
theorem dX8_takeId_46 : decode cX8_takeId 46 = .ok (.ireturn, 1) := by decide +kernel
theorem dX8_takeId_47 : decode cX8_takeId 47 = .ok (.iload_n 2, 1) := by decide +kernel
theorem dX8_takeId_48 : decode cX8_takeId 48 = .ok (.istore 4, 2) := by decide +kernel
theorem dX8_takeId_50 : decode cX8_takeId 50 = .ok (.iload 4, 2) := by decide +kernel
theorem dX8_takeId_52 : decode cX8_takeId 52 = .ok (.iload_n 3, 1) := by decide +kernel
theorem dX8_takeId_53 : decode cX8_takeId 53 = .ok (.if_icmp .ge 22, 3) := by decide +kernel
theorem dX8_takeId_56 : decode cX8_takeId 56 = .ok (.aload_n 1, 1) := by decide +kernel
theorem dX8_takeId_57 : decode cX8_takeId 57 = .ok (.aload_n 0, 1) := by decide +kernel
theorem dX8_takeId_58 : decode cX8_takeId 58 = .ok (.getfield 9, 3) := by decide +kernel
theorem dX8_takeId_61 : decode cX8_takeId 61 = .ok (.iload 4, 2) := by decide +kernel
theorem dX8_takeId_63 : decode cX8_takeId 63 = .ok (.invokevirtual 104, 3) := by decide +kernel
theorem dX8_takeId_66 : decode cX8_takeId 66 = .ok (.invokevirtual 195, 3) := by decide +kernel
theorem dX8_takeId_69 : decode cX8_takeId 69 = .ok (.iinc 4 1, 3) := by decide +kernel
theorem dX8_takeId_72 : decode cX8_takeId 72 = .ok (.goto (-22), 3) := by decide +kernel
theorem dX8_takeId_75 : decode cX8_takeId 75 = .ok (.iconst 1, 1) := by decide +kernel
theorem dX8_takeId_76 : decode cX8_takeId 76 = .ok (.ireturn, 1) := by decide +kernel
theorem dX8_takeRow_0 : decode cX8_takeRow 0 = .ok (.iload_n 2, 1) := by decide +kernel
theorem dX8_takeRow_1 : decode cX8_takeRow 1 = .ok (.iconst 4, 1) := by decide +kernel
theorem dX8_takeRow_2 : decode cX8_takeRow 2 = .ok (.if_icmp .ge 18, 3) := by decide +kernel
theorem dX8_takeRow_5 : decode cX8_takeRow 5 = .ok (.iload 4, 2) := by decide +kernel
theorem dX8_takeRow_7 : decode cX8_takeRow 7 = .ok (.iload_n 3, 1) := by decide +kernel
theorem dX8_takeRow_8 : decode cX8_takeRow 8 = .ok (.if_icmp .le 12, 3) := by decide +kernel
theorem dX8_takeRow_11 : decode cX8_takeRow 11 = .ok (.iload 4, 2) := by decide +kernel
theorem dX8_takeRow_13 : decode cX8_takeRow 13 = .ok (.iload_n 3, 1) := by decide +kernel
theorem dX8_takeRow_14 : decode cX8_takeRow 14 = .ok (.isub, 1) := by decide +kernel
theorem dX8_takeRow_15 : decode cX8_takeRow 15 = .ok (.bipush 24, 2) := by decide +kernel
theorem dX8_takeRow_17 : decode cX8_takeRow 17 = .ok (.if_icmp .le 5, 3) := by decide +kernel
theorem dX8_takeRow_20 : decode cX8_takeRow 20 = .ok (.iconst 0, 1) := by decide +kernel
theorem dX8_takeRow_21 : decode cX8_takeRow 21 = .ok (.ireturn, 1) := by decide +kernel
theorem dX8_takeRow_22 : decode cX8_takeRow 22 = .ok (.aload_n 1, 1) := by decide +kernel
theorem dX8_takeRow_23 : decode cX8_takeRow 23 = .ok (.getfield 198, 3) := by decide +kernel
theorem dX8_takeRow_26 : decode cX8_takeRow 26 = .ok (.iload_n 2, 1) := by decide +kernel
theorem dX8_takeRow_27 : decode cX8_takeRow 27 = .ok (.iconst 0, 1) := by decide +kernel
theorem dX8_takeRow_28 : decode cX8_takeRow 28 = .ok (.iastore, 1) := by decide +kernel
theorem dX8_takeRow_29 : decode cX8_takeRow 29 = .ok (.iload_n 3, 1) := by decide +kernel
theorem dX8_takeRow_30 : decode cX8_takeRow 30 = .ok (.istore 5, 2) := by decide +kernel
theorem dX8_takeRow_32 : decode cX8_takeRow 32 = .ok (.iload 5, 2) := by decide +kernel
theorem dX8_takeRow_34 : decode cX8_takeRow 34 = .ok (.iload 4, 2) := by decide +kernel
theorem dX8_takeRow_36 : decode cX8_takeRow 36 = .ok (.if_icmp .ge 38, 3) := by decide +kernel
theorem dX8_takeRow_39 : decode cX8_takeRow 39 = .ok (.aload_n 0, 1) := by decide +kernel
theorem dX8_takeRow_40 : decode cX8_takeRow 40 = .ok (.getfield 9, 3) := by decide +kernel
theorem dX8_takeRow_43 : decode cX8_takeRow 43 = .ok (.iload 5, 2) := by decide +kernel
theorem dX8_takeRow_45 : decode cX8_takeRow 45 = .ok (.invokevirtual 104, 3) := by decide +kernel
theorem dX8_takeRow_48 : decode cX8_takeRow 48 = .ok (.invokestatic 201, 3) := by decide +kernel
theorem dX8_takeRow_51 : decode cX8_takeRow 51 = .ok (.istore 6, 2) := by decide +kernel
theorem dX8_takeRow_53 : decode cX8_takeRow 53 = .ok (.iload 6, 2) := by decide +kernel
theorem dX8_takeRow_55 : decode cX8_takeRow 55 = .ok (.iconst (-1), 1) := by decide +kernel
theorem dX8_takeRow_56 : decode cX8_takeRow 56 = .ok (.if_icmp .ne 5, 3) := by decide +kernel
theorem dX8_takeRow_59 : decode cX8_takeRow 59 = .ok (.iconst 0, 1) := by decide +kernel
theorem dX8_takeRow_60 : decode cX8_takeRow 60 = .ok (.ireturn, 1) := by decide +kernel
theorem dX8_takeRow_61 : decode cX8_takeRow 61 = .ok (.aload_n 1, 1) := by decide +kernel
theorem dX8_takeRow_62 : decode cX8_takeRow 62 = .ok (.iload_n 2, 1) := by decide +kernel
theorem dX8_takeRow_63 : decode cX8_takeRow 63 = .ok (.iload 6, 2) := by decide +kernel
theorem dX8_takeRow_65 : decode cX8_takeRow 65 = .ok (.invokevirtual 204, 3) := by decide +kernel
theorem dX8_takeRow_68 : decode cX8_takeRow 68 = .ok (.iinc 5 1, 3) := by decide +kernel
theorem dX8_takeRow_71 : decode cX8_takeRow 71 = .ok (.goto (-39), 3) := by decide +kernel
theorem dX8_takeRow_74 : decode cX8_takeRow 74 = .ok (.aload_n 1, 1) := by decide +kernel
theorem dX8_takeRow_75 : decode cX8_takeRow 75 = .ok (.iload_n 2, 1) := by decide +kernel
theorem dX8_takeRow_76 : decode cX8_takeRow 76 = .ok (.iconst 1, 1) := by decide +kernel
theorem dX8_takeRow_77 : decode cX8_takeRow 77 = .ok (.iadd, 1) := by decide +kernel
theorem dX8_takeRow_78 : decode cX8_takeRow 78 = .ok (.putfield 208, 3) := by decide +kernel
theorem dX8_takeRow_81 : decode cX8_takeRow 81 = .ok (.iconst 1, 1) := by decide +kernel
theorem dX8_takeRow_82 : decode cX8_takeRow 82 = .ok (.ireturn, 1) := by decide +kernel
theorem dX8_refIsThere_0 : decode cX8_refIsThere 0 = .ok (.iconst 0, 1) := by decide +kernel
theorem dX8_refIsThere_1 : decode cX8_refIsThere 1 = .ok (.istore_n 2, 1) := by decide +kernel
theorem dX8_refIsThere_2 : decode cX8_refIsThere 2 = .ok (.iload_n 2, 1) := by decide +kernel
theorem dX8_refIsThere_3 : decode cX8_refIsThere 3 = .ok (.aload_n 1, 1) := by decide +kernel
theorem dX8_refIsThere_4 : decode cX8_refIsThere 4 = .ok (.getfield 198, 3) := by decide +kernel
theorem dX8_refIsThere_7 : decode cX8_refIsThere 7 = .ok (.iconst 0, 1) := by decide +kernel
theorem dX8_refIsThere_8 : decode cX8_refIsThere 8 = .ok (.iaload, 1) := by decide +kernel
theorem dX8_refIsThere_9 : decode cX8_refIsThere 9 = .ok (.if_icmp .ge 37, 3) := by decide +kernel
theorem dX8_refIsThere_12 : decode cX8_refIsThere 12 = .ok (.aload_n 0, 1) := by decide +kernel
theorem dX8_refIsThere_13 : decode cX8_refIsThere 13 = .ok (.getfield 15, 3) := by decide +kernel
theorem dX8_refIsThere_16 : decode cX8_refIsThere 16 = .ok (.aload_n 1, 1) := by decide +kernel
theorem dX8_refIsThere_17 : decode cX8_refIsThere 17 = .ok (.getfield 177, 3) := by decide +kernel
theorem dX8_refIsThere_20 : decode cX8_refIsThere 20 = .ok (.aload_n 1, 1) := by decide +kernel
theorem dX8_refIsThere_21 : decode cX8_refIsThere 21 = .ok (.getfield 189, 3) := by decide +kernel
theorem dX8_refIsThere_24 : decode cX8_refIsThere 24 = .ok (.iload_n 2, 1) := by decide +kernel
theorem dX8_refIsThere_25 : decode cX8_refIsThere 25 = .ok (.iadd, 1) := by decide +kernel
theorem dX8_refIsThere_26 : decode cX8_refIsThere 26 = .ok (.invokevirtual 211, 3) := by decide +kernel
theorem dX8_refIsThere_29 : decode cX8_refIsThere 29 = .ok (.aload_n 1, 1) := by decide +kernel
theorem dX8_refIsThere_30 : decode cX8_refIsThere 30 = .ok (.iconst 0, 1) := by decide +kernel
theorem dX8_refIsThere_31 : decode cX8_refIsThere 31 = .ok (.iload_n 2, 1) := by decide +kernel
theorem dX8_refIsThere_32 : decode cX8_refIsThere 32 = .ok (.invokevirtual 214, 3) := by decide +kernel
theorem dX8_refIsThere_35 : decode cX8_refIsThere 35 = .ok (.if_icmp .eq 5, 3) := by decide +kernel
theorem dX8_refIsThere_38 : decode cX8_refIsThere 38 = .ok (.iconst 0, 1) := by decide +kernel
theorem dX8_refIsThere_39 : decode cX8_refIsThere 39 = .ok (.ireturn, 1) := by decide +kernel
theorem dX8_refIsThere_40 : decode cX8_refIsThere 40 = .ok (.iinc 2 1, 3) := by decide +kernel
theorem dX8_refIsThere_43 : decode cX8_refIsThere 43 = .ok (.goto (-41), 3) := by decide +kernel
theorem dX8_refIsThere_46 : decode cX8_refIsThere 46 = .ok (.iconst 1, 1) := by decide +kernel
theorem dX8_refIsThere_47 : decode cX8_refIsThere 47 = .ok (.ireturn, 1) := by decide +kernel
theorem dX8_takeAlts_0 : decode cX8_takeAlts 0 = .ok (.aload_n 0, 1) := by decide +kernel
theorem dX8_takeAlts_1 : decode cX8_takeAlts 1 = .ok (.iconst 4, 1) := by decide +kernel
theorem dX8_takeAlts_2 : decode cX8_takeAlts 2 = .ok (.ldc 167, 2) := by decide +kernel
theorem dX8_takeAlts_4 : decode cX8_takeAlts 4 = .ok (.invokevirtual 112, 3) := by decide +kernel
theorem dX8_takeAlts_7 : decode cX8_takeAlts 7 = .ok (.ifCond .eq 5, 3) := by decide +kernel
theorem dX8_takeAlts_10 : decode cX8_takeAlts 10 = .ok (.iconst 1, 1) := by decide +kernel
theorem dX8_takeAlts_11 : decode cX8_takeAlts 11 = .ok (.ireturn, 1) := by decide +kernel
theorem dX8_takeAlts_12 : decode cX8_takeAlts 12 = .ok (.aload_n 0, 1) := by decide +kernel
theorem dX8_takeAlts_13 : decode cX8_takeAlts 13 = .ok (.getfield 23, 3) := by decide +kernel
theorem dX8_takeAlts_16 : decode cX8_takeAlts 16 = .ok (.iconst 4, 1) := by decide +kernel
theorem dX8_takeAlts_17 : decode cX8_takeAlts 17 = .ok (.iaload, 1) := by decide +kernel
theorem dX8_takeAlts_18 : decode cX8_takeAlts 18 = .ok (.istore_n 2, 1) := by decide +kernel
theorem dX8_takeAlts_19 : decode cX8_takeAlts 19 = .ok (.aload_n 0, 1) := by decide +kernel
theorem dX8_takeAlts_20 : decode cX8_takeAlts 20 = .ok (.getfield 23, 3) := by decide +kernel
theorem dX8_takeAlts_23 : decode cX8_takeAlts 23 = .ok (.iconst 5, 1) := by decide +kernel
theorem dX8_takeAlts_24 : decode cX8_takeAlts 24 = .ok (.iaload, 1) := by decide +kernel
theorem dX8_takeAlts_25 : decode cX8_takeAlts 25 = .ok (.iconst 1, 1) := by decide +kernel
theorem dX8_takeAlts_26 : decode cX8_takeAlts 26 = .ok (.isub, 1) := by decide +kernel
theorem dX8_takeAlts_27 : decode cX8_takeAlts 27 = .ok (.istore_n 3, 1) := by decide +kernel
theorem dX8_takeAlts_28 : decode cX8_takeAlts 28 = .ok (.iload_n 2, 1) := by decide +kernel
theorem dX8_takeAlts_29 : decode cX8_takeAlts 29 = .ok (.istore 4, 2) := by decide +kernel
theorem dX8_takeAlts_31 : decode cX8_takeAlts 31 = .ok (.iload 4, 2) := by decide +kernel
theorem dX8_takeAlts_33 : decode cX8_takeAlts 33 = .ok (.iload_n 3, 1) := by decide +kernel
theorem dX8_takeAlts_34 : decode cX8_takeAlts 34 = .ok (.if_icmp .gt 47, 3) := by decide +kernel
theorem dX8_takeAlts_37 : decode cX8_takeAlts 37 = .ok (.iload 4, 2) := by decide +kernel
theorem dX8_takeAlts_39 : decode cX8_takeAlts 39 = .ok (.iload_n 3, 1) := by decide +kernel
theorem dX8_takeAlts_40 : decode cX8_takeAlts 40 = .ok (.if_icmp .eq 17, 3) := by decide +kernel
theorem dX8_takeAlts_43 : decode cX8_takeAlts 43 = .ok (.aload_n 0, 1) := by decide +kernel
theorem dX8_takeAlts_44 : decode cX8_takeAlts 44 = .ok (.getfield 9, 3) := by decide +kernel
theorem dX8_takeAlts_47 : decode cX8_takeAlts 47 = .ok (.iload 4, 2) := by decide +kernel
theorem dX8_takeAlts_49 : decode cX8_takeAlts 49 = .ok (.invokevirtual 104, 3) := by decide +kernel
theorem dX8_takeAlts_52 : decode cX8_takeAlts 52 = .ok (.bipush 44, 2) := by decide +kernel
theorem dX8_takeAlts_54 : decode cX8_takeAlts 54 = .ok (.if_icmp .ne 21, 3) := by decide +kernel
theorem dX8_takeAlts_57 : decode cX8_takeAlts 57 = .ok (.aload_n 0, 1) := by decide +kernel
theorem dX8_takeAlts_58 : decode cX8_takeAlts 58 = .ok (.aload_n 1, 1) := by decide +kernel
theorem dX8_takeAlts_59 : decode cX8_takeAlts 59 = .ok (.iload_n 2, 1) := by decide +kernel
theorem dX8_takeAlts_60 : decode cX8_takeAlts 60 = .ok (.iload 4, 2) := by decide +kernel
theorem dX8_takeAlts_62 : decode cX8_takeAlts 62 = .ok (.invokevirtual 215, 3) := by decide +kernel
theorem dX8_takeAlts_65 : decode cX8_takeAlts 65 = .ok (.ifCond .ne 5, 3) := by decide +kernel
theorem dX8_takeAlts_68 : decode cX8_takeAlts 68 = .ok (.iconst 0, 1) := by decide +kernel
theorem dX8_takeAlts_69 : decode cX8_takeAlts 69 = .ok (.ireturn, 1) := by decide +kernel
theorem dX8_takeAlts_70 : decode cX8_takeAlts 70 = .ok (.iload 4, 2) := by decide +kernel
theorem dX8_takeAlts_72 : decode cX8_takeAlts 72 = .ok (.iconst 1, 1) := by decide +kernel
theorem dX8_takeAlts_73 : decode cX8_takeAlts 73 = .ok (.iadd, 1) := by decide +kernel
theorem dX8_takeAlts_74 : decode cX8_takeAlts 74 = .ok (.istore_n 2, 1) := by decide +kernel
theorem dX8_takeAlts_75 : decode cX8_takeAlts 75 = .ok (.iinc 4 1, 3) := by decide +kernel
theorem dX8_takeAlts_78 : decode cX8_takeAlts 78 = .ok (.goto (-47), 3) := by decide +kernel
theorem dX8_takeAlts_81 : decode cX8_takeAlts 81 = .ok (.iconst 1, 1) := by decide +kernel
theorem dX8_takeAlts_82 : decode cX8_takeAlts 82 = .ok (.ireturn, 1) := by decide +kernel
theorem dX8_takeAlt_0 : decode cX8_takeAlt 0 = .ok (.aload_n 1, 1) := by decide +kernel
theorem dX8_takeAlt_1 : decode cX8_takeAlt 1 = .ok (.getfield 208, 3) := by decide +kernel
theorem dX8_takeAlt_4 : decode cX8_takeAlt 4 = .ok (.istore 4, 2) := by decide +kernel
theorem dX8_takeAlt_6 : decode cX8_takeAlt 6 = .ok (.aload_n 0, 1) := by decide +kernel
theorem dX8_takeAlt_7 : decode cX8_takeAlt 7 = .ok (.aload_n 1, 1) := by decide +kernel
theorem dX8_takeAlt_8 : decode cX8_takeAlt 8 = .ok (.iload 4, 2) := by decide +kernel
theorem dX8_takeAlt_10 : decode cX8_takeAlt 10 = .ok (.iload_n 2, 1) := by decide +kernel
theorem dX8_takeAlt_11 : decode cX8_takeAlt 11 = .ok (.iload_n 3, 1) := by decide +kernel
theorem dX8_takeAlt_12 : decode cX8_takeAlt 12 = .ok (.invokevirtual 151, 3) := by decide +kernel
theorem dX8_takeAlt_15 : decode cX8_takeAlt 15 = .ok (.ifCond .ne 5, 3) := by decide +kernel
theorem dX8_takeAlt_18 : decode cX8_takeAlt 18 = .ok (.iconst 0, 1) := by decide +kernel
theorem dX8_takeAlt_19 : decode cX8_takeAlt 19 = .ok (.ireturn, 1) := by decide +kernel
theorem dX8_takeAlt_20 : decode cX8_takeAlt 20 = .ok (.iconst 0, 1) := by decide +kernel
theorem dX8_takeAlt_21 : decode cX8_takeAlt 21 = .ok (.istore 5, 2) := by decide +kernel
theorem dX8_takeAlt_23 : decode cX8_takeAlt 23 = .ok (.iload 5, 2) := by decide +kernel
theorem dX8_takeAlt_25 : decode cX8_takeAlt 25 = .ok (.iload 4, 2) := by decide +kernel
theorem dX8_takeAlt_27 : decode cX8_takeAlt 27 = .ok (.if_icmp .ge 23, 3) := by decide +kernel
theorem dX8_takeAlt_30 : decode cX8_takeAlt 30 = .ok (.aload_n 1, 1) := by decide +kernel
theorem dX8_takeAlt_31 : decode cX8_takeAlt 31 = .ok (.iload 5, 2) := by decide +kernel
theorem dX8_takeAlt_33 : decode cX8_takeAlt 33 = .ok (.aload_n 1, 1) := by decide +kernel
theorem dX8_takeAlt_34 : decode cX8_takeAlt 34 = .ok (.iload 4, 2) := by decide +kernel
theorem dX8_takeAlt_36 : decode cX8_takeAlt 36 = .ok (.invokevirtual 219, 3) := by decide +kernel
theorem dX8_takeAlt_39 : decode cX8_takeAlt 39 = .ok (.ifCond .eq 5, 3) := by decide +kernel
theorem dX8_takeAlt_42 : decode cX8_takeAlt 42 = .ok (.iconst 0, 1) := by decide +kernel
theorem dX8_takeAlt_43 : decode cX8_takeAlt 43 = .ok (.ireturn, 1) := by decide +kernel
theorem dX8_takeAlt_44 : decode cX8_takeAlt 44 = .ok (.iinc 5 1, 3) := by decide +kernel
theorem dX8_takeAlt_47 : decode cX8_takeAlt 47 = .ok (.goto (-24), 3) := by decide +kernel
theorem dX8_takeAlt_50 : decode cX8_takeAlt 50 = .ok (.iconst 1, 1) := by decide +kernel
theorem dX8_takeAlt_51 : decode cX8_takeAlt 51 = .ok (.ireturn, 1) := by decide +kernel
theorem dX8_takeQuality_0 : decode cX8_takeQuality 0 = .ok (.aload_n 1, 1) := by decide +kernel
theorem dX8_takeQuality_1 : decode cX8_takeQuality 1 = .ok (.aload_n 0, 1) := by decide +kernel
theorem dX8_takeQuality_2 : decode cX8_takeQuality 2 = .ok (.getfield 9, 3) := by decide +kernel
theorem dX8_takeQuality_5 : decode cX8_takeQuality 5 = .ok (.aload_n 0, 1) := by decide +kernel
theorem dX8_takeQuality_6 : decode cX8_takeQuality 6 = .ok (.getfield 23, 3) := by decide +kernel
theorem dX8_takeQuality_9 : decode cX8_takeQuality 9 = .ok (.iconst 5, 1) := by decide +kernel
theorem dX8_takeQuality_10 : decode cX8_takeQuality 10 = .ok (.iaload, 1) := by decide +kernel
theorem dX8_takeQuality_11 : decode cX8_takeQuality 11 = .ok (.aload_n 0, 1) := by decide +kernel
theorem dX8_takeQuality_12 : decode cX8_takeQuality 12 = .ok (.getfield 23, 3) := by decide +kernel
theorem dX8_takeQuality_15 : decode cX8_takeQuality 15 = .ok (.bipush 6, 2) := by decide +kernel
theorem dX8_takeQuality_17 : decode cX8_takeQuality 17 = .ok (.iaload, 1) := by decide +kernel
theorem dX8_takeQuality_18 : decode cX8_takeQuality 18 = .ok (.iconst 1, 1) := by decide +kernel
theorem dX8_takeQuality_19 : decode cX8_takeQuality 19 = .ok (.isub, 1) := by decide +kernel
theorem dX8_takeQuality_20 : decode cX8_takeQuality 20 = .ok (.ldc 223, 2) := by decide +kernel
theorem dX8_takeQuality_22 : decode cX8_takeQuality 22 = .ok (.invokevirtual 185, 3) := by decide +kernel
theorem dX8_takeQuality_25 : decode cX8_takeQuality 25 = .ok (.putfield 224, 3) := by decide +kernel
theorem dX8_takeQuality_28 : decode cX8_takeQuality 28 = .ok (.aload_n 1, 1) := by decide +kernel
theorem dX8_takeQuality_29 : decode cX8_takeQuality 29 = .ok (.getfield 224, 3) := by decide +kernel
theorem dX8_takeQuality_32 : decode cX8_takeQuality 32 = .ok (.iconst (-1), 1) := by decide +kernel
theorem dX8_takeQuality_33 : decode cX8_takeQuality 33 = .ok (.if_icmp .ne 13, 3) := by decide +kernel
theorem dX8_takeQuality_36 : decode cX8_takeQuality 36 = .ok (.aload_n 0, 1) := by decide +kernel
theorem dX8_takeQuality_37 : decode cX8_takeQuality 37 = .ok (.iconst 5, 1) := by decide +kernel
theorem dX8_takeQuality_38 : decode cX8_takeQuality 38 = .ok (.ldc 167, 2) := by decide +kernel
theorem dX8_takeQuality_40 : decode cX8_takeQuality 40 = .ok (.invokevirtual 112, 3) := by decide +kernel
theorem dX8_takeQuality_43 : decode cX8_takeQuality 43 = .ok (.ifCond .eq 7, 3) := by decide +kernel
theorem dX8_takeQuality_46 : decode cX8_takeQuality 46 = .ok (.iconst 1, 1) := by decide +kernel
theorem dX8_takeQuality_47 : decode cX8_takeQuality 47 = .ok (.goto 4, 3) := by decide +kernel
theorem dX8_takeQuality_50 : decode cX8_takeQuality 50 = .ok (.iconst 0, 1) := by decide +kernel
theorem dX8_takeQuality_51 : decode cX8_takeQuality 51 = .ok (.ireturn, 1) := by decide +kernel
theorem dX8_takePassed_0 : decode cX8_takePassed 0 = .ok (.aload_n 1, 1) := by decide +kernel
theorem dX8_takePassed_1 : decode cX8_takePassed 1 = .ok (.aload_n 0, 1) := by decide +kernel
theorem dX8_takePassed_2 : decode cX8_takePassed 2 = .ok (.bipush 6, 2) := by decide +kernel
theorem dX8_takePassed_4 : decode cX8_takePassed 4 = .ok (.ldc 227, 2) := by decide +kernel
theorem dX8_takePassed_6 : decode cX8_takePassed 6 = .ok (.invokevirtual 112, 3) := by decide +kernel
theorem dX8_takePassed_9 : decode cX8_takePassed 9 = .ok (.putfield 229, 3) := by decide +kernel
theorem dX8_takePassed_12 : decode cX8_takePassed 12 = .ok (.aload_n 1, 1) := by decide +kernel
theorem dX8_takePassed_13 : decode cX8_takePassed 13 = .ok (.getfield 229, 3) := by decide +kernel
theorem dX8_takePassed_16 : decode cX8_takePassed 16 = .ok (.ifCond .ne 14, 3) := by decide +kernel
theorem dX8_takePassed_19 : decode cX8_takePassed 19 = .ok (.aload_n 0, 1) := by decide +kernel
theorem dX8_takePassed_20 : decode cX8_takePassed 20 = .ok (.bipush 6, 2) := by decide +kernel
theorem dX8_takePassed_22 : decode cX8_takePassed 22 = .ok (.ldc 167, 2) := by decide +kernel
theorem dX8_takePassed_24 : decode cX8_takePassed 24 = .ok (.invokevirtual 112, 3) := by decide +kernel
theorem dX8_takePassed_27 : decode cX8_takePassed 27 = .ok (.ifCond .eq 7, 3) := by decide +kernel
theorem dX8_takePassed_30 : decode cX8_takePassed 30 = .ok (.iconst 1, 1) := by decide +kernel
theorem dX8_takePassed_31 : decode cX8_takePassed 31 = .ok (.goto 4, 3) := by decide +kernel
theorem dX8_takePassed_34 : decode cX8_takePassed 34 = .ok (.iconst 0, 1) := by decide +kernel
theorem dX8_takePassed_35 : decode cX8_takePassed 35 = .ok (.ireturn, 1) := by decide +kernel
theorem dX8_takeAllCalls_0 : decode cX8_takeAllCalls 0 = .ok (.iconst 0, 1) := by decide +kernel
theorem dX8_takeAllCalls_1 : decode cX8_takeAllCalls 1 = .ok (.istore_n 2, 1) := by decide +kernel
theorem dX8_takeAllCalls_2 : decode cX8_takeAllCalls 2 = .ok (.iload_n 2, 1) := by decide +kernel
theorem dX8_takeAllCalls_3 : decode cX8_takeAllCalls 3 = .ok (.aload_n 0, 1) := by decide +kernel
theorem dX8_takeAllCalls_4 : decode cX8_takeAllCalls 4 = .ok (.getfield 19, 3) := by decide +kernel
theorem dX8_takeAllCalls_7 : decode cX8_takeAllCalls 7 = .ok (.getfield 121, 3) := by decide +kernel
theorem dX8_takeAllCalls_10 : decode cX8_takeAllCalls 10 = .ok (.getfield 169, 3) := by decide +kernel
theorem dX8_takeAllCalls_13 : decode cX8_takeAllCalls 13 = .ok (.if_icmp .ge 45, 3) := by decide +kernel
theorem dX8_takeAllCalls_16 : decode cX8_takeAllCalls 16 = .ok (.bipush 9, 2) := by decide +kernel
theorem dX8_takeAllCalls_18 : decode cX8_takeAllCalls 18 = .ok (.iload_n 2, 1) := by decide +kernel
theorem dX8_takeAllCalls_19 : decode cX8_takeAllCalls 19 = .ok (.iadd, 1) := by decide +kernel
theorem dX8_takeAllCalls_20 : decode cX8_takeAllCalls 20 = .ok (.istore_n 3, 1) := by decide +kernel
theorem dX8_takeAllCalls_21 : decode cX8_takeAllCalls 21 = .ok (.aload_n 0, 1) := by decide +kernel
theorem dX8_takeAllCalls_22 : decode cX8_takeAllCalls 22 = .ok (.aload_n 1, 1) := by decide +kernel
theorem dX8_takeAllCalls_23 : decode cX8_takeAllCalls 23 = .ok (.iload_n 2, 1) := by decide +kernel
theorem dX8_takeAllCalls_24 : decode cX8_takeAllCalls 24 = .ok (.aload_n 0, 1) := by decide +kernel
theorem dX8_takeAllCalls_25 : decode cX8_takeAllCalls 25 = .ok (.getfield 23, 3) := by decide +kernel
theorem dX8_takeAllCalls_28 : decode cX8_takeAllCalls 28 = .ok (.iload_n 3, 1) := by decide +kernel
theorem dX8_takeAllCalls_29 : decode cX8_takeAllCalls 29 = .ok (.iaload, 1) := by decide +kernel
theorem dX8_takeAllCalls_30 : decode cX8_takeAllCalls 30 = .ok (.aload_n 0, 1) := by decide +kernel
theorem dX8_takeAllCalls_31 : decode cX8_takeAllCalls 31 = .ok (.getfield 23, 3) := by decide +kernel
theorem dX8_takeAllCalls_34 : decode cX8_takeAllCalls 34 = .ok (.iload_n 3, 1) := by decide +kernel
theorem dX8_takeAllCalls_35 : decode cX8_takeAllCalls 35 = .ok (.iconst 1, 1) := by decide +kernel
theorem dX8_takeAllCalls_36 : decode cX8_takeAllCalls 36 = .ok (.iadd, 1) := by decide +kernel
theorem dX8_takeAllCalls_37 : decode cX8_takeAllCalls 37 = .ok (.iaload, 1) := by decide +kernel
theorem dX8_takeAllCalls_38 : decode cX8_takeAllCalls 38 = .ok (.iconst 1, 1) := by decide +kernel
theorem dX8_takeAllCalls_39 : decode cX8_takeAllCalls 39 = .ok (.isub, 1) := by decide +kernel
theorem dX8_takeAllCalls_40 : decode cX8_takeAllCalls 40 = .ok (.invokevirtual 233, 3) := by decide +kernel
theorem dX8_takeAllCalls_43 : decode cX8_takeAllCalls 43 = .ok (.ifCond .ne 9, 3) := by decide +kernel
theorem dX8_takeAllCalls_46 : decode cX8_takeAllCalls 46 = .ok (.aload_n 0, 1) := by decide +kernel
theorem dX8_takeAllCalls_47 : decode cX8_takeAllCalls 47 = .ok (.iload_n 3, 1) := by decide +kernel
theorem dX8_takeAllCalls_48 : decode cX8_takeAllCalls 48 = .ok (.invokevirtual 141, 3) := by decide +kernel
theorem dX8_takeAllCalls_51 : decode cX8_takeAllCalls 51 = .ok (.ireturn, 1) := by decide +kernel
theorem dX8_takeAllCalls_52 : decode cX8_takeAllCalls 52 = .ok (.iinc 2 1, 3) := by decide +kernel
theorem dX8_takeAllCalls_55 : decode cX8_takeAllCalls 55 = .ok (.goto (-53), 3) := by decide +kernel
theorem dX8_takeAllCalls_58 : decode cX8_takeAllCalls 58 = .ok (.iconst 1, 1) := by decide +kernel
theorem dX8_takeAllCalls_59 : decode cX8_takeAllCalls 59 = .ok (.ireturn, 1) := by decide +kernel
theorem dX8_takeCalls_0 : decode cX8_takeCalls 0 = .ok (.iload 4, 2) := by decide +kernel
theorem dX8_takeCalls_2 : decode cX8_takeCalls 2 = .ok (.istore 5, 2) := by decide +kernel
theorem dX8_takeCalls_4 : decode cX8_takeCalls 4 = .ok (.iload 4, 2) := by decide +kernel
theorem dX8_takeCalls_6 : decode cX8_takeCalls 6 = .ok (.iconst 1, 1) := by decide +kernel
theorem dX8_takeCalls_7 : decode cX8_takeCalls 7 = .ok (.isub, 1) := by decide +kernel
theorem dX8_takeCalls_8 : decode cX8_takeCalls 8 = .ok (.istore 6, 2) := by decide +kernel
theorem dX8_takeCalls_10 : decode cX8_takeCalls 10 = .ok (.iload 6, 2) := by decide +kernel
theorem dX8_takeCalls_12 : decode cX8_takeCalls 12 = .ok (.iload_n 3, 1) := by decide +kernel
theorem dX8_takeCalls_13 : decode cX8_takeCalls 13 = .ok (.if_icmp .lt 41, 3) := by decide +kernel
theorem dX8_takeCalls_16 : decode cX8_takeCalls 16 = .ok (.aload_n 0, 1) := by decide +kernel
theorem dX8_takeCalls_17 : decode cX8_takeCalls 17 = .ok (.getfield 9, 3) := by decide +kernel
theorem dX8_takeCalls_20 : decode cX8_takeCalls 20 = .ok (.iload 6, 2) := by decide +kernel
theorem dX8_takeCalls_22 : decode cX8_takeCalls 22 = .ok (.invokevirtual 104, 3) := by decide +kernel
theorem dX8_takeCalls_25 : decode cX8_takeCalls 25 = .ok (.bipush 47, 2) := by decide +kernel
theorem dX8_takeCalls_27 : decode cX8_takeCalls 27 = .ok (.if_icmp .eq 17, 3) := by decide +kernel
theorem dX8_takeCalls_30 : decode cX8_takeCalls 30 = .ok (.aload_n 0, 1) := by decide +kernel
theorem dX8_takeCalls_31 : decode cX8_takeCalls 31 = .ok (.getfield 9, 3) := by decide +kernel
theorem dX8_takeCalls_34 : decode cX8_takeCalls 34 = .ok (.iload 6, 2) := by decide +kernel
theorem dX8_takeCalls_36 : decode cX8_takeCalls 36 = .ok (.invokevirtual 104, 3) := by decide +kernel
theorem dX8_takeCalls_39 : decode cX8_takeCalls 39 = .ok (.bipush 124, 2) := by decide +kernel
theorem dX8_takeCalls_41 : decode cX8_takeCalls 41 = .ok (.if_icmp .ne 7, 3) := by decide +kernel
theorem dX8_takeCalls_44 : decode cX8_takeCalls 44 = .ok (.iload 6, 2) := by decide +kernel
theorem dX8_takeCalls_46 : decode cX8_takeCalls 46 = .ok (.istore 5, 2) := by decide +kernel
theorem dX8_takeCalls_48 : decode cX8_takeCalls 48 = .ok (.iinc 6 (-1), 3) := by decide +kernel
theorem dX8_takeCalls_51 : decode cX8_takeCalls 51 = .ok (.goto (-41), 3) := by decide +kernel
theorem dX8_takeCalls_54 : decode cX8_takeCalls 54 = .ok (.iload 5, 2) := by decide +kernel
theorem dX8_takeCalls_56 : decode cX8_takeCalls 56 = .ok (.iload 4, 2) := by decide +kernel
theorem dX8_takeCalls_58 : decode cX8_takeCalls 58 = .ok (.if_icmp .ge 7, 3) := by decide +kernel
theorem dX8_takeCalls_61 : decode cX8_takeCalls 61 = .ok (.iconst 1, 1) := by decide +kernel
theorem dX8_takeCalls_62 : decode cX8_takeCalls 62 = .ok (.goto 4, 3) := by decide +kernel
theorem dX8_takeCalls_65 : decode cX8_takeCalls 65 = .ok (.iconst 0, 1) := by decide +kernel
theorem dX8_takeCalls_66 : decode cX8_takeCalls 66 = .ok (.istore 6, 2) := by decide +kernel
theorem dX8_takeCalls_68 : decode cX8_takeCalls 68 = .ok (.aload_n 0, 1) := by decide +kernel
theorem dX8_takeCalls_69 : decode cX8_takeCalls 69 = .ok (.iload_n 3, 1) := by decide +kernel
theorem dX8_takeCalls_70 : decode cX8_takeCalls 70 = .ok (.iload 5, 2) := by decide +kernel
theorem dX8_takeCalls_72 : decode cX8_takeCalls 72 = .ok (.aload_n 1, 1) := by decide +kernel
theorem dX8_takeCalls_73 : decode cX8_takeCalls 73 = .ok (.getfield 208, 3) := by decide +kernel
theorem dX8_takeCalls_76 : decode cX8_takeCalls 76 = .ok (.invokevirtual 236, 3) := by decide +kernel
theorem dX8_takeCalls_79 : decode cX8_takeCalls 79 = .ok (.istore 7, 2) := by decide +kernel
theorem dX8_takeCalls_81 : decode cX8_takeCalls 81 = .ok (.iload 6, 2) := by decide +kernel
theorem dX8_takeCalls_83 : decode cX8_takeCalls 83 = .ok (.ifCond .eq 20, 3) := by decide +kernel
theorem dX8_takeCalls_86 : decode cX8_takeCalls 86 = .ok (.aload_n 0, 1) := by decide +kernel
theorem dX8_takeCalls_87 : decode cX8_takeCalls 87 = .ok (.iload 5, 2) := by decide +kernel
theorem dX8_takeCalls_89 : decode cX8_takeCalls 89 = .ok (.iconst 1, 1) := by decide +kernel
theorem dX8_takeCalls_90 : decode cX8_takeCalls 90 = .ok (.iadd, 1) := by decide +kernel
theorem dX8_takeCalls_91 : decode cX8_takeCalls 91 = .ok (.iload 4, 2) := by decide +kernel
theorem dX8_takeCalls_93 : decode cX8_takeCalls 93 = .ok (.aload_n 1, 1) := by decide +kernel
theorem dX8_takeCalls_94 : decode cX8_takeCalls 94 = .ok (.getfield 208, 3) := by decide +kernel
theorem dX8_takeCalls_97 : decode cX8_takeCalls 97 = .ok (.invokevirtual 236, 3) := by decide +kernel
theorem dX8_takeCalls_100 : decode cX8_takeCalls 100 = .ok (.goto 4, 3) := by decide +kernel
theorem dX8_takeCalls_103 : decode cX8_takeCalls 103 = .ok (.iconst (-1), 1) := by decide +kernel
theorem dX8_takeCalls_104 : decode cX8_takeCalls 104 = .ok (.istore 8, 2) := by decide +kernel
theorem dX8_takeCalls_106 : decode cX8_takeCalls 106 = .ok (.iload 7, 2) := by decide +kernel
theorem dX8_takeCalls_108 : decode cX8_takeCalls 108 = .ok (.bipush (-2), 2) := by decide +kernel
theorem dX8_takeCalls_110 : decode cX8_takeCalls 110 = .ok (.if_icmp .eq 10, 3) := by decide +kernel
theorem dX8_takeCalls_113 : decode cX8_takeCalls 113 = .ok (.iload 8, 2) := by decide +kernel
theorem dX8_takeCalls_115 : decode cX8_takeCalls 115 = .ok (.bipush (-2), 2) := by decide +kernel
theorem dX8_takeCalls_117 : decode cX8_takeCalls 117 = .ok (.if_icmp .ne 5, 3) := by decide +kernel
theorem dX8_takeCalls_120 : decode cX8_takeCalls 120 = .ok (.iconst 0, 1) := by decide +kernel
theorem dX8_takeCalls_121 : decode cX8_takeCalls 121 = .ok (.ireturn, 1) := by decide +kernel
theorem dX8_takeCalls_122 : decode cX8_takeCalls 122 = .ok (.aload_n 1, 1) := by decide +kernel
theorem dX8_takeCalls_123 : decode cX8_takeCalls 123 = .ok (.iload_n 2, 1) := by decide +kernel
theorem dX8_takeCalls_124 : decode cX8_takeCalls 124 = .ok (.iconst 0, 1) := by decide +kernel
theorem dX8_takeCalls_125 : decode cX8_takeCalls 125 = .ok (.iload 7, 2) := by decide +kernel
theorem dX8_takeCalls_127 : decode cX8_takeCalls 127 = .ok (.invokevirtual 239, 3) := by decide +kernel
theorem dX8_takeCalls_130 : decode cX8_takeCalls 130 = .ok (.aload_n 1, 1) := by decide +kernel
theorem dX8_takeCalls_131 : decode cX8_takeCalls 131 = .ok (.iload_n 2, 1) := by decide +kernel
theorem dX8_takeCalls_132 : decode cX8_takeCalls 132 = .ok (.iconst 1, 1) := by decide +kernel
theorem dX8_takeCalls_133 : decode cX8_takeCalls 133 = .ok (.iload 8, 2) := by decide +kernel
theorem dX8_takeCalls_135 : decode cX8_takeCalls 135 = .ok (.invokevirtual 239, 3) := by decide +kernel
theorem dX8_takeCalls_138 : decode cX8_takeCalls 138 = .ok (.aload_n 1, 1) := by decide +kernel
theorem dX8_takeCalls_139 : decode cX8_takeCalls 139 = .ok (.getfield 243, 3) := by decide +kernel
theorem dX8_takeCalls_142 : decode cX8_takeCalls 142 = .ok (.iload_n 2, 1) := by decide +kernel
theorem dX8_takeCalls_143 : decode cX8_takeCalls 143 = .ok (.iload 6, 2) := by decide +kernel
theorem dX8_takeCalls_145 : decode cX8_takeCalls 145 = .ok (.ifCond .eq 7, 3) := by decide +kernel
theorem dX8_takeCalls_148 : decode cX8_takeCalls 148 = .ok (.iconst 2, 1) := by decide +kernel
theorem dX8_takeCalls_149 : decode cX8_takeCalls 149 = .ok (.goto 4, 3) := by decide +kernel
theorem dX8_takeCalls_152 : decode cX8_takeCalls 152 = .ok (.iconst 1, 1) := by decide +kernel
theorem dX8_takeCalls_153 : decode cX8_takeCalls 153 = .ok (.iastore, 1) := by decide +kernel
theorem dX8_takeCalls_154 : decode cX8_takeCalls 154 = .ok (.aload_n 1, 1) := by decide +kernel
theorem dX8_takeCalls_155 : decode cX8_takeCalls 155 = .ok (.getfield 246, 3) := by decide +kernel
theorem dX8_takeCalls_158 : decode cX8_takeCalls 158 = .ok (.iload_n 2, 1) := by decide +kernel
theorem dX8_takeCalls_159 : decode cX8_takeCalls 159 = .ok (.iload 6, 2) := by decide +kernel
theorem dX8_takeCalls_161 : decode cX8_takeCalls 161 = .ok (.ifCond .eq 21, 3) := by decide +kernel
theorem dX8_takeCalls_164 : decode cX8_takeCalls 164 = .ok (.aload_n 0, 1) := by decide +kernel
theorem dX8_takeCalls_165 : decode cX8_takeCalls 165 = .ok (.getfield 9, 3) := by decide +kernel
theorem dX8_takeCalls_168 : decode cX8_takeCalls 168 = .ok (.iload 5, 2) := by decide +kernel
theorem dX8_takeCalls_170 : decode cX8_takeCalls 170 = .ok (.invokevirtual 104, 3) := by decide +kernel
theorem dX8_takeCalls_173 : decode cX8_takeCalls 173 = .ok (.bipush 124, 2) := by decide +kernel
theorem dX8_takeCalls_175 : decode cX8_takeCalls 175 = .ok (.if_icmp .ne 7, 3) := by decide +kernel
theorem dX8_takeCalls_178 : decode cX8_takeCalls 178 = .ok (.iconst 1, 1) := by decide +kernel
theorem dX8_takeCalls_179 : decode cX8_takeCalls 179 = .ok (.goto 4, 3) := by decide +kernel
theorem dX8_takeCalls_182 : decode cX8_takeCalls 182 = .ok (.iconst 0, 1) := by decide +kernel
theorem dX8_takeCalls_183 : decode cX8_takeCalls 183 = .ok (.bastore, 1) := by decide +kernel
theorem dX8_takeCalls_184 : decode cX8_takeCalls 184 = .ok (.iconst 1, 1) := by decide +kernel
theorem dX8_takeCalls_185 : decode cX8_takeCalls 185 = .ok (.ireturn, 1) := by decide +kernel
theorem dX8_callAt_0 : decode cX8_callAt 0 = .ok (.aload_n 0, 1) := by decide +kernel
theorem dX8_callAt_1 : decode cX8_callAt 1 = .ok (.getfield 9, 3) := by decide +kernel
theorem dX8_callAt_4 : decode cX8_callAt 4 = .ok (.iload_n 1, 1) := by decide +kernel
theorem dX8_callAt_5 : decode cX8_callAt 5 = .ok (.iload_n 2, 1) := by decide +kernel
theorem dX8_callAt_6 : decode cX8_callAt 6 = .ok (.ldc 167, 2) := by decide +kernel
theorem dX8_callAt_8 : decode cX8_callAt 8 = .ok (.invokevirtual 91, 3) := by decide +kernel
theorem dX8_callAt_11 : decode cX8_callAt 11 = .ok (.ifCond .eq 5, 3) := by decide +kernel
theorem dX8_callAt_14 : decode cX8_callAt 14 = .ok (.iconst (-1), 1) := by decide +kernel
theorem dX8_callAt_15 : decode cX8_callAt 15 = .ok (.ireturn, 1) := by decide +kernel
theorem dX8_callAt_16 : decode cX8_callAt 16 = .ok (.aload_n 0, 1) := by decide +kernel
theorem dX8_callAt_17 : decode cX8_callAt 17 = .ok (.getfield 9, 3) := by decide +kernel
theorem dX8_callAt_20 : decode cX8_callAt 20 = .ok (.iload_n 1, 1) := by decide +kernel
theorem dX8_callAt_21 : decode cX8_callAt 21 = .ok (.iload_n 2, 1) := by decide +kernel
theorem dX8_callAt_22 : decode cX8_callAt 22 = .ok (.iload_n 3, 1) := by decide +kernel
theorem dX8_callAt_23 : decode cX8_callAt 23 = .ok (.iconst 1, 1) := by decide +kernel
theorem dX8_callAt_24 : decode cX8_callAt 24 = .ok (.isub, 1) := by decide +kernel
theorem dX8_callAt_25 : decode cX8_callAt 25 = .ok (.invokevirtual 185, 3) := by decide +kernel
theorem dX8_callAt_28 : decode cX8_callAt 28 = .ok (.istore 4, 2) := by decide +kernel
theorem dX8_callAt_30 : decode cX8_callAt 30 = .ok (.iload 4, 2) := by decide +kernel
theorem dX8_callAt_32 : decode cX8_callAt 32 = .ok (.iconst (-1), 1) := by decide +kernel
theorem dX8_callAt_33 : decode cX8_callAt 33 = .ok (.if_icmp .ne 8, 3) := by decide +kernel
theorem dX8_callAt_36 : decode cX8_callAt 36 = .ok (.bipush (-2), 2) := by decide +kernel
theorem dX8_callAt_38 : decode cX8_callAt 38 = .ok (.goto 5, 3) := by decide +kernel
theorem dX8_callAt_41 : decode cX8_callAt 41 = .ok (.iload 4, 2) := by decide +kernel
theorem dX8_callAt_43 : decode cX8_callAt 43 = .ok (.ireturn, 1) := by decide +kernel
theorem dX9_init_0 : decode cX9_init 0 = .ok (.aload_n 0, 1) := by decide +kernel
theorem dX9_init_1 : decode cX9_init 1 = .ok (.invokespecial 1, 3) := by decide +kernel
theorem dX9_init_4 : decode cX9_init 4 = .ok (.aload_n 0, 1) := by decide +kernel
theorem dX9_init_5 : decode cX9_init 5 = .ok (.new 7, 3) := by decide +kernel
theorem dX9_init_8 : decode cX9_init 8 = .ok (.dup, 1) := by decide +kernel
theorem dX9_init_9 : decode cX9_init 9 = .ok (.invokespecial 9, 3) := by decide +kernel
theorem dX9_init_12 : decode cX9_init 12 = .ok (.putfield 10, 3) := by decide +kernel
theorem dX9_init_15 : decode cX9_init 15 = .ok (.aload_n 0, 1) := by decide +kernel
theorem dX9_init_16 : decode cX9_init 16 = .ok (.new 7, 3) := by decide +kernel
theorem dX9_init_19 : decode cX9_init 19 = .ok (.dup, 1) := by decide +kernel
theorem dX9_init_20 : decode cX9_init 20 = .ok (.invokespecial 9, 3) := by decide +kernel
theorem dX9_init_23 : decode cX9_init 23 = .ok (.putfield 16, 3) := by decide +kernel
theorem dX9_init_26 : decode cX9_init 26 = .ok (.aload_n 0, 1) := by decide +kernel
theorem dX9_init_27 : decode cX9_init 27 = .ok (.new 7, 3) := by decide +kernel
theorem dX9_init_30 : decode cX9_init 30 = .ok (.dup, 1) := by decide +kernel
theorem dX9_init_31 : decode cX9_init 31 = .ok (.invokespecial 9, 3) := by decide +kernel
theorem dX9_init_34 : decode cX9_init 34 = .ok (.putfield 19, 3) := by decide +kernel
theorem dX9_init_37 : decode cX9_init 37 = .ok (.aload_n 0, 1) := by decide +kernel
theorem dX9_init_38 : decode cX9_init 38 = .ok (.new 22, 3) := by decide +kernel
theorem dX9_init_41 : decode cX9_init 41 = .ok (.dup, 1) := by decide +kernel
theorem dX9_init_42 : decode cX9_init 42 = .ok (.invokespecial 24, 3) := by decide +kernel
theorem dX9_init_45 : decode cX9_init 45 = .ok (.putfield 25, 3) := by decide +kernel
theorem dX9_init_48 : decode cX9_init 48 = .ok (.aload_n 0, 1) := by decide +kernel
theorem dX9_init_49 : decode cX9_init 49 = .ok (.new 22, 3) := by decide +kernel
theorem dX9_init_52 : decode cX9_init 52 = .ok (.dup, 1) := by decide +kernel
theorem dX9_init_53 : decode cX9_init 53 = .ok (.invokespecial 24, 3) := by decide +kernel
theorem dX9_init_56 : decode cX9_init 56 = .ok (.putfield 29, 3) := by decide +kernel
theorem dX9_init_59 : decode cX9_init 59 = .ok (.aload_n 0, 1) := by decide +kernel
theorem dX9_init_60 : decode cX9_init 60 = .ok (.iconst 2, 1) := by decide +kernel
theorem dX9_init_61 : decode cX9_init 61 = .ok (.anewarray 32, 3) := by decide +kernel
theorem dX9_init_64 : decode cX9_init 64 = .ok (.putfield 34, 3) := by decide +kernel
theorem dX9_init_67 : decode cX9_init 67 = .ok (.iconst 0, 1) := by decide +kernel
theorem dX9_init_68 : decode cX9_init 68 = .ok (.istore_n 1, 1) := by decide +kernel
theorem dX9_init_69 : decode cX9_init 69 = .ok (.iload_n 1, 1) := by decide +kernel
theorem dX9_init_70 : decode cX9_init 70 = .ok (.iconst 2, 1) := by decide +kernel
theorem dX9_init_71 : decode cX9_init 71 = .ok (.if_icmp .ge 22, 3) := by decide +kernel
theorem dX9_init_74 : decode cX9_init 74 = .ok (.aload_n 0, 1) := by decide +kernel
theorem dX9_init_75 : decode cX9_init 75 = .ok (.getfield 34, 3) := by decide +kernel
theorem dX9_init_78 : decode cX9_init 78 = .ok (.iload_n 1, 1) := by decide +kernel
theorem dX9_init_79 : decode cX9_init 79 = .ok (.new 32, 3) := by decide +kernel
theorem dX9_init_82 : decode cX9_init 82 = .ok (.dup, 1) := by decide +kernel
theorem dX9_init_83 : decode cX9_init 83 = .ok (.invokespecial 38, 3) := by decide +kernel
theorem dX9_init_86 : decode cX9_init 86 = .ok (.aastore, 1) := by decide +kernel
theorem dX9_init_87 : decode cX9_init 87 = .ok (.iinc 1 1, 3) := by decide +kernel
theorem dX9_init_90 : decode cX9_init 90 = .ok (.goto (-21), 3) := by decide +kernel
theorem dX9_init_93 : decode cX9_init 93 = .ok (.aload_n 0, 1) := by decide +kernel
theorem dX9_init_94 : decode cX9_init 94 = .ok (.new 32, 3) := by decide +kernel
theorem dX9_init_97 : decode cX9_init 97 = .ok (.dup, 1) := by decide +kernel
theorem dX9_init_98 : decode cX9_init 98 = .ok (.invokespecial 38, 3) := by decide +kernel
theorem dX9_init_101 : decode cX9_init 101 = .ok (.putfield 39, 3) := by decide +kernel
theorem dX9_init_104 : decode cX9_init 104 = .ok (.aload_n 0, 1) := by decide +kernel
theorem dX9_init_105 : decode cX9_init 105 = .ok (.new 43, 3) := by decide +kernel
theorem dX9_init_108 : decode cX9_init 108 = .ok (.dup, 1) := by decide +kernel
theorem dX9_init_109 : decode cX9_init 109 = .ok (.invokespecial 45, 3) := by decide +kernel
theorem dX9_init_112 : decode cX9_init 112 = .ok (.putfield 46, 3) := by decide +kernel
theorem dX9_init_115 : decode cX9_init 115 = .ok (.aload_n 0, 1) := by decide +kernel
theorem dX9_init_116 : decode cX9_init 116 = .ok (.new 50, 3) := by decide +kernel
theorem dX9_init_119 : decode cX9_init 119 = .ok (.dup, 1) := by decide +kernel
theorem dX9_init_120 : decode cX9_init 120 = .ok (.invokespecial 52, 3) := by decide +kernel
theorem dX9_init_123 : decode cX9_init 123 = .ok (.putfield 53, 3) := by decide +kernel
theorem dX9_init_126 : decode cX9_init 126 = .ok (.aload_n 0, 1) := by decide +kernel
theorem dX9_init_127 : decode cX9_init 127 = .ok (.iconst (-1), 1) := by decide +kernel
theorem dX9_init_128 : decode cX9_init 128 = .ok (.putfield 57, 3) := by decide +kernel
theorem dX9_init_131 : decode cX9_init 131 = .ok (.return_, 1) := by decide +kernel
theorem dX9_feed_0 : decode cX9_feed 0 = .ok (.iload_n 1, 1) := by decide +kernel
theorem dX9_feed_1 : decode cX9_feed 1 = .ok (.iconst 1, 1) := by decide +kernel
theorem dX9_feed_2 : decode cX9_feed 2 = .ok (.if_icmp .lt 9, 3) := by decide +kernel
theorem dX9_feed_5 : decode cX9_feed 5 = .ok (.iload_n 1, 1) := by decide +kernel
theorem dX9_feed_6 : decode cX9_feed 6 = .ok (.bipush 8, 2) := by decide +kernel
theorem dX9_feed_8 : decode cX9_feed 8 = .ok (.if_icmp .le 13, 3) := by decide +kernel
theorem dX9_feed_11 : decode cX9_feed 11 = .ok (.new 61, 3) := by decide +kernel
theorem dX9_feed_14 : decode cX9_feed 14 = .ok (.dup, 1) := by decide +kernel
theorem dX9_feed_15 : decode cX9_feed 15 = .ok (.ldc 63, 2) := by decide +kernel
theorem dX9_feed_17 : decode cX9_feed 17 = .ok (.invokespecial 65, 3) := by decide +kernel
theorem dX9_feed_20 : decode cX9_feed 20 = .ok (.athrow, 1) := by decide +kernel
theorem dX9_feed_21 : decode cX9_feed 21 = .ok (.aload_n 0, 1) := by decide +kernel
theorem dX9_feed_22 : decode cX9_feed 22 = .ok (.getfield 10, 3) := by decide +kernel
theorem dX9_feed_25 : decode cX9_feed 25 = .ok (.getfield 68, 3) := by decide +kernel
theorem dX9_feed_28 : decode cX9_feed 28 = .ok (.iload_n 1, 1) := by decide +kernel
theorem dX9_feed_29 : decode cX9_feed 29 = .ok (.iadd, 1) := by decide +kernel
theorem dX9_feed_30 : decode cX9_feed 30 = .ok (.sipush 8000, 3) := by decide +kernel
theorem dX9_feed_33 : decode cX9_feed 33 = .ok (.if_icmp .le 13, 3) := by decide +kernel
theorem dX9_feed_36 : decode cX9_feed 36 = .ok (.new 61, 3) := by decide +kernel
theorem dX9_feed_39 : decode cX9_feed 39 = .ok (.dup, 1) := by decide +kernel
theorem dX9_feed_40 : decode cX9_feed 40 = .ok (.ldc 71, 2) := by decide +kernel
theorem dX9_feed_42 : decode cX9_feed 42 = .ok (.invokespecial 65, 3) := by decide +kernel
theorem dX9_feed_45 : decode cX9_feed 45 = .ok (.athrow, 1) := by decide +kernel
theorem dX9_feed_46 : decode cX9_feed 46 = .ok (.iconst 0, 1) := by decide +kernel
theorem dX9_feed_47 : decode cX9_feed 47 = .ok (.istore 4, 2) := by decide +kernel
theorem dX9_feed_49 : decode cX9_feed 49 = .ok (.iload 4, 2) := by decide +kernel
theorem dX9_feed_51 : decode cX9_feed 51 = .ok (.iload_n 1, 1) := by decide +kernel
theorem dX9_feed_52 : decode cX9_feed 52 = .ok (.if_icmp .ge 28, 3) := by decide +kernel
theorem dX9_feed_55 : decode cX9_feed 55 = .ok (.aload_n 0, 1) := by decide +kernel
theorem dX9_feed_56 : decode cX9_feed 56 = .ok (.getfield 10, 3) := by decide +kernel
theorem dX9_feed_59 : decode cX9_feed 59 = .ok (.lload_n 2, 1) := by decide +kernel
theorem dX9_feed_60 : decode cX9_feed 60 = .ok (.bipush 8, 2) := by decide +kernel
theorem dX9_feed_62 : decode cX9_feed 62 = .ok (.iload 4, 2) := by decide +kernel
theorem dX9_feed_64 : decode cX9_feed 64 = .ok (.imul, 1) := by decide +kernel
theorem dX9_feed_65 : decode cX9_feed 65 = .ok (.lshr, 1) := by decide +kernel
theorem dX9_feed_66 : decode cX9_feed 66 = .ok (.l2i, 1) := by decide +kernel
theorem dX9_feed_67 : decode cX9_feed 67 = .ok (.sipush 255, 3) := by decide +kernel
theorem dX9_feed_70 : decode cX9_feed 70 = .ok (.iand, 1) := by decide +kernel
theorem dX9_feed_71 : decode cX9_feed 71 = .ok (.invokevirtual 73, 3) := by decide +kernel
theorem dX9_feed_74 : decode cX9_feed 74 = .ok (.iinc 4 1, 3) := by decide +kernel
theorem dX9_feed_77 : decode cX9_feed 77 = .ok (.goto (-28), 3) := by decide +kernel
theorem dX9_feed_80 : decode cX9_feed 80 = .ok (.aload_n 0, 1) := by decide +kernel
theorem dX9_feed_81 : decode cX9_feed 81 = .ok (.getfield 10, 3) := by decide +kernel
theorem dX9_feed_84 : decode cX9_feed 84 = .ok (.getfield 68, 3) := by decide +kernel
theorem dX9_feed_87 : decode cX9_feed 87 = .ok (.ireturn, 1) := by decide +kernel
theorem dX9_reference_0 : decode cX9_reference 0 = .ok (.new 77, 3) := by decide +kernel
theorem dX9_reference_3 : decode cX9_reference 3 = .ok (.dup, 1) := by decide +kernel
theorem dX9_reference_4 : decode cX9_reference 4 = .ok (.aload_n 0, 1) := by decide +kernel
theorem dX9_reference_5 : decode cX9_reference 5 = .ok (.getfield 10, 3) := by decide +kernel
theorem dX9_reference_8 : decode cX9_reference 8 = .ok (.aload_n 0, 1) := by decide +kernel
theorem dX9_reference_9 : decode cX9_reference 9 = .ok (.getfield 29, 3) := by decide +kernel
theorem dX9_reference_12 : decode cX9_reference 12 = .ok (.invokespecial 79, 3) := by decide +kernel
theorem dX9_reference_15 : decode cX9_reference 15 = .ok (.astore_n 1, 1) := by decide +kernel
theorem dX9_reference_16 : decode cX9_reference 16 = .ok (.aload_n 1, 1) := by decide +kernel
theorem dX9_reference_17 : decode cX9_reference 17 = .ok (.invokevirtual 82, 3) := by decide +kernel
theorem dX9_reference_20 : decode cX9_reference 20 = .ok (.istore_n 2, 1) := by decide +kernel
theorem dX9_reference_21 : decode cX9_reference 21 = .ok (.aload_n 0, 1) := by decide +kernel
theorem dX9_reference_22 : decode cX9_reference 22 = .ok (.getfield 10, 3) := by decide +kernel
theorem dX9_reference_25 : decode cX9_reference 25 = .ok (.invokevirtual 86, 3) := by decide +kernel
theorem dX9_reference_28 : decode cX9_reference 28 = .ok (.iload_n 2, 1) := by decide +kernel
theorem dX9_reference_29 : decode cX9_reference 29 = .ok (.ifCond .ne 17, 3) := by decide +kernel
theorem dX9_reference_32 : decode cX9_reference 32 = .ok (.aload_n 0, 1) := by decide +kernel
theorem dX9_reference_33 : decode cX9_reference 33 = .ok (.aload_n 1, 1) := by decide +kernel
theorem dX9_reference_34 : decode cX9_reference 34 = .ok (.getfield 89, 3) := by decide +kernel
theorem dX9_reference_37 : decode cX9_reference 37 = .ok (.putfield 57, 3) := by decide +kernel
theorem dX9_reference_40 : decode cX9_reference 40 = .ok (.aload_n 1, 1) := by decide +kernel
theorem dX9_reference_41 : decode cX9_reference 41 = .ok (.getfield 90, 3) := by decide +kernel
theorem dX9_reference_44 : decode cX9_reference 44 = .ok (.ineg, 1) := by decide +kernel
theorem dX9_reference_45 : decode cX9_reference 45 = .ok (.ireturn, 1) := by decide +kernel
theorem dX9_reference_46 : decode cX9_reference 46 = .ok (.aload_n 0, 1) := by decide +kernel
theorem dX9_reference_47 : decode cX9_reference 47 = .ok (.getfield 25, 3) := by decide +kernel
theorem dX9_reference_50 : decode cX9_reference 50 = .ok (.astore_n 3, 1) := by decide +kernel
theorem dX9_reference_51 : decode cX9_reference 51 = .ok (.aload_n 0, 1) := by decide +kernel
theorem dX9_reference_52 : decode cX9_reference 52 = .ok (.aload_n 0, 1) := by decide +kernel
theorem dX9_reference_53 : decode cX9_reference 53 = .ok (.getfield 29, 3) := by decide +kernel
theorem dX9_reference_56 : decode cX9_reference 56 = .ok (.putfield 25, 3) := by decide +kernel
theorem dX9_reference_59 : decode cX9_reference 59 = .ok (.aload_n 0, 1) := by decide +kernel
theorem dX9_reference_60 : decode cX9_reference 60 = .ok (.aload_n 3, 1) := by decide +kernel
theorem dX9_reference_61 : decode cX9_reference 61 = .ok (.putfield 29, 3) := by decide +kernel
theorem dX9_reference_64 : decode cX9_reference 64 = .ok (.iconst 0, 1) := by decide +kernel
theorem dX9_reference_65 : decode cX9_reference 65 = .ok (.istore 4, 2) := by decide +kernel
theorem dX9_reference_67 : decode cX9_reference 67 = .ok (.iload 4, 2) := by decide +kernel
theorem dX9_reference_69 : decode cX9_reference 69 = .ok (.iconst 2, 1) := by decide +kernel
theorem dX9_reference_70 : decode cX9_reference 70 = .ok (.if_icmp .ge 19, 3) := by decide +kernel
theorem dX9_reference_73 : decode cX9_reference 73 = .ok (.aload_n 0, 1) := by decide +kernel
theorem dX9_reference_74 : decode cX9_reference 74 = .ok (.getfield 34, 3) := by decide +kernel
theorem dX9_reference_77 : decode cX9_reference 77 = .ok (.iload 4, 2) := by decide +kernel
theorem dX9_reference_79 : decode cX9_reference 79 = .ok (.aaload, 1) := by decide +kernel
theorem dX9_reference_80 : decode cX9_reference 80 = .ok (.invokevirtual 93, 3) := by decide +kernel
theorem dX9_reference_83 : decode cX9_reference 83 = .ok (.iinc 4 1, 3) := by decide +kernel
theorem dX9_reference_86 : decode cX9_reference 86 = .ok (.goto (-19), 3) := by decide +kernel
theorem dX9_reference_89 : decode cX9_reference 89 = .ok (.aload_n 0, 1) := by decide +kernel
theorem dX9_reference_90 : decode cX9_reference 90 = .ok (.getfield 53, 3) := by decide +kernel
theorem dX9_reference_93 : decode cX9_reference 93 = .ok (.invokevirtual 94, 3) := by decide +kernel
theorem dX9_reference_96 : decode cX9_reference 96 = .ok (.aload_n 0, 1) := by decide +kernel
theorem dX9_reference_97 : decode cX9_reference 97 = .ok (.getfield 25, 3) := by decide +kernel
theorem dX9_reference_100 : decode cX9_reference 100 = .ok (.getfield 95, 3) := by decide +kernel
theorem dX9_reference_103 : decode cX9_reference 103 = .ok (.ireturn, 1) := by decide +kernel
theorem dX9_read_0 : decode cX9_read 0 = .ok (.aload_n 0, 1) := by decide +kernel
theorem dX9_read_1 : decode cX9_read 1 = .ok (.iload_n 1, 1) := by decide +kernel
theorem dX9_read_2 : decode cX9_read 2 = .ok (.invokevirtual 98, 3) := by decide +kernel
theorem dX9_read_5 : decode cX9_read 5 = .ok (.pop, 1) := by decide +kernel
theorem dX9_read_6 : decode cX9_read 6 = .ok (.new 102, 3) := by decide +kernel
theorem dX9_read_9 : decode cX9_read 9 = .ok (.dup, 1) := by decide +kernel
theorem dX9_read_10 : decode cX9_read 10 = .ok (.aload_n 0, 1) := by decide +kernel
theorem dX9_read_11 : decode cX9_read 11 = .ok (.getfield 10, 3) := by decide +kernel
theorem dX9_read_14 : decode cX9_read 14 = .ok (.aload_n 0, 1) := by decide +kernel
theorem dX9_read_15 : decode cX9_read 15 = .ok (.getfield 25, 3) := by decide +kernel
theorem dX9_read_18 : decode cX9_read 18 = .ok (.aload_n 0, 1) := by decide +kernel
theorem dX9_read_19 : decode cX9_read 19 = .ok (.getfield 39, 3) := by decide +kernel
theorem dX9_read_22 : decode cX9_read 22 = .ok (.invokespecial 104, 3) := by decide +kernel
theorem dX9_read_25 : decode cX9_read 25 = .ok (.astore_n 2, 1) := by decide +kernel
theorem dX9_read_26 : decode cX9_read 26 = .ok (.aload_n 2, 1) := by decide +kernel
theorem dX9_read_27 : decode cX9_read 27 = .ok (.invokevirtual 107, 3) := by decide +kernel
theorem dX9_read_30 : decode cX9_read 30 = .ok (.istore_n 3, 1) := by decide +kernel
theorem dX9_read_31 : decode cX9_read 31 = .ok (.aload_n 0, 1) := by decide +kernel
theorem dX9_read_32 : decode cX9_read 32 = .ok (.getfield 10, 3) := by decide +kernel
theorem dX9_read_35 : decode cX9_read 35 = .ok (.invokevirtual 86, 3) := by decide +kernel
theorem dX9_read_38 : decode cX9_read 38 = .ok (.iload_n 3, 1) := by decide +kernel
theorem dX9_read_39 : decode cX9_read 39 = .ok (.ifCond .ne 17, 3) := by decide +kernel
theorem dX9_read_42 : decode cX9_read 42 = .ok (.aload_n 0, 1) := by decide +kernel
theorem dX9_read_43 : decode cX9_read 43 = .ok (.aload_n 2, 1) := by decide +kernel
theorem dX9_read_44 : decode cX9_read 44 = .ok (.getfield 108, 3) := by decide +kernel
theorem dX9_read_47 : decode cX9_read 47 = .ok (.putfield 57, 3) := by decide +kernel
theorem dX9_read_50 : decode cX9_read 50 = .ok (.aload_n 2, 1) := by decide +kernel
theorem dX9_read_51 : decode cX9_read 51 = .ok (.getfield 109, 3) := by decide +kernel
theorem dX9_read_54 : decode cX9_read 54 = .ok (.ineg, 1) := by decide +kernel
theorem dX9_read_55 : decode cX9_read 55 = .ok (.ireturn, 1) := by decide +kernel
theorem dX9_read_56 : decode cX9_read 56 = .ok (.aload_n 0, 1) := by decide +kernel
theorem dX9_read_57 : decode cX9_read 57 = .ok (.iload_n 1, 1) := by decide +kernel
theorem dX9_read_58 : decode cX9_read 58 = .ok (.invokevirtual 110, 3) := by decide +kernel
theorem dX9_read_61 : decode cX9_read 61 = .ok (.aload_n 0, 1) := by decide +kernel
theorem dX9_read_62 : decode cX9_read 62 = .ok (.getfield 34, 3) := by decide +kernel
theorem dX9_read_65 : decode cX9_read 65 = .ok (.iload_n 1, 1) := by decide +kernel
theorem dX9_read_66 : decode cX9_read 66 = .ok (.aaload, 1) := by decide +kernel
theorem dX9_read_67 : decode cX9_read 67 = .ok (.getfield 113, 3) := by decide +kernel
theorem dX9_read_70 : decode cX9_read 70 = .ok (.ireturn, 1) := by decide +kernel
theorem dX9_place_0 : decode cX9_place 0 = .ok (.aload_n 0, 1) := by decide +kernel
theorem dX9_place_1 : decode cX9_place 1 = .ok (.getfield 57, 3) := by decide +kernel
theorem dX9_place_4 : decode cX9_place 4 = .ok (.ireturn, 1) := by decide +kernel
theorem dX9_sequence_0 : decode cX9_sequence 0 = .ok (.aload_n 0, 1) := by decide +kernel
theorem dX9_sequence_1 : decode cX9_sequence 1 = .ok (.iload_n 1, 1) := by decide +kernel
theorem dX9_sequence_2 : decode cX9_sequence 2 = .ok (.invokevirtual 114, 3) := by decide +kernel
theorem dX9_sequence_5 : decode cX9_sequence 5 = .ok (.iload_n 2, 1) := by decide +kernel
theorem dX9_sequence_6 : decode cX9_sequence 6 = .ok (.tableswitch 72 0 3 #[30, 40, 50, 60], 30) := by decide +kernel
theorem dX9_sequence_36 : decode cX9_sequence 36 = .ok (.aload_n 0, 1) := by decide +kernel
theorem dX9_sequence_37 : decode cX9_sequence 37 = .ok (.getfield 25, 3) := by decide +kernel
theorem dX9_sequence_40 : decode cX9_sequence 40 = .ok (.getfield 117, 3) := by decide +kernel
theorem dX9_sequence_43 : decode cX9_sequence 43 = .ok (.iload_n 1, 1) := by decide +kernel
theorem dX9_sequence_44 : decode cX9_sequence 44 = .ok (.iaload, 1) := by decide +kernel
theorem dX9_sequence_45 : decode cX9_sequence 45 = .ok (.ireturn, 1) := by decide +kernel
theorem dX9_sequence_46 : decode cX9_sequence 46 = .ok (.aload_n 0, 1) := by decide +kernel
theorem dX9_sequence_47 : decode cX9_sequence 47 = .ok (.getfield 25, 3) := by decide +kernel
theorem dX9_sequence_50 : decode cX9_sequence 50 = .ok (.getfield 120, 3) := by decide +kernel
theorem dX9_sequence_53 : decode cX9_sequence 53 = .ok (.iload_n 1, 1) := by decide +kernel
theorem dX9_sequence_54 : decode cX9_sequence 54 = .ok (.iaload, 1) := by decide +kernel
theorem dX9_sequence_55 : decode cX9_sequence 55 = .ok (.ireturn, 1) := by decide +kernel
theorem dX9_sequence_56 : decode cX9_sequence 56 = .ok (.aload_n 0, 1) := by decide +kernel
theorem dX9_sequence_57 : decode cX9_sequence 57 = .ok (.getfield 25, 3) := by decide +kernel
theorem dX9_sequence_60 : decode cX9_sequence 60 = .ok (.getfield 123, 3) := by decide +kernel
theorem dX9_sequence_63 : decode cX9_sequence 63 = .ok (.iload_n 1, 1) := by decide +kernel
theorem dX9_sequence_64 : decode cX9_sequence 64 = .ok (.iaload, 1) := by decide +kernel
theorem dX9_sequence_65 : decode cX9_sequence 65 = .ok (.ireturn, 1) := by decide +kernel
theorem dX9_sequence_66 : decode cX9_sequence 66 = .ok (.aload_n 0, 1) := by decide +kernel
theorem dX9_sequence_67 : decode cX9_sequence 67 = .ok (.getfield 25, 3) := by decide +kernel
theorem dX9_sequence_70 : decode cX9_sequence 70 = .ok (.getfield 126, 3) := by decide +kernel
theorem dX9_sequence_73 : decode cX9_sequence 73 = .ok (.iload_n 1, 1) := by decide +kernel
theorem dX9_sequence_74 : decode cX9_sequence 74 = .ok (.invokevirtual 130, 3) := by decide +kernel
theorem dX9_sequence_77 : decode cX9_sequence 77 = .ok (.ireturn, 1) := by decide +kernel
theorem dX9_sequence_78 : decode cX9_sequence 78 = .ok (.new 136, 3) := by decide +kernel
theorem dX9_sequence_81 : decode cX9_sequence 81 = .ok (.dup, 1) := by decide +kernel
theorem dX9_sequence_82 : decode cX9_sequence 82 = .ok (.ldc 138, 2) := by decide +kernel
theorem dX9_sequence_84 : decode cX9_sequence 84 = .ok (.invokespecial 140, 3) := by decide +kernel
theorem dX9_sequence_87 : decode cX9_sequence 87 = .ok (.athrow, 1) := by decide +kernel
theorem dX9_letter_0 : decode cX9_letter 0 = .ok (.aload_n 0, 1) := by decide +kernel
theorem dX9_letter_1 : decode cX9_letter 1 = .ok (.iload_n 1, 1) := by decide +kernel
theorem dX9_letter_2 : decode cX9_letter 2 = .ok (.invokevirtual 114, 3) := by decide +kernel
theorem dX9_letter_5 : decode cX9_letter 5 = .ok (.iload_n 2, 1) := by decide +kernel
theorem dX9_letter_6 : decode cX9_letter 6 = .ok (.ifCond .le 15, 3) := by decide +kernel
theorem dX9_letter_9 : decode cX9_letter 9 = .ok (.aload_n 0, 1) := by decide +kernel
theorem dX9_letter_10 : decode cX9_letter 10 = .ok (.getfield 25, 3) := by decide +kernel
theorem dX9_letter_13 : decode cX9_letter 13 = .ok (.iload_n 1, 1) := by decide +kernel
theorem dX9_letter_14 : decode cX9_letter 14 = .ok (.iload_n 2, 1) := by decide +kernel
theorem dX9_letter_15 : decode cX9_letter 15 = .ok (.invokevirtual 141, 3) := by decide +kernel
theorem dX9_letter_18 : decode cX9_letter 18 = .ok (.goto 16, 3) := by decide +kernel
theorem dX9_letter_21 : decode cX9_letter 21 = .ok (.aload_n 0, 1) := by decide +kernel
theorem dX9_letter_22 : decode cX9_letter 22 = .ok (.getfield 25, 3) := by decide +kernel
theorem dX9_letter_25 : decode cX9_letter 25 = .ok (.getfield 126, 3) := by decide +kernel
theorem dX9_letter_28 : decode cX9_letter 28 = .ok (.iload_n 1, 1) := by decide +kernel
theorem dX9_letter_29 : decode cX9_letter 29 = .ok (.iload_n 2, 1) := by decide +kernel
theorem dX9_letter_30 : decode cX9_letter 30 = .ok (.ineg, 1) := by decide +kernel
theorem dX9_letter_31 : decode cX9_letter 31 = .ok (.invokevirtual 145, 3) := by decide +kernel
theorem dX9_letter_34 : decode cX9_letter 34 = .ok (.istore_n 3, 1) := by decide +kernel
theorem dX9_letter_35 : decode cX9_letter 35 = .ok (.iload_n 3, 1) := by decide +kernel
theorem dX9_letter_36 : decode cX9_letter 36 = .ok (.iconst (-1), 1) := by decide +kernel
theorem dX9_letter_37 : decode cX9_letter 37 = .ok (.if_icmp .ne 13, 3) := by decide +kernel
theorem dX9_letter_40 : decode cX9_letter 40 = .ok (.new 136, 3) := by decide +kernel
theorem dX9_letter_43 : decode cX9_letter 43 = .ok (.dup, 1) := by decide +kernel
theorem dX9_letter_44 : decode cX9_letter 44 = .ok (.ldc 148, 2) := by decide +kernel
theorem dX9_letter_46 : decode cX9_letter 46 = .ok (.invokespecial 140, 3) := by decide +kernel
theorem dX9_letter_49 : decode cX9_letter 49 = .ok (.athrow, 1) := by decide +kernel
theorem dX9_letter_50 : decode cX9_letter 50 = .ok (.iload_n 3, 1) := by decide +kernel
theorem dX9_letter_51 : decode cX9_letter 51 = .ok (.ireturn, 1) := by decide +kernel
theorem dX9_table_0 : decode cX9_table 0 = .ok (.aload_n 0, 1) := by decide +kernel
theorem dX9_table_1 : decode cX9_table 1 = .ok (.iload_n 1, 1) := by decide +kernel
theorem dX9_table_2 : decode cX9_table 2 = .ok (.invokevirtual 98, 3) := by decide +kernel
theorem dX9_table_5 : decode cX9_table 5 = .ok (.astore_n 3, 1) := by decide +kernel
theorem dX9_table_6 : decode cX9_table 6 = .ok (.iload_n 2, 1) := by decide +kernel
theorem dX9_table_7 : decode cX9_table 7 = .ok (.ifCond .lt 8, 3) := by decide +kernel
theorem dX9_table_10 : decode cX9_table 10 = .ok (.iload_n 2, 1) := by decide +kernel
theorem dX9_table_11 : decode cX9_table 11 = .ok (.iconst 4, 1) := by decide +kernel
theorem dX9_table_12 : decode cX9_table 12 = .ok (.if_icmp .le 13, 3) := by decide +kernel
theorem dX9_table_15 : decode cX9_table 15 = .ok (.new 136, 3) := by decide +kernel
theorem dX9_table_18 : decode cX9_table 18 = .ok (.dup, 1) := by decide +kernel
theorem dX9_table_19 : decode cX9_table 19 = .ok (.ldc 150, 2) := by decide +kernel
theorem dX9_table_21 : decode cX9_table 21 = .ok (.invokespecial 140, 3) := by decide +kernel
theorem dX9_table_24 : decode cX9_table 24 = .ok (.athrow, 1) := by decide +kernel
theorem dX9_table_25 : decode cX9_table 25 = .ok (.iload_n 2, 1) := by decide +kernel
theorem dX9_table_26 : decode cX9_table 26 = .ok (.ifCond .ne 8, 3) := by decide +kernel
theorem dX9_table_29 : decode cX9_table 29 = .ok (.aload_n 3, 1) := by decide +kernel
theorem dX9_table_30 : decode cX9_table 30 = .ok (.getfield 113, 3) := by decide +kernel
theorem dX9_table_33 : decode cX9_table 33 = .ok (.ireturn, 1) := by decide +kernel
theorem dX9_table_34 : decode cX9_table 34 = .ok (.iload_n 2, 1) := by decide +kernel
theorem dX9_table_35 : decode cX9_table 35 = .ok (.iconst 1, 1) := by decide +kernel
theorem dX9_table_36 : decode cX9_table 36 = .ok (.if_icmp .ne 11, 3) := by decide +kernel
theorem dX9_table_39 : decode cX9_table 39 = .ok (.aload_n 3, 1) := by decide +kernel
theorem dX9_table_40 : decode cX9_table 40 = .ok (.getfield 152, 3) := by decide +kernel
theorem dX9_table_43 : decode cX9_table 43 = .ok (.getfield 153, 3) := by decide +kernel
theorem dX9_table_46 : decode cX9_table 46 = .ok (.ireturn, 1) := by decide +kernel
theorem dX9_table_47 : decode cX9_table 47 = .ok (.aload_n 3, 1) := by decide +kernel
theorem dX9_table_48 : decode cX9_table 48 = .ok (.getfield 152, 3) := by decide +kernel
theorem dX9_table_51 : decode cX9_table 51 = .ok (.iload_n 2, 1) := by decide +kernel
theorem dX9_table_52 : decode cX9_table 52 = .ok (.iconst 2, 1) := by decide +kernel
theorem dX9_table_53 : decode cX9_table 53 = .ok (.isub, 1) := by decide +kernel
theorem dX9_table_54 : decode cX9_table 54 = .ok (.invokevirtual 130, 3) := by decide +kernel
theorem dX9_table_57 : decode cX9_table 57 = .ok (.ireturn, 1) := by decide +kernel
theorem dX9_record_0 : decode cX9_record 0 = .ok (.aload_n 0, 1) := by decide +kernel
theorem dX9_record_1 : decode cX9_record 1 = .ok (.iload_n 1, 1) := by decide +kernel
theorem dX9_record_2 : decode cX9_record 2 = .ok (.iload_n 2, 1) := by decide +kernel
theorem dX9_record_3 : decode cX9_record 3 = .ok (.invokevirtual 154, 3) := by decide +kernel
theorem dX9_record_6 : decode cX9_record 6 = .ok (.astore 4, 2) := by decide +kernel
theorem dX9_record_8 : decode cX9_record 8 = .ok (.iload_n 3, 1) := by decide +kernel
theorem dX9_record_9 : decode cX9_record 9 = .ok (.tableswitch 85 0 5 #[39, 45, 51, 59, 65, 79], 39) := by decide +kernel
theorem dX9_record_48 : decode cX9_record 48 = .ok (.aload 4, 2) := by decide +kernel
theorem dX9_record_50 : decode cX9_record 50 = .ok (.getfield 158, 3) := by decide +kernel
theorem dX9_record_53 : decode cX9_record 53 = .ok (.ireturn, 1) := by decide +kernel
theorem dX9_record_54 : decode cX9_record 54 = .ok (.aload 4, 2) := by decide +kernel
theorem dX9_record_56 : decode cX9_record 56 = .ok (.getfield 163, 3) := by decide +kernel
theorem dX9_record_59 : decode cX9_record 59 = .ok (.ireturn, 1) := by decide +kernel
theorem dX9_record_60 : decode cX9_record 60 = .ok (.aload 4, 2) := by decide +kernel
theorem dX9_record_62 : decode cX9_record 62 = .ok (.getfield 166, 3) := by decide +kernel
theorem dX9_record_65 : decode cX9_record 65 = .ok (.iconst 1, 1) := by decide +kernel
theorem dX9_record_66 : decode cX9_record 66 = .ok (.isub, 1) := by decide +kernel
theorem dX9_record_67 : decode cX9_record 67 = .ok (.ireturn, 1) := by decide +kernel
theorem dX9_record_68 : decode cX9_record 68 = .ok (.aload 4, 2) := by decide +kernel
theorem dX9_record_70 : decode cX9_record 70 = .ok (.getfield 169, 3) := by decide +kernel
theorem dX9_record_73 : decode cX9_record 73 = .ok (.ireturn, 1) := by decide +kernel
theorem dX9_record_74 : decode cX9_record 74 = .ok (.aload 4, 2) := by decide +kernel
theorem dX9_record_76 : decode cX9_record 76 = .ok (.getfield 172, 3) := by decide +kernel
theorem dX9_record_79 : decode cX9_record 79 = .ok (.ifCond .eq 7, 3) := by decide +kernel
theorem dX9_record_82 : decode cX9_record 82 = .ok (.iconst 1, 1) := by decide +kernel
theorem dX9_record_83 : decode cX9_record 83 = .ok (.goto 4, 3) := by decide +kernel
theorem dX9_record_86 : decode cX9_record 86 = .ok (.iconst 0, 1) := by decide +kernel
theorem dX9_record_87 : decode cX9_record 87 = .ok (.ireturn, 1) := by decide +kernel
theorem dX9_record_88 : decode cX9_record 88 = .ok (.aload 4, 2) := by decide +kernel
theorem dX9_record_90 : decode cX9_record 90 = .ok (.getfield 176, 3) := by decide +kernel
theorem dX9_record_93 : decode cX9_record 93 = .ok (.ireturn, 1) := by decide +kernel
theorem dX9_record_94 : decode cX9_record 94 = .ok (.new 136, 3) := by decide +kernel
theorem dX9_record_97 : decode cX9_record 97 = .ok (.dup, 1) := by decide +kernel
theorem dX9_record_98 : decode cX9_record 98 = .ok (.ldc 179, 2) := by decide +kernel
theorem dX9_record_100 : decode cX9_record 100 = .ok (.invokespecial 140, 3) := by decide +kernel
theorem dX9_record_103 : decode cX9_record 103 = .ok (.athrow, 1) := by decide +kernel
theorem dX9_row_0 : decode cX9_row 0 = .ok (.aload_n 0, 1) := by decide +kernel
theorem dX9_row_1 : decode cX9_row 1 = .ok (.iload_n 1, 1) := by decide +kernel
theorem dX9_row_2 : decode cX9_row 2 = .ok (.iload_n 2, 1) := by decide +kernel
theorem dX9_row_3 : decode cX9_row 3 = .ok (.invokevirtual 154, 3) := by decide +kernel
theorem dX9_row_6 : decode cX9_row 6 = .ok (.astore 5, 2) := by decide +kernel
theorem dX9_row_8 : decode cX9_row 8 = .ok (.iload_n 3, 1) := by decide +kernel
theorem dX9_row_9 : decode cX9_row 9 = .ok (.ifCond .lt 12, 3) := by decide +kernel
theorem dX9_row_12 : decode cX9_row 12 = .ok (.iload_n 3, 1) := by decide +kernel
theorem dX9_row_13 : decode cX9_row 13 = .ok (.aload 5, 2) := by decide +kernel
theorem dX9_row_15 : decode cX9_row 15 = .ok (.getfield 166, 3) := by decide +kernel
theorem dX9_row_18 : decode cX9_row 18 = .ok (.if_icmp .lt 13, 3) := by decide +kernel
theorem dX9_row_21 : decode cX9_row 21 = .ok (.new 136, 3) := by decide +kernel
theorem dX9_row_24 : decode cX9_row 24 = .ok (.dup, 1) := by decide +kernel
theorem dX9_row_25 : decode cX9_row 25 = .ok (.ldc 181, 2) := by decide +kernel
theorem dX9_row_27 : decode cX9_row 27 = .ok (.invokespecial 140, 3) := by decide +kernel
theorem dX9_row_30 : decode cX9_row 30 = .ok (.athrow, 1) := by decide +kernel
theorem dX9_row_31 : decode cX9_row 31 = .ok (.iload 4, 2) := by decide +kernel
theorem dX9_row_33 : decode cX9_row 33 = .ok (.iconst (-1), 1) := by decide +kernel
theorem dX9_row_34 : decode cX9_row 34 = .ok (.if_icmp .ne 13, 3) := by decide +kernel
theorem dX9_row_37 : decode cX9_row 37 = .ok (.aload 5, 2) := by decide +kernel
theorem dX9_row_39 : decode cX9_row 39 = .ok (.getfield 183, 3) := by decide +kernel
theorem dX9_row_42 : decode cX9_row 42 = .ok (.iload_n 3, 1) := by decide +kernel
theorem dX9_row_43 : decode cX9_row 43 = .ok (.iaload, 1) := by decide +kernel
theorem dX9_row_44 : decode cX9_row 44 = .ok (.goto 11, 3) := by decide +kernel
theorem dX9_row_47 : decode cX9_row 47 = .ok (.aload 5, 2) := by decide +kernel
theorem dX9_row_49 : decode cX9_row 49 = .ok (.iload_n 3, 1) := by decide +kernel
theorem dX9_row_50 : decode cX9_row 50 = .ok (.iload 4, 2) := by decide +kernel
theorem dX9_row_52 : decode cX9_row 52 = .ok (.invokevirtual 186, 3) := by decide +kernel
theorem dX9_row_55 : decode cX9_row 55 = .ok (.ireturn, 1) := by decide +kernel
theorem dX9_call_0 : decode cX9_call 0 = .ok (.aload_n 0, 1) := by decide +kernel
theorem dX9_call_1 : decode cX9_call 1 = .ok (.iload_n 1, 1) := by decide +kernel
theorem dX9_call_2 : decode cX9_call 2 = .ok (.iload_n 2, 1) := by decide +kernel
theorem dX9_call_3 : decode cX9_call 3 = .ok (.invokevirtual 154, 3) := by decide +kernel
theorem dX9_call_6 : decode cX9_call 6 = .ok (.astore 5, 2) := by decide +kernel
theorem dX9_call_8 : decode cX9_call 8 = .ok (.aload_n 0, 1) := by decide +kernel
theorem dX9_call_9 : decode cX9_call 9 = .ok (.iload_n 1, 1) := by decide +kernel
theorem dX9_call_10 : decode cX9_call 10 = .ok (.iload_n 3, 1) := by decide +kernel
theorem dX9_call_11 : decode cX9_call 11 = .ok (.invokevirtual 187, 3) := by decide +kernel
theorem dX9_call_14 : decode cX9_call 14 = .ok (.iload 4, 2) := by decide +kernel
theorem dX9_call_16 : decode cX9_call 16 = .ok (.tableswitch 65 0 3 #[32, 32, 41, 49], 32) := by decide +kernel
theorem dX9_call_48 : decode cX9_call 48 = .ok (.aload 5, 2) := by decide +kernel
theorem dX9_call_50 : decode cX9_call 50 = .ok (.iload_n 3, 1) := by decide +kernel
theorem dX9_call_51 : decode cX9_call 51 = .ok (.iload 4, 2) := by decide +kernel
theorem dX9_call_53 : decode cX9_call 53 = .ok (.invokevirtual 191, 3) := by decide +kernel
theorem dX9_call_56 : decode cX9_call 56 = .ok (.ireturn, 1) := by decide +kernel
theorem dX9_call_57 : decode cX9_call 57 = .ok (.aload 5, 2) := by decide +kernel
theorem dX9_call_59 : decode cX9_call 59 = .ok (.getfield 194, 3) := by decide +kernel
theorem dX9_call_62 : decode cX9_call 62 = .ok (.iload_n 3, 1) := by decide +kernel
theorem dX9_call_63 : decode cX9_call 63 = .ok (.iaload, 1) := by decide +kernel
theorem dX9_call_64 : decode cX9_call 64 = .ok (.ireturn, 1) := by decide +kernel
theorem dX9_call_65 : decode cX9_call 65 = .ok (.aload 5, 2) := by decide +kernel
theorem dX9_call_67 : decode cX9_call 67 = .ok (.getfield 197, 3) := by decide +kernel
theorem dX9_call_70 : decode cX9_call 70 = .ok (.iload_n 3, 1) := by decide +kernel
theorem dX9_call_71 : decode cX9_call 71 = .ok (.baload, 1) := by decide +kernel
theorem dX9_call_72 : decode cX9_call 72 = .ok (.ifCond .eq 7, 3) := by decide +kernel
theorem dX9_call_75 : decode cX9_call 75 = .ok (.iconst 1, 1) := by decide +kernel
theorem dX9_call_76 : decode cX9_call 76 = .ok (.goto 4, 3) := by decide +kernel
theorem dX9_call_79 : decode cX9_call 79 = .ok (.iconst 0, 1) := by decide +kernel
theorem dX9_call_80 : decode cX9_call 80 = .ok (.ireturn, 1) := by decide +kernel
theorem dX9_call_81 : decode cX9_call 81 = .ok (.new 136, 3) := by decide +kernel
theorem dX9_call_84 : decode cX9_call 84 = .ok (.dup, 1) := by decide +kernel
theorem dX9_call_85 : decode cX9_call 85 = .ok (.ldc 201, 2) := by decide +kernel
theorem dX9_call_87 : decode cX9_call 87 = .ok (.invokespecial 140, 3) := by decide +kernel
theorem dX9_call_90 : decode cX9_call 90 = .ok (.athrow, 1) := by decide +kernel
theorem dX9_normalise_0 : decode cX9_normalise 0 = .ok (.aload_n 0, 1) := by decide +kernel
theorem dX9_normalise_1 : decode cX9_normalise 1 = .ok (.iload_n 1, 1) := by decide +kernel
theorem dX9_normalise_2 : decode cX9_normalise 2 = .ok (.invokevirtual 98, 3) := by decide +kernel
theorem dX9_normalise_5 : decode cX9_normalise 5 = .ok (.astore_n 2, 1) := by decide +kernel
theorem dX9_normalise_6 : decode cX9_normalise 6 = .ok (.iconst 0, 1) := by decide +kernel
theorem dX9_normalise_7 : decode cX9_normalise 7 = .ok (.istore_n 3, 1) := by decide +kernel
theorem dX9_normalise_8 : decode cX9_normalise 8 = .ok (.iconst 0, 1) := by decide +kernel
theorem dX9_normalise_9 : decode cX9_normalise 9 = .ok (.istore 4, 2) := by decide +kernel
theorem dX9_normalise_11 : decode cX9_normalise 11 = .ok (.iload 4, 2) := by decide +kernel
theorem dX9_normalise_13 : decode cX9_normalise 13 = .ok (.aload_n 2, 1) := by decide +kernel
theorem dX9_normalise_14 : decode cX9_normalise 14 = .ok (.getfield 113, 3) := by decide +kernel
theorem dX9_normalise_17 : decode cX9_normalise 17 = .ok (.if_icmp .ge 29, 3) := by decide +kernel
theorem dX9_normalise_20 : decode cX9_normalise 20 = .ok (.aload_n 2, 1) := by decide +kernel
theorem dX9_normalise_21 : decode cX9_normalise 21 = .ok (.getfield 203, 3) := by decide +kernel
theorem dX9_normalise_24 : decode cX9_normalise 24 = .ok (.iload 4, 2) := by decide +kernel
theorem dX9_normalise_26 : decode cX9_normalise 26 = .ok (.aaload, 1) := by decide +kernel
theorem dX9_normalise_27 : decode cX9_normalise 27 = .ok (.aload_n 0, 1) := by decide +kernel
theorem dX9_normalise_28 : decode cX9_normalise 28 = .ok (.getfield 25, 3) := by decide +kernel
theorem dX9_normalise_31 : decode cX9_normalise 31 = .ok (.invokevirtual 207, 3) := by decide +kernel
theorem dX9_normalise_34 : decode cX9_normalise 34 = .ok (.ifCond .eq 6, 3) := by decide +kernel
theorem dX9_normalise_37 : decode cX9_normalise 37 = .ok (.iinc 3 1, 3) := by decide +kernel
theorem dX9_normalise_40 : decode cX9_normalise 40 = .ok (.iinc 4 1, 3) := by decide +kernel
theorem dX9_normalise_43 : decode cX9_normalise 43 = .ok (.goto (-32), 3) := by decide +kernel
theorem dX9_normalise_46 : decode cX9_normalise 46 = .ok (.iload_n 3, 1) := by decide +kernel
theorem dX9_normalise_47 : decode cX9_normalise 47 = .ok (.ireturn, 1) := by decide +kernel
theorem dX9_split_0 : decode cX9_split 0 = .ok (.aload_n 0, 1) := by decide +kernel
theorem dX9_split_1 : decode cX9_split 1 = .ok (.iload_n 1, 1) := by decide +kernel
theorem dX9_split_2 : decode cX9_split 2 = .ok (.invokevirtual 98, 3) := by decide +kernel
theorem dX9_split_5 : decode cX9_split 5 = .ok (.astore_n 2, 1) := by decide +kernel
theorem dX9_split_6 : decode cX9_split 6 = .ok (.aload_n 2, 1) := by decide +kernel
theorem dX9_split_7 : decode cX9_split 7 = .ok (.invokevirtual 211, 3) := by decide +kernel
theorem dX9_split_10 : decode cX9_split 10 = .ok (.bipush 60, 2) := by decide +kernel
theorem dX9_split_12 : decode cX9_split 12 = .ok (.if_icmp .le 5, 3) := by decide +kernel
theorem dX9_split_15 : decode cX9_split 15 = .ok (.iconst (-1), 1) := by decide +kernel
theorem dX9_split_16 : decode cX9_split 16 = .ok (.ireturn, 1) := by decide +kernel
theorem dX9_split_17 : decode cX9_split 17 = .ok (.aload_n 0, 1) := by decide +kernel
theorem dX9_split_18 : decode cX9_split 18 = .ok (.getfield 39, 3) := by decide +kernel
theorem dX9_split_21 : decode cX9_split 21 = .ok (.aload_n 2, 1) := by decide +kernel
theorem dX9_split_22 : decode cX9_split 22 = .ok (.invokevirtual 215, 3) := by decide +kernel
theorem dX9_split_25 : decode cX9_split 25 = .ok (.aload_n 0, 1) := by decide +kernel
theorem dX9_split_26 : decode cX9_split 26 = .ok (.iload_n 1, 1) := by decide +kernel
theorem dX9_split_27 : decode cX9_split 27 = .ok (.invokevirtual 110, 3) := by decide +kernel
theorem dX9_split_30 : decode cX9_split 30 = .ok (.aload_n 0, 1) := by decide +kernel
theorem dX9_split_31 : decode cX9_split 31 = .ok (.getfield 34, 3) := by decide +kernel
theorem dX9_split_34 : decode cX9_split 34 = .ok (.iload_n 1, 1) := by decide +kernel
theorem dX9_split_35 : decode cX9_split 35 = .ok (.aaload, 1) := by decide +kernel
theorem dX9_split_36 : decode cX9_split 36 = .ok (.getfield 113, 3) := by decide +kernel
theorem dX9_split_39 : decode cX9_split 39 = .ok (.ireturn, 1) := by decide +kernel
theorem dX9_join_0 : decode cX9_join 0 = .ok (.aload_n 0, 1) := by decide +kernel
theorem dX9_join_1 : decode cX9_join 1 = .ok (.iload_n 1, 1) := by decide +kernel
theorem dX9_join_2 : decode cX9_join 2 = .ok (.invokevirtual 98, 3) := by decide +kernel
theorem dX9_join_5 : decode cX9_join 5 = .ok (.astore_n 2, 1) := by decide +kernel
theorem dX9_join_6 : decode cX9_join 6 = .ok (.aload_n 2, 1) := by decide +kernel
theorem dX9_join_7 : decode cX9_join 7 = .ok (.aload_n 0, 1) := by decide +kernel
theorem dX9_join_8 : decode cX9_join 8 = .ok (.getfield 46, 3) := by decide +kernel
theorem dX9_join_11 : decode cX9_join 11 = .ok (.invokevirtual 219, 3) := by decide +kernel
theorem dX9_join_14 : decode cX9_join 14 = .ok (.aload_n 2, 1) := by decide +kernel
theorem dX9_join_15 : decode cX9_join 15 = .ok (.getfield 113, 3) := by decide +kernel
theorem dX9_join_18 : decode cX9_join 18 = .ok (.ireturn, 1) := by decide +kernel
theorem dX9_sort_0 : decode cX9_sort 0 = .ok (.aload_n 0, 1) := by decide +kernel
theorem dX9_sort_1 : decode cX9_sort 1 = .ok (.iload_n 1, 1) := by decide +kernel
theorem dX9_sort_2 : decode cX9_sort 2 = .ok (.invokevirtual 98, 3) := by decide +kernel
theorem dX9_sort_5 : decode cX9_sort 5 = .ok (.invokevirtual 223, 3) := by decide +kernel
theorem dX9_sort_8 : decode cX9_sort 8 = .ok (.ireturn, 1) := by decide +kernel
theorem dX9_merge_0 : decode cX9_merge 0 = .ok (.aload_n 0, 1) := by decide +kernel
theorem dX9_merge_1 : decode cX9_merge 1 = .ok (.getfield 34, 3) := by decide +kernel
theorem dX9_merge_4 : decode cX9_merge 4 = .ok (.iconst 0, 1) := by decide +kernel
theorem dX9_merge_5 : decode cX9_merge 5 = .ok (.aaload, 1) := by decide +kernel
theorem dX9_merge_6 : decode cX9_merge 6 = .ok (.astore_n 1, 1) := by decide +kernel
theorem dX9_merge_7 : decode cX9_merge 7 = .ok (.aload_n 0, 1) := by decide +kernel
theorem dX9_merge_8 : decode cX9_merge 8 = .ok (.getfield 34, 3) := by decide +kernel
theorem dX9_merge_11 : decode cX9_merge 11 = .ok (.iconst 1, 1) := by decide +kernel
theorem dX9_merge_12 : decode cX9_merge 12 = .ok (.aaload, 1) := by decide +kernel
theorem dX9_merge_13 : decode cX9_merge 13 = .ok (.astore_n 2, 1) := by decide +kernel
theorem dX9_merge_14 : decode cX9_merge 14 = .ok (.aload_n 1, 1) := by decide +kernel
theorem dX9_merge_15 : decode cX9_merge 15 = .ok (.aload_n 2, 1) := by decide +kernel
theorem dX9_merge_16 : decode cX9_merge 16 = .ok (.invokevirtual 226, 3) := by decide +kernel
theorem dX9_merge_19 : decode cX9_merge 19 = .ok (.ifCond .ne 5, 3) := by decide +kernel
theorem dX9_merge_22 : decode cX9_merge 22 = .ok (.iconst (-1), 1) := by decide +kernel
theorem dX9_merge_23 : decode cX9_merge 23 = .ok (.ireturn, 1) := by decide +kernel
theorem dX9_merge_24 : decode cX9_merge 24 = .ok (.aload_n 1, 1) := by decide +kernel
theorem dX9_merge_25 : decode cX9_merge 25 = .ok (.aload_n 2, 1) := by decide +kernel
theorem dX9_merge_26 : decode cX9_merge 26 = .ok (.invokevirtual 230, 3) := by decide +kernel
theorem dX9_merge_29 : decode cX9_merge 29 = .ok (.istore_n 3, 1) := by decide +kernel
theorem dX9_merge_30 : decode cX9_merge 30 = .ok (.aload_n 1, 1) := by decide +kernel
theorem dX9_merge_31 : decode cX9_merge 31 = .ok (.getfield 113, 3) := by decide +kernel
theorem dX9_merge_34 : decode cX9_merge 34 = .ok (.aload_n 2, 1) := by decide +kernel
theorem dX9_merge_35 : decode cX9_merge 35 = .ok (.getfield 113, 3) := by decide +kernel
theorem dX9_merge_38 : decode cX9_merge 38 = .ok (.iadd, 1) := by decide +kernel
theorem dX9_merge_39 : decode cX9_merge 39 = .ok (.iload_n 3, 1) := by decide +kernel
theorem dX9_merge_40 : decode cX9_merge 40 = .ok (.isub, 1) := by decide +kernel
theorem dX9_merge_41 : decode cX9_merge 41 = .ok (.bipush 60, 2) := by decide +kernel
theorem dX9_merge_43 : decode cX9_merge 43 = .ok (.if_icmp .le 5, 3) := by decide +kernel
theorem dX9_merge_46 : decode cX9_merge 46 = .ok (.iconst (-1), 1) := by decide +kernel
theorem dX9_merge_47 : decode cX9_merge 47 = .ok (.ireturn, 1) := by decide +kernel
theorem dX9_merge_48 : decode cX9_merge 48 = .ok (.aload_n 1, 1) := by decide +kernel
theorem dX9_merge_49 : decode cX9_merge 49 = .ok (.aload_n 2, 1) := by decide +kernel
theorem dX9_merge_50 : decode cX9_merge 50 = .ok (.invokevirtual 234, 3) := by decide +kernel
theorem dX9_merge_53 : decode cX9_merge 53 = .ok (.aload_n 2, 1) := by decide +kernel
theorem dX9_merge_54 : decode cX9_merge 54 = .ok (.invokevirtual 93, 3) := by decide +kernel
theorem dX9_merge_57 : decode cX9_merge 57 = .ok (.aload_n 1, 1) := by decide +kernel
theorem dX9_merge_58 : decode cX9_merge 58 = .ok (.invokevirtual 223, 3) := by decide +kernel
theorem dX9_merge_61 : decode cX9_merge 61 = .ok (.pop, 1) := by decide +kernel
theorem dX9_merge_62 : decode cX9_merge 62 = .ok (.iload_n 3, 1) := by decide +kernel
theorem dX9_merge_63 : decode cX9_merge 63 = .ok (.ireturn, 1) := by decide +kernel
theorem dX9_apply_0 : decode cX9_apply 0 = .ok (.aload_n 0, 1) := by decide +kernel
theorem dX9_apply_1 : decode cX9_apply 1 = .ok (.iload_n 1, 1) := by decide +kernel
theorem dX9_apply_2 : decode cX9_apply 2 = .ok (.invokevirtual 98, 3) := by decide +kernel
theorem dX9_apply_5 : decode cX9_apply 5 = .ok (.astore 5, 2) := by decide +kernel
theorem dX9_apply_7 : decode cX9_apply 7 = .ok (.aload_n 0, 1) := by decide +kernel
theorem dX9_apply_8 : decode cX9_apply 8 = .ok (.iload_n 1, 1) := by decide +kernel
theorem dX9_apply_9 : decode cX9_apply 9 = .ok (.iload_n 2, 1) := by decide +kernel
theorem dX9_apply_10 : decode cX9_apply 10 = .ok (.invokevirtual 187, 3) := by decide +kernel
theorem dX9_apply_13 : decode cX9_apply 13 = .ok (.iload_n 3, 1) := by decide +kernel
theorem dX9_apply_14 : decode cX9_apply 14 = .ok (.ifCond .lt 8, 3) := by decide +kernel
theorem dX9_apply_17 : decode cX9_apply 17 = .ok (.iload_n 3, 1) := by decide +kernel
theorem dX9_apply_18 : decode cX9_apply 18 = .ok (.iconst 2, 1) := by decide +kernel
theorem dX9_apply_19 : decode cX9_apply 19 = .ok (.if_icmp .lt 13, 3) := by decide +kernel
theorem dX9_apply_22 : decode cX9_apply 22 = .ok (.new 136, 3) := by decide +kernel
theorem dX9_apply_25 : decode cX9_apply 25 = .ok (.dup, 1) := by decide +kernel
theorem dX9_apply_26 : decode cX9_apply 26 = .ok (.ldc 237, 2) := by decide +kernel
theorem dX9_apply_28 : decode cX9_apply 28 = .ok (.invokespecial 140, 3) := by decide +kernel
theorem dX9_apply_31 : decode cX9_apply 31 = .ok (.athrow, 1) := by decide +kernel
theorem dX9_apply_32 : decode cX9_apply 32 = .ok (.aload_n 0, 1) := by decide +kernel
theorem dX9_apply_33 : decode cX9_apply 33 = .ok (.iload 4, 2) := by decide +kernel
theorem dX9_apply_35 : decode cX9_apply 35 = .ok (.invokevirtual 114, 3) := by decide +kernel
theorem dX9_apply_38 : decode cX9_apply 38 = .ok (.aload_n 0, 1) := by decide +kernel
theorem dX9_apply_39 : decode cX9_apply 39 = .ok (.getfield 53, 3) := by decide +kernel
theorem dX9_apply_42 : decode cX9_apply 42 = .ok (.aload 5, 2) := by decide +kernel
theorem dX9_apply_44 : decode cX9_apply 44 = .ok (.iload_n 2, 1) := by decide +kernel
theorem dX9_apply_45 : decode cX9_apply 45 = .ok (.iload_n 3, 1) := by decide +kernel
theorem dX9_apply_46 : decode cX9_apply 46 = .ok (.iload 4, 2) := by decide +kernel
theorem dX9_apply_48 : decode cX9_apply 48 = .ok (.invokevirtual 239, 3) := by decide +kernel
theorem dX9_apply_51 : decode cX9_apply 51 = .ok (.aload_n 0, 1) := by decide +kernel
theorem dX9_apply_52 : decode cX9_apply 52 = .ok (.getfield 53, 3) := by decide +kernel
theorem dX9_apply_55 : decode cX9_apply 55 = .ok (.aload 5, 2) := by decide +kernel
theorem dX9_apply_57 : decode cX9_apply 57 = .ok (.invokevirtual 243, 3) := by decide +kernel
theorem dX9_apply_60 : decode cX9_apply 60 = .ok (.ifCond .eq 5, 3) := by decide +kernel
theorem dX9_apply_63 : decode cX9_apply 63 = .ok (.iconst (-1), 1) := by decide +kernel
theorem dX9_apply_64 : decode cX9_apply 64 = .ok (.ireturn, 1) := by decide +kernel
theorem dX9_apply_65 : decode cX9_apply 65 = .ok (.aload_n 0, 1) := by decide +kernel
theorem dX9_apply_66 : decode cX9_apply 66 = .ok (.getfield 16, 3) := by decide +kernel
theorem dX9_apply_69 : decode cX9_apply 69 = .ok (.invokevirtual 86, 3) := by decide +kernel
theorem dX9_apply_72 : decode cX9_apply 72 = .ok (.aload_n 0, 1) := by decide +kernel
theorem dX9_apply_73 : decode cX9_apply 73 = .ok (.getfield 53, 3) := by decide +kernel
theorem dX9_apply_76 : decode cX9_apply 76 = .ok (.aload 5, 2) := by decide +kernel
theorem dX9_apply_78 : decode cX9_apply 78 = .ok (.iload_n 2, 1) := by decide +kernel
theorem dX9_apply_79 : decode cX9_apply 79 = .ok (.iload_n 3, 1) := by decide +kernel
theorem dX9_apply_80 : decode cX9_apply 80 = .ok (.aload_n 0, 1) := by decide +kernel
theorem dX9_apply_81 : decode cX9_apply 81 = .ok (.getfield 25, 3) := by decide +kernel
theorem dX9_apply_84 : decode cX9_apply 84 = .ok (.iload 4, 2) := by decide +kernel
theorem dX9_apply_86 : decode cX9_apply 86 = .ok (.aload_n 0, 1) := by decide +kernel
theorem dX9_apply_87 : decode cX9_apply 87 = .ok (.getfield 16, 3) := by decide +kernel
theorem dX9_apply_90 : decode cX9_apply 90 = .ok (.invokevirtual 246, 3) := by decide +kernel
theorem dX9_apply_93 : decode cX9_apply 93 = .ok (.aload_n 0, 1) := by decide +kernel
theorem dX9_apply_94 : decode cX9_apply 94 = .ok (.getfield 16, 3) := by decide +kernel
theorem dX9_apply_97 : decode cX9_apply 97 = .ok (.getfield 68, 3) := by decide +kernel
theorem dX9_apply_100 : decode cX9_apply 100 = .ok (.ireturn, 1) := by decide +kernel
theorem dX9_carried_0 : decode cX9_carried 0 = .ok (.aload_n 0, 1) := by decide +kernel
theorem dX9_carried_1 : decode cX9_carried 1 = .ok (.getfield 53, 3) := by decide +kernel
theorem dX9_carried_4 : decode cX9_carried 4 = .ok (.iload_n 1, 1) := by decide +kernel
theorem dX9_carried_5 : decode cX9_carried 5 = .ok (.invokevirtual 250, 3) := by decide +kernel
theorem dX9_carried_8 : decode cX9_carried 8 = .ok (.ireturn, 1) := by decide +kernel
theorem dX9_back_0 : decode cX9_back 0 = .ok (.aload_n 0, 1) := by decide +kernel
theorem dX9_back_1 : decode cX9_back 1 = .ok (.getfield 53, 3) := by decide +kernel
theorem dX9_back_4 : decode cX9_back 4 = .ok (.iload_n 1, 1) := by decide +kernel
theorem dX9_back_5 : decode cX9_back 5 = .ok (.invokevirtual 253, 3) := by decide +kernel
theorem dX9_back_8 : decode cX9_back 8 = .ok (.ireturn, 1) := by decide +kernel
theorem dX9_same_0 : decode cX9_same 0 = .ok (.aload_n 0, 1) := by decide +kernel
theorem dX9_same_1 : decode cX9_same 1 = .ok (.iload_n 1, 1) := by decide +kernel
theorem dX9_same_2 : decode cX9_same 2 = .ok (.iload_n 2, 1) := by decide +kernel
theorem dX9_same_3 : decode cX9_same 3 = .ok (.invokevirtual 154, 3) := by decide +kernel
theorem dX9_same_6 : decode cX9_same 6 = .ok (.astore 5, 2) := by decide +kernel
theorem dX9_same_8 : decode cX9_same 8 = .ok (.aload_n 0, 1) := by decide +kernel
theorem dX9_same_9 : decode cX9_same 9 = .ok (.iload_n 3, 1) := by decide +kernel
theorem dX9_same_10 : decode cX9_same 10 = .ok (.iload 4, 2) := by decide +kernel
theorem dX9_same_12 : decode cX9_same 12 = .ok (.invokevirtual 154, 3) := by decide +kernel
theorem dX9_same_15 : decode cX9_same 15 = .ok (.astore 6, 2) := by decide +kernel
theorem dX9_same_17 : decode cX9_same 17 = .ok (.aload 5, 2) := by decide +kernel
theorem dX9_same_19 : decode cX9_same 19 = .ok (.aload 6, 2) := by decide +kernel
theorem dX9_same_21 : decode cX9_same 21 = .ok (.aload_n 0, 1) := by decide +kernel
theorem dX9_same_22 : decode cX9_same 22 = .ok (.getfield 25, 3) := by decide +kernel
theorem dX9_same_25 : decode cX9_same 25 = .ok (.invokevirtual 256, 3) := by decide +kernel
theorem dX9_same_28 : decode cX9_same 28 = .ok (.ireturn, 1) := by decide +kernel
theorem dX9_write_0 : decode cX9_write 0 = .ok (.aload_n 0, 1) := by decide +kernel
theorem dX9_write_1 : decode cX9_write 1 = .ok (.iload_n 1, 1) := by decide +kernel
theorem dX9_write_2 : decode cX9_write 2 = .ok (.invokevirtual 98, 3) := by decide +kernel
theorem dX9_write_5 : decode cX9_write 5 = .ok (.astore_n 2, 1) := by decide +kernel
theorem dX9_write_6 : decode cX9_write 6 = .ok (.aload_n 0, 1) := by decide +kernel
theorem dX9_write_7 : decode cX9_write 7 = .ok (.getfield 19, 3) := by decide +kernel
theorem dX9_write_10 : decode cX9_write 10 = .ok (.invokevirtual 86, 3) := by decide +kernel
theorem dX9_write_13 : decode cX9_write 13 = .ok (.aload_n 2, 1) := by decide +kernel
theorem dX9_write_14 : decode cX9_write 14 = .ok (.aload_n 0, 1) := by decide +kernel
theorem dX9_write_15 : decode cX9_write 15 = .ok (.getfield 19, 3) := by decide +kernel
theorem dX9_write_18 : decode cX9_write 18 = .ok (.aload_n 0, 1) := by decide +kernel
theorem dX9_write_19 : decode cX9_write 19 = .ok (.getfield 25, 3) := by decide +kernel
theorem dX9_write_22 : decode cX9_write 22 = .ok (.invokevirtual 260, 3) := by decide +kernel
theorem dX9_write_25 : decode cX9_write 25 = .ok (.aload_n 0, 1) := by decide +kernel
theorem dX9_write_26 : decode cX9_write 26 = .ok (.getfield 19, 3) := by decide +kernel
theorem dX9_write_29 : decode cX9_write 29 = .ok (.getfield 263, 3) := by decide +kernel
theorem dX9_write_32 : decode cX9_write 32 = .ok (.ifCond .eq 5, 3) := by decide +kernel
theorem dX9_write_35 : decode cX9_write 35 = .ok (.iconst (-1), 1) := by decide +kernel
theorem dX9_write_36 : decode cX9_write 36 = .ok (.ireturn, 1) := by decide +kernel
theorem dX9_write_37 : decode cX9_write 37 = .ok (.aload_n 0, 1) := by decide +kernel
theorem dX9_write_38 : decode cX9_write 38 = .ok (.getfield 16, 3) := by decide +kernel
theorem dX9_write_41 : decode cX9_write 41 = .ok (.astore_n 3, 1) := by decide +kernel
theorem dX9_write_42 : decode cX9_write 42 = .ok (.aload_n 0, 1) := by decide +kernel
theorem dX9_write_43 : decode cX9_write 43 = .ok (.aload_n 0, 1) := by decide +kernel
theorem dX9_write_44 : decode cX9_write 44 = .ok (.getfield 19, 3) := by decide +kernel
theorem dX9_write_47 : decode cX9_write 47 = .ok (.putfield 16, 3) := by decide +kernel
theorem dX9_write_50 : decode cX9_write 50 = .ok (.aload_n 0, 1) := by decide +kernel
theorem dX9_write_51 : decode cX9_write 51 = .ok (.aload_n 3, 1) := by decide +kernel
theorem dX9_write_52 : decode cX9_write 52 = .ok (.putfield 19, 3) := by decide +kernel
theorem dX9_write_55 : decode cX9_write 55 = .ok (.aload_n 0, 1) := by decide +kernel
theorem dX9_write_56 : decode cX9_write 56 = .ok (.getfield 16, 3) := by decide +kernel
theorem dX9_write_59 : decode cX9_write 59 = .ok (.getfield 68, 3) := by decide +kernel
theorem dX9_write_62 : decode cX9_write 62 = .ok (.ireturn, 1) := by decide +kernel
theorem dX9_out_0 : decode cX9_out 0 = .ok (.aload_n 0, 1) := by decide +kernel
theorem dX9_out_1 : decode cX9_out 1 = .ok (.getfield 16, 3) := by decide +kernel
theorem dX9_out_4 : decode cX9_out 4 = .ok (.iload_n 1, 1) := by decide +kernel
theorem dX9_out_5 : decode cX9_out 5 = .ok (.invokevirtual 266, 3) := by decide +kernel
theorem dX9_out_8 : decode cX9_out 8 = .ok (.ireturn, 1) := by decide +kernel
theorem dX9_again_0 : decode cX9_again 0 = .ok (.aload_n 0, 1) := by decide +kernel
theorem dX9_again_1 : decode cX9_again 1 = .ok (.getfield 10, 3) := by decide +kernel
theorem dX9_again_4 : decode cX9_again 4 = .ok (.aload_n 0, 1) := by decide +kernel
theorem dX9_again_5 : decode cX9_again 5 = .ok (.getfield 16, 3) := by decide +kernel
theorem dX9_again_8 : decode cX9_again 8 = .ok (.invokevirtual 269, 3) := by decide +kernel
theorem dX9_again_11 : decode cX9_again 11 = .ok (.aload_n 0, 1) := by decide +kernel
theorem dX9_again_12 : decode cX9_again 12 = .ok (.getfield 10, 3) := by decide +kernel
theorem dX9_again_15 : decode cX9_again 15 = .ok (.getfield 68, 3) := by decide +kernel
theorem dX9_again_18 : decode cX9_again 18 = .ok (.ireturn, 1) := by decide +kernel
theorem dX9_sheetAt_0 : decode cX9_sheetAt 0 = .ok (.iload_n 1, 1) := by decide +kernel
theorem dX9_sheetAt_1 : decode cX9_sheetAt 1 = .ok (.ifCond .lt 8, 3) := by decide +kernel
theorem dX9_sheetAt_4 : decode cX9_sheetAt 4 = .ok (.iload_n 1, 1) := by decide +kernel
theorem dX9_sheetAt_5 : decode cX9_sheetAt 5 = .ok (.iconst 2, 1) := by decide +kernel
theorem dX9_sheetAt_6 : decode cX9_sheetAt 6 = .ok (.if_icmp .lt 14, 3) := by decide +kernel
theorem dX9_sheetAt_9 : decode cX9_sheetAt 9 = .ok (.new 136, 3) := by decide +kernel
theorem dX9_sheetAt_12 : decode cX9_sheetAt 12 = .ok (.dup, 1) := by decide +kernel
theorem dX9_sheetAt_13 : decode cX9_sheetAt 13 = .ok (.ldc_w 273, 3) := by decide +kernel
theorem dX9_sheetAt_16 : decode cX9_sheetAt 16 = .ok (.invokespecial 140, 3) := by decide +kernel
theorem dX9_sheetAt_19 : decode cX9_sheetAt 19 = .ok (.athrow, 1) := by decide +kernel
theorem dX9_sheetAt_20 : decode cX9_sheetAt 20 = .ok (.aload_n 0, 1) := by decide +kernel
theorem dX9_sheetAt_21 : decode cX9_sheetAt 21 = .ok (.getfield 34, 3) := by decide +kernel
theorem dX9_sheetAt_24 : decode cX9_sheetAt 24 = .ok (.iload_n 1, 1) := by decide +kernel
theorem dX9_sheetAt_25 : decode cX9_sheetAt 25 = .ok (.aaload, 1) := by decide +kernel
theorem dX9_sheetAt_26 : decode cX9_sheetAt 26 = .ok (.areturn, 1) := by decide +kernel
theorem dX9_entryAt_0 : decode cX9_entryAt 0 = .ok (.aload_n 0, 1) := by decide +kernel
theorem dX9_entryAt_1 : decode cX9_entryAt 1 = .ok (.iload_n 1, 1) := by decide +kernel
theorem dX9_entryAt_2 : decode cX9_entryAt 2 = .ok (.invokevirtual 98, 3) := by decide +kernel
theorem dX9_entryAt_5 : decode cX9_entryAt 5 = .ok (.astore_n 3, 1) := by decide +kernel
theorem dX9_entryAt_6 : decode cX9_entryAt 6 = .ok (.iload_n 2, 1) := by decide +kernel
theorem dX9_entryAt_7 : decode cX9_entryAt 7 = .ok (.ifCond .lt 11, 3) := by decide +kernel
theorem dX9_entryAt_10 : decode cX9_entryAt 10 = .ok (.iload_n 2, 1) := by decide +kernel
theorem dX9_entryAt_11 : decode cX9_entryAt 11 = .ok (.aload_n 3, 1) := by decide +kernel
theorem dX9_entryAt_12 : decode cX9_entryAt 12 = .ok (.getfield 113, 3) := by decide +kernel
theorem dX9_entryAt_15 : decode cX9_entryAt 15 = .ok (.if_icmp .lt 14, 3) := by decide +kernel
theorem dX9_entryAt_18 : decode cX9_entryAt 18 = .ok (.new 136, 3) := by decide +kernel
theorem dX9_entryAt_21 : decode cX9_entryAt 21 = .ok (.dup, 1) := by decide +kernel
theorem dX9_entryAt_22 : decode cX9_entryAt 22 = .ok (.ldc_w 275, 3) := by decide +kernel
theorem dX9_entryAt_25 : decode cX9_entryAt 25 = .ok (.invokespecial 140, 3) := by decide +kernel
theorem dX9_entryAt_28 : decode cX9_entryAt 28 = .ok (.athrow, 1) := by decide +kernel
theorem dX9_entryAt_29 : decode cX9_entryAt 29 = .ok (.aload_n 3, 1) := by decide +kernel
theorem dX9_entryAt_30 : decode cX9_entryAt 30 = .ok (.getfield 203, 3) := by decide +kernel
theorem dX9_entryAt_33 : decode cX9_entryAt 33 = .ok (.iload_n 2, 1) := by decide +kernel
theorem dX9_entryAt_34 : decode cX9_entryAt 34 = .ok (.aaload, 1) := by decide +kernel
theorem dX9_entryAt_35 : decode cX9_entryAt 35 = .ok (.areturn, 1) := by decide +kernel
theorem dX9_checkSample_0 : decode cX9_checkSample 0 = .ok (.iload_n 2, 1) := by decide +kernel
theorem dX9_checkSample_1 : decode cX9_checkSample 1 = .ok (.ifCond .lt 18, 3) := by decide +kernel
theorem dX9_checkSample_4 : decode cX9_checkSample 4 = .ok (.iload_n 2, 1) := by decide +kernel
theorem dX9_checkSample_5 : decode cX9_checkSample 5 = .ok (.aload_n 0, 1) := by decide +kernel
theorem dX9_checkSample_6 : decode cX9_checkSample 6 = .ok (.iload_n 1, 1) := by decide +kernel
theorem dX9_checkSample_7 : decode cX9_checkSample 7 = .ok (.invokevirtual 98, 3) := by decide +kernel
theorem dX9_checkSample_10 : decode cX9_checkSample 10 = .ok (.getfield 152, 3) := by decide +kernel
theorem dX9_checkSample_13 : decode cX9_checkSample 13 = .ok (.getfield 153, 3) := by decide +kernel
theorem dX9_checkSample_16 : decode cX9_checkSample 16 = .ok (.if_icmp .lt 14, 3) := by decide +kernel
theorem dX9_checkSample_19 : decode cX9_checkSample 19 = .ok (.new 136, 3) := by decide +kernel
theorem dX9_checkSample_22 : decode cX9_checkSample 22 = .ok (.dup, 1) := by decide +kernel
theorem dX9_checkSample_23 : decode cX9_checkSample 23 = .ok (.ldc_w 277, 3) := by decide +kernel
theorem dX9_checkSample_26 : decode cX9_checkSample 26 = .ok (.invokespecial 140, 3) := by decide +kernel
theorem dX9_checkSample_29 : decode cX9_checkSample 29 = .ok (.athrow, 1) := by decide +kernel
theorem dX9_checkSample_30 : decode cX9_checkSample 30 = .ok (.return_, 1) := by decide +kernel
theorem dX9_checkSequence_0 : decode cX9_checkSequence 0 = .ok (.iload_n 1, 1) := by decide +kernel
theorem dX9_checkSequence_1 : decode cX9_checkSequence 1 = .ok (.ifCond .lt 14, 3) := by decide +kernel
theorem dX9_checkSequence_4 : decode cX9_checkSequence 4 = .ok (.iload_n 1, 1) := by decide +kernel
theorem dX9_checkSequence_5 : decode cX9_checkSequence 5 = .ok (.aload_n 0, 1) := by decide +kernel
theorem dX9_checkSequence_6 : decode cX9_checkSequence 6 = .ok (.getfield 25, 3) := by decide +kernel
theorem dX9_checkSequence_9 : decode cX9_checkSequence 9 = .ok (.getfield 95, 3) := by decide +kernel
theorem dX9_checkSequence_12 : decode cX9_checkSequence 12 = .ok (.if_icmp .lt 14, 3) := by decide +kernel
theorem dX9_checkSequence_15 : decode cX9_checkSequence 15 = .ok (.new 136, 3) := by decide +kernel
theorem dX9_checkSequence_18 : decode cX9_checkSequence 18 = .ok (.dup, 1) := by decide +kernel
theorem dX9_checkSequence_19 : decode cX9_checkSequence 19 = .ok (.ldc_w 279, 3) := by decide +kernel
theorem dX9_checkSequence_22 : decode cX9_checkSequence 22 = .ok (.invokespecial 140, 3) := by decide +kernel
theorem dX9_checkSequence_25 : decode cX9_checkSequence 25 = .ok (.athrow, 1) := by decide +kernel
theorem dX9_checkSequence_26 : decode cX9_checkSequence 26 = .ok (.return_, 1) := by decide +kernel
theorem dX9_useSpareSheet_0 : decode cX9_useSpareSheet 0 = .ok (.aload_n 0, 1) := by decide +kernel
theorem dX9_useSpareSheet_1 : decode cX9_useSpareSheet 1 = .ok (.getfield 34, 3) := by decide +kernel
theorem dX9_useSpareSheet_4 : decode cX9_useSpareSheet 4 = .ok (.iload_n 1, 1) := by decide +kernel
theorem dX9_useSpareSheet_5 : decode cX9_useSpareSheet 5 = .ok (.aaload, 1) := by decide +kernel
theorem dX9_useSpareSheet_6 : decode cX9_useSpareSheet 6 = .ok (.astore_n 2, 1) := by decide +kernel
theorem dX9_useSpareSheet_7 : decode cX9_useSpareSheet 7 = .ok (.aload_n 0, 1) := by decide +kernel
theorem dX9_useSpareSheet_8 : decode cX9_useSpareSheet 8 = .ok (.getfield 34, 3) := by decide +kernel
theorem dX9_useSpareSheet_11 : decode cX9_useSpareSheet 11 = .ok (.iload_n 1, 1) := by decide +kernel
theorem dX9_useSpareSheet_12 : decode cX9_useSpareSheet 12 = .ok (.aload_n 0, 1) := by decide +kernel
theorem dX9_useSpareSheet_13 : decode cX9_useSpareSheet 13 = .ok (.getfield 39, 3) := by decide +kernel
theorem dX9_useSpareSheet_16 : decode cX9_useSpareSheet 16 = .ok (.aastore, 1) := by decide +kernel
theorem dX9_useSpareSheet_17 : decode cX9_useSpareSheet 17 = .ok (.aload_n 0, 1) := by decide +kernel
theorem dX9_useSpareSheet_18 : decode cX9_useSpareSheet 18 = .ok (.aload_n 2, 1) := by decide +kernel
theorem dX9_useSpareSheet_19 : decode cX9_useSpareSheet 19 = .ok (.putfield 39, 3) := by decide +kernel
theorem dX9_useSpareSheet_22 : decode cX9_useSpareSheet 22 = .ok (.return_, 1) := by decide +kernel
theorem dX9_letterOf_0 : decode cX9_letterOf 0 = .ok (.iload_n 0, 1) := by decide +kernel
theorem dX9_letterOf_1 : decode cX9_letterOf 1 = .ok (.lookupswitch 106 #[(65, 91), (67, 94), (71, 97), (78, 103), (84, 100), (97, 91), (99, 94), (103, 97), (110, 103), (116, 100)], 91) := by decide +kernel
theorem dX9_letterOf_92 : decode cX9_letterOf 92 = .ok (.bipush 65, 2) := by decide +kernel
theorem dX9_letterOf_94 : decode cX9_letterOf 94 = .ok (.ireturn, 1) := by decide +kernel
theorem dX9_letterOf_95 : decode cX9_letterOf 95 = .ok (.bipush 67, 2) := by decide +kernel
theorem dX9_letterOf_97 : decode cX9_letterOf 97 = .ok (.ireturn, 1) := by decide +kernel
theorem dX9_letterOf_98 : decode cX9_letterOf 98 = .ok (.bipush 71, 2) := by decide +kernel
theorem dX9_letterOf_100 : decode cX9_letterOf 100 = .ok (.ireturn, 1) := by decide +kernel
theorem dX9_letterOf_101 : decode cX9_letterOf 101 = .ok (.bipush 84, 2) := by decide +kernel
theorem dX9_letterOf_103 : decode cX9_letterOf 103 = .ok (.ireturn, 1) := by decide +kernel
theorem dX9_letterOf_104 : decode cX9_letterOf 104 = .ok (.bipush 78, 2) := by decide +kernel
theorem dX9_letterOf_106 : decode cX9_letterOf 106 = .ok (.ireturn, 1) := by decide +kernel
theorem dX9_letterOf_107 : decode cX9_letterOf 107 = .ok (.iconst (-1), 1) := by decide +kernel
theorem dX9_letterOf_108 : decode cX9_letterOf 108 = .ok (.ireturn, 1) := by decide +kernel
theorem dX10_init_0 : decode cX10_init 0 = .ok (.aload_n 0, 1) := by decide +kernel
theorem dX10_init_1 : decode cX10_init 1 = .ok (.invokespecial 1, 3) := by decide +kernel
theorem dX10_init_4 : decode cX10_init 4 = .ok (.aload_n 0, 1) := by decide +kernel
theorem dX10_init_5 : decode cX10_init 5 = .ok (.sipush 8000, 3) := by decide +kernel
theorem dX10_init_8 : decode cX10_init 8 = .ok (.newarray .byte, 2) := by decide +kernel
theorem dX10_init_10 : decode cX10_init 10 = .ok (.putfield 7, 3) := by decide +kernel
theorem dX10_init_13 : decode cX10_init 13 = .ok (.aload_n 0, 1) := by decide +kernel
theorem dX10_init_14 : decode cX10_init 14 = .ok (.iconst (-1), 1) := by decide +kernel
theorem dX10_init_15 : decode cX10_init 15 = .ok (.putfield 13, 3) := by decide +kernel
theorem dX10_init_18 : decode cX10_init 18 = .ok (.aload_n 0, 1) := by decide +kernel
theorem dX10_init_19 : decode cX10_init 19 = .ok (.sipush 180, 3) := by decide +kernel
theorem dX10_init_22 : decode cX10_init 22 = .ok (.newarray .byte, 2) := by decide +kernel
theorem dX10_init_24 : decode cX10_init 24 = .ok (.putfield 17, 3) := by decide +kernel
theorem dX10_init_27 : decode cX10_init 27 = .ok (.aload_n 0, 1) := by decide +kernel
theorem dX10_init_28 : decode cX10_init 28 = .ok (.bipush 9, 2) := by decide +kernel
theorem dX10_init_30 : decode cX10_init 30 = .ok (.newarray .int, 2) := by decide +kernel
theorem dX10_init_32 : decode cX10_init 32 = .ok (.putfield 20, 3) := by decide +kernel
theorem dX10_init_35 : decode cX10_init 35 = .ok (.aload_n 0, 1) := by decide +kernel
theorem dX10_init_36 : decode cX10_init 36 = .ok (.sipush 3001, 3) := by decide +kernel
theorem dX10_init_39 : decode cX10_init 39 = .ok (.newarray .byte, 2) := by decide +kernel
theorem dX10_init_41 : decode cX10_init 41 = .ok (.putfield 24, 3) := by decide +kernel
theorem dX10_init_44 : decode cX10_init 44 = .ok (.aload_n 0, 1) := by decide +kernel
theorem dX10_init_45 : decode cX10_init 45 = .ok (.bipush 9, 2) := by decide +kernel
theorem dX10_init_47 : decode cX10_init 47 = .ok (.newarray .int, 2) := by decide +kernel
theorem dX10_init_49 : decode cX10_init 49 = .ok (.putfield 27, 3) := by decide +kernel
theorem dX10_init_52 : decode cX10_init 52 = .ok (.aload_n 0, 1) := by decide +kernel
theorem dX10_init_53 : decode cX10_init 53 = .ok (.bipush 9, 2) := by decide +kernel
theorem dX10_init_55 : decode cX10_init 55 = .ok (.newarray .int, 2) := by decide +kernel
theorem dX10_init_57 : decode cX10_init 57 = .ok (.putfield 30, 3) := by decide +kernel
theorem dX10_init_60 : decode cX10_init 60 = .ok (.aload_n 0, 1) := by decide +kernel
theorem dX10_init_61 : decode cX10_init 61 = .ok (.bipush 9, 2) := by decide +kernel
theorem dX10_init_63 : decode cX10_init 63 = .ok (.newarray .int, 2) := by decide +kernel
theorem dX10_init_65 : decode cX10_init 65 = .ok (.putfield 33, 3) := by decide +kernel
theorem dX10_init_68 : decode cX10_init 68 = .ok (.aload_n 0, 1) := by decide +kernel
theorem dX10_init_69 : decode cX10_init 69 = .ok (.bipush 9, 2) := by decide +kernel
theorem dX10_init_71 : decode cX10_init 71 = .ok (.newarray .int, 2) := by decide +kernel
theorem dX10_init_73 : decode cX10_init 73 = .ok (.putfield 36, 3) := by decide +kernel
theorem dX10_init_76 : decode cX10_init 76 = .ok (.aload_n 0, 1) := by decide +kernel
theorem dX10_init_77 : decode cX10_init 77 = .ok (.sipush 180, 3) := by decide +kernel
theorem dX10_init_80 : decode cX10_init 80 = .ok (.newarray .byte, 2) := by decide +kernel
theorem dX10_init_82 : decode cX10_init 82 = .ok (.putfield 39, 3) := by decide +kernel
theorem dX10_init_85 : decode cX10_init 85 = .ok (.aload_n 0, 1) := by decide +kernel
theorem dX10_init_86 : decode cX10_init 86 = .ok (.bipush 9, 2) := by decide +kernel
theorem dX10_init_88 : decode cX10_init 88 = .ok (.newarray .int, 2) := by decide +kernel
theorem dX10_init_90 : decode cX10_init 90 = .ok (.putfield 42, 3) := by decide +kernel
theorem dX10_init_93 : decode cX10_init 93 = .ok (.aload_n 0, 1) := by decide +kernel
theorem dX10_init_94 : decode cX10_init 94 = .ok (.sipush 3001, 3) := by decide +kernel
theorem dX10_init_97 : decode cX10_init 97 = .ok (.newarray .byte, 2) := by decide +kernel
theorem dX10_init_99 : decode cX10_init 99 = .ok (.putfield 45, 3) := by decide +kernel
theorem dX10_init_102 : decode cX10_init 102 = .ok (.aload_n 0, 1) := by decide +kernel
theorem dX10_init_103 : decode cX10_init 103 = .ok (.bipush 9, 2) := by decide +kernel
theorem dX10_init_105 : decode cX10_init 105 = .ok (.newarray .int, 2) := by decide +kernel
theorem dX10_init_107 : decode cX10_init 107 = .ok (.putfield 48, 3) := by decide +kernel
theorem dX10_init_110 : decode cX10_init 110 = .ok (.aload_n 0, 1) := by decide +kernel
theorem dX10_init_111 : decode cX10_init 111 = .ok (.bipush 9, 2) := by decide +kernel
theorem dX10_init_113 : decode cX10_init 113 = .ok (.newarray .int, 2) := by decide +kernel
theorem dX10_init_115 : decode cX10_init 115 = .ok (.putfield 51, 3) := by decide +kernel
theorem dX10_init_118 : decode cX10_init 118 = .ok (.aload_n 0, 1) := by decide +kernel
theorem dX10_init_119 : decode cX10_init 119 = .ok (.bipush 9, 2) := by decide +kernel
theorem dX10_init_121 : decode cX10_init 121 = .ok (.newarray .int, 2) := by decide +kernel
theorem dX10_init_123 : decode cX10_init 123 = .ok (.putfield 54, 3) := by decide +kernel
theorem dX10_init_126 : decode cX10_init 126 = .ok (.aload_n 0, 1) := by decide +kernel
theorem dX10_init_127 : decode cX10_init 127 = .ok (.bipush 9, 2) := by decide +kernel
theorem dX10_init_129 : decode cX10_init 129 = .ok (.newarray .int, 2) := by decide +kernel
theorem dX10_init_131 : decode cX10_init 131 = .ok (.putfield 57, 3) := by decide +kernel
theorem dX10_init_134 : decode cX10_init 134 = .ok (.aload_n 0, 1) := by decide +kernel
theorem dX10_init_135 : decode cX10_init 135 = .ok (.iconst 4, 1) := by decide +kernel
theorem dX10_init_136 : decode cX10_init 136 = .ok (.newarray .int, 2) := by decide +kernel
theorem dX10_init_138 : decode cX10_init 138 = .ok (.putfield 60, 3) := by decide +kernel
theorem dX10_init_141 : decode cX10_init 141 = .ok (.aload_n 0, 1) := by decide +kernel
theorem dX10_init_142 : decode cX10_init 142 = .ok (.iconst 4, 1) := by decide +kernel
theorem dX10_init_143 : decode cX10_init 143 = .ok (.newarray .int, 2) := by decide +kernel
theorem dX10_init_145 : decode cX10_init 145 = .ok (.putfield 63, 3) := by decide +kernel
theorem dX10_init_148 : decode cX10_init 148 = .ok (.aload_n 0, 1) := by decide +kernel
theorem dX10_init_149 : decode cX10_init 149 = .ok (.sipush 240, 3) := by decide +kernel
theorem dX10_init_152 : decode cX10_init 152 = .ok (.newarray .byte, 2) := by decide +kernel
theorem dX10_init_154 : decode cX10_init 154 = .ok (.putfield 66, 3) := by decide +kernel
theorem dX10_init_157 : decode cX10_init 157 = .ok (.aload_n 0, 1) := by decide +kernel
theorem dX10_init_158 : decode cX10_init 158 = .ok (.bipush 12, 2) := by decide +kernel
theorem dX10_init_160 : decode cX10_init 160 = .ok (.newarray .int, 2) := by decide +kernel
theorem dX10_init_162 : decode cX10_init 162 = .ok (.putfield 69, 3) := by decide +kernel
theorem dX10_init_165 : decode cX10_init 165 = .ok (.aload_n 0, 1) := by decide +kernel
theorem dX10_init_166 : decode cX10_init 166 = .ok (.sipush 240, 3) := by decide +kernel
theorem dX10_init_169 : decode cX10_init 169 = .ok (.newarray .int, 2) := by decide +kernel
theorem dX10_init_171 : decode cX10_init 171 = .ok (.putfield 72, 3) := by decide +kernel
theorem dX10_init_174 : decode cX10_init 174 = .ok (.aload_n 0, 1) := by decide +kernel
theorem dX10_init_175 : decode cX10_init 175 = .ok (.sipush 240, 3) := by decide +kernel
theorem dX10_init_178 : decode cX10_init 178 = .ok (.newarray .int, 2) := by decide +kernel
theorem dX10_init_180 : decode cX10_init 180 = .ok (.putfield 75, 3) := by decide +kernel
theorem dX10_init_183 : decode cX10_init 183 = .ok (.aload_n 0, 1) := by decide +kernel
theorem dX10_init_184 : decode cX10_init 184 = .ok (.sipush 4800, 3) := by decide +kernel
theorem dX10_init_187 : decode cX10_init 187 = .ok (.newarray .byte, 2) := by decide +kernel
theorem dX10_init_189 : decode cX10_init 189 = .ok (.putfield 78, 3) := by decide +kernel
theorem dX10_init_192 : decode cX10_init 192 = .ok (.aload_n 0, 1) := by decide +kernel
theorem dX10_init_193 : decode cX10_init 193 = .ok (.sipush 240, 3) := by decide +kernel
theorem dX10_init_196 : decode cX10_init 196 = .ok (.newarray .int, 2) := by decide +kernel
theorem dX10_init_198 : decode cX10_init 198 = .ok (.putfield 81, 3) := by decide +kernel
theorem dX10_init_201 : decode cX10_init 201 = .ok (.aload_n 0, 1) := by decide +kernel
theorem dX10_init_202 : decode cX10_init 202 = .ok (.sipush 240, 3) := by decide +kernel
theorem dX10_init_205 : decode cX10_init 205 = .ok (.newarray .int, 2) := by decide +kernel
theorem dX10_init_207 : decode cX10_init 207 = .ok (.putfield 84, 3) := by decide +kernel
theorem dX10_init_210 : decode cX10_init 210 = .ok (.aload_n 0, 1) := by decide +kernel
theorem dX10_init_211 : decode cX10_init 211 = .ok (.sipush 24960, 3) := by decide +kernel
theorem dX10_init_214 : decode cX10_init 214 = .ok (.newarray .byte, 2) := by decide +kernel
theorem dX10_init_216 : decode cX10_init 216 = .ok (.putfield 87, 3) := by decide +kernel
theorem dX10_init_219 : decode cX10_init 219 = .ok (.aload_n 0, 1) := by decide +kernel
theorem dX10_init_220 : decode cX10_init 220 = .ok (.sipush 960, 3) := by decide +kernel
theorem dX10_init_223 : decode cX10_init 223 = .ok (.newarray .int, 2) := by decide +kernel
theorem dX10_init_225 : decode cX10_init 225 = .ok (.putfield 90, 3) := by decide +kernel
theorem dX10_init_228 : decode cX10_init 228 = .ok (.aload_n 0, 1) := by decide +kernel
theorem dX10_init_229 : decode cX10_init 229 = .ok (.sipush 240, 3) := by decide +kernel
theorem dX10_init_232 : decode cX10_init 232 = .ok (.newarray .int, 2) := by decide +kernel
theorem dX10_init_234 : decode cX10_init 234 = .ok (.putfield 93, 3) := by decide +kernel
theorem dX10_init_237 : decode cX10_init 237 = .ok (.aload_n 0, 1) := by decide +kernel
theorem dX10_init_238 : decode cX10_init 238 = .ok (.sipush 240, 3) := by decide +kernel
theorem dX10_init_241 : decode cX10_init 241 = .ok (.newarray .boolean, 2) := by decide +kernel
theorem dX10_init_243 : decode cX10_init 243 = .ok (.putfield 96, 3) := by decide +kernel
theorem dX10_init_246 : decode cX10_init 246 = .ok (.aload_n 0, 1) := by decide +kernel
theorem dX10_init_247 : decode cX10_init 247 = .ok (.sipush 1440, 3) := by decide +kernel
theorem dX10_init_250 : decode cX10_init 250 = .ok (.newarray .int, 2) := by decide +kernel
theorem dX10_init_252 : decode cX10_init 252 = .ok (.putfield 100, 3) := by decide +kernel
theorem dX10_init_255 : decode cX10_init 255 = .ok (.aload_n 0, 1) := by decide +kernel
theorem dX10_init_256 : decode cX10_init 256 = .ok (.sipush 720, 3) := by decide +kernel
theorem dX10_init_259 : decode cX10_init 259 = .ok (.newarray .int, 2) := by decide +kernel
theorem dX10_init_261 : decode cX10_init 261 = .ok (.putfield 103, 3) := by decide +kernel
theorem dX10_init_264 : decode cX10_init 264 = .ok (.aload_n 0, 1) := by decide +kernel
theorem dX10_init_265 : decode cX10_init 265 = .ok (.sipush 720, 3) := by decide +kernel
theorem dX10_init_268 : decode cX10_init 268 = .ok (.newarray .boolean, 2) := by decide +kernel
theorem dX10_init_270 : decode cX10_init 270 = .ok (.putfield 106, 3) := by decide +kernel
theorem dX10_init_273 : decode cX10_init 273 = .ok (.aload_n 0, 1) := by decide +kernel
theorem dX10_init_274 : decode cX10_init 274 = .ok (.sipush 8200, 3) := by decide +kernel
theorem dX10_init_277 : decode cX10_init 277 = .ok (.newarray .byte, 2) := by decide +kernel
theorem dX10_init_279 : decode cX10_init 279 = .ok (.putfield 109, 3) := by decide +kernel
theorem dX10_init_282 : decode cX10_init 282 = .ok (.aload_n 0, 1) := by decide +kernel
theorem dX10_init_283 : decode cX10_init 283 = .ok (.sipush 3002, 3) := by decide +kernel
theorem dX10_init_286 : decode cX10_init 286 = .ok (.newarray .int, 2) := by decide +kernel
theorem dX10_init_288 : decode cX10_init 288 = .ok (.putfield 112, 3) := by decide +kernel
theorem dX10_init_291 : decode cX10_init 291 = .ok (.aload_n 0, 1) := by decide +kernel
theorem dX10_init_292 : decode cX10_init 292 = .ok (.sipush 8200, 3) := by decide +kernel
theorem dX10_init_295 : decode cX10_init 295 = .ok (.newarray .int, 2) := by decide +kernel
theorem dX10_init_297 : decode cX10_init 297 = .ok (.putfield 115, 3) := by decide +kernel
theorem dX10_init_300 : decode cX10_init 300 = .ok (.aload_n 0, 1) := by decide +kernel
theorem dX10_init_301 : decode cX10_init 301 = .ok (.iconst 4, 1) := by decide +kernel
theorem dX10_init_302 : decode cX10_init 302 = .ok (.newarray .int, 2) := by decide +kernel
theorem dX10_init_304 : decode cX10_init 304 = .ok (.putfield 118, 3) := by decide +kernel
theorem dX10_init_307 : decode cX10_init 307 = .ok (.aload_n 0, 1) := by decide +kernel
theorem dX10_init_308 : decode cX10_init 308 = .ok (.bipush 60, 2) := by decide +kernel
theorem dX10_init_310 : decode cX10_init 310 = .ok (.newarray .int, 2) := by decide +kernel
theorem dX10_init_312 : decode cX10_init 312 = .ok (.putfield 121, 3) := by decide +kernel
theorem dX10_init_315 : decode cX10_init 315 = .ok (.aload_n 0, 1) := by decide +kernel
theorem dX10_init_316 : decode cX10_init 316 = .ok (.bipush 60, 2) := by decide +kernel
theorem dX10_init_318 : decode cX10_init 318 = .ok (.newarray .int, 2) := by decide +kernel
theorem dX10_init_320 : decode cX10_init 320 = .ok (.putfield 124, 3) := by decide +kernel
theorem dX10_init_323 : decode cX10_init 323 = .ok (.aload_n 0, 1) := by decide +kernel
theorem dX10_init_324 : decode cX10_init 324 = .ok (.sipush 8200, 3) := by decide +kernel
theorem dX10_init_327 : decode cX10_init 327 = .ok (.newarray .byte, 2) := by decide +kernel
theorem dX10_init_329 : decode cX10_init 329 = .ok (.putfield 127, 3) := by decide +kernel
theorem dX10_init_332 : decode cX10_init 332 = .ok (.aload_n 0, 1) := by decide +kernel
theorem dX10_init_333 : decode cX10_init 333 = .ok (.sipush 8200, 3) := by decide +kernel
theorem dX10_init_336 : decode cX10_init 336 = .ok (.newarray .int, 2) := by decide +kernel
theorem dX10_init_338 : decode cX10_init 338 = .ok (.putfield 130, 3) := by decide +kernel
theorem dX10_init_341 : decode cX10_init 341 = .ok (.return_, 1) := by decide +kernel
theorem dX10_thrown_0 : decode cX10_thrown 0 = .ok (.aload_n 0, 1) := by decide +kernel
theorem dX10_thrown_1 : decode cX10_thrown 1 = .ok (.getfield 133, 3) := by decide +kernel
theorem dX10_thrown_4 : decode cX10_thrown 4 = .ok (.ireturn, 1) := by decide +kernel
theorem dX10_goes_0 : decode cX10_goes 0 = .ok (.aload_n 0, 1) := by decide +kernel
theorem dX10_goes_1 : decode cX10_goes 1 = .ok (.iload_n 1, 1) := by decide +kernel
theorem dX10_goes_2 : decode cX10_goes 2 = .ok (.ifCond .eq 7, 3) := by decide +kernel
theorem dX10_goes_5 : decode cX10_goes 5 = .ok (.iconst 0, 1) := by decide +kernel
theorem dX10_goes_6 : decode cX10_goes 6 = .ok (.goto 4, 3) := by decide +kernel
theorem dX10_goes_9 : decode cX10_goes 9 = .ok (.iconst 1, 1) := by decide +kernel
theorem dX10_goes_10 : decode cX10_goes 10 = .ok (.putfield 133, 3) := by decide +kernel
theorem dX10_goes_13 : decode cX10_goes 13 = .ok (.iload_n 1, 1) := by decide +kernel
theorem dX10_goes_14 : decode cX10_goes 14 = .ok (.ireturn, 1) := by decide +kernel
theorem dX10_in_0 : decode cX10_in 0 = .ok (.iload_n 0, 1) := by decide +kernel
theorem dX10_in_1 : decode cX10_in 1 = .ok (.iload_n 1, 1) := by decide +kernel
theorem dX10_in_2 : decode cX10_in 2 = .ok (.if_icmp .lt 12, 3) := by decide +kernel
theorem dX10_in_5 : decode cX10_in 5 = .ok (.iload_n 0, 1) := by decide +kernel
theorem dX10_in_6 : decode cX10_in 6 = .ok (.iload_n 2, 1) := by decide +kernel
theorem dX10_in_7 : decode cX10_in 7 = .ok (.if_icmp .gt 7, 3) := by decide +kernel
theorem dX10_in_10 : decode cX10_in 10 = .ok (.iconst 1, 1) := by decide +kernel
theorem dX10_in_11 : decode cX10_in 11 = .ok (.goto 4, 3) := by decide +kernel
theorem dX10_in_14 : decode cX10_in 14 = .ok (.iconst 0, 1) := by decide +kernel
theorem dX10_in_15 : decode cX10_in 15 = .ok (.ireturn, 1) := by decide +kernel
theorem dX10_feed_0 : decode cX10_feed 0 = .ok (.aload_n 0, 1) := by decide +kernel
theorem dX10_feed_1 : decode cX10_feed 1 = .ok (.iload_n 1, 1) := by decide +kernel
theorem dX10_feed_2 : decode cX10_feed 2 = .ok (.iconst 1, 1) := by decide +kernel
theorem dX10_feed_3 : decode cX10_feed 3 = .ok (.bipush 8, 2) := by decide +kernel
theorem dX10_feed_5 : decode cX10_feed 5 = .ok (.invokestatic 136, 3) := by decide +kernel
theorem dX10_feed_8 : decode cX10_feed 8 = .ok (.ifCond .eq 19, 3) := by decide +kernel
theorem dX10_feed_11 : decode cX10_feed 11 = .ok (.aload_n 0, 1) := by decide +kernel
theorem dX10_feed_12 : decode cX10_feed 12 = .ok (.getfield 140, 3) := by decide +kernel
theorem dX10_feed_15 : decode cX10_feed 15 = .ok (.iload_n 1, 1) := by decide +kernel
theorem dX10_feed_16 : decode cX10_feed 16 = .ok (.iadd, 1) := by decide +kernel
theorem dX10_feed_17 : decode cX10_feed 17 = .ok (.sipush 8000, 3) := by decide +kernel
theorem dX10_feed_20 : decode cX10_feed 20 = .ok (.if_icmp .gt 7, 3) := by decide +kernel
theorem dX10_feed_23 : decode cX10_feed 23 = .ok (.iconst 1, 1) := by decide +kernel
theorem dX10_feed_24 : decode cX10_feed 24 = .ok (.goto 4, 3) := by decide +kernel
theorem dX10_feed_27 : decode cX10_feed 27 = .ok (.iconst 0, 1) := by decide +kernel
theorem dX10_feed_28 : decode cX10_feed 28 = .ok (.invokevirtual 143, 3) := by decide +kernel
theorem dX10_feed_31 : decode cX10_feed 31 = .ok (.ifCond .ne 5, 3) := by decide +kernel
theorem dX10_feed_34 : decode cX10_feed 34 = .ok (.iconst 0, 1) := by decide +kernel
theorem dX10_feed_35 : decode cX10_feed 35 = .ok (.ireturn, 1) := by decide +kernel
theorem dX10_feed_36 : decode cX10_feed 36 = .ok (.iconst 0, 1) := by decide +kernel
theorem dX10_feed_37 : decode cX10_feed 37 = .ok (.istore 4, 2) := by decide +kernel
theorem dX10_feed_39 : decode cX10_feed 39 = .ok (.iload 4, 2) := by decide +kernel
theorem dX10_feed_41 : decode cX10_feed 41 = .ok (.iload_n 1, 1) := by decide +kernel
theorem dX10_feed_42 : decode cX10_feed 42 = .ok (.if_icmp .ge 37, 3) := by decide +kernel
theorem dX10_feed_45 : decode cX10_feed 45 = .ok (.aload_n 0, 1) := by decide +kernel
theorem dX10_feed_46 : decode cX10_feed 46 = .ok (.getfield 7, 3) := by decide +kernel
theorem dX10_feed_49 : decode cX10_feed 49 = .ok (.aload_n 0, 1) := by decide +kernel
theorem dX10_feed_50 : decode cX10_feed 50 = .ok (.getfield 140, 3) := by decide +kernel
theorem dX10_feed_53 : decode cX10_feed 53 = .ok (.lload_n 2, 1) := by decide +kernel
theorem dX10_feed_54 : decode cX10_feed 54 = .ok (.bipush 8, 2) := by decide +kernel
theorem dX10_feed_56 : decode cX10_feed 56 = .ok (.iload 4, 2) := by decide +kernel
theorem dX10_feed_58 : decode cX10_feed 58 = .ok (.imul, 1) := by decide +kernel
theorem dX10_feed_59 : decode cX10_feed 59 = .ok (.lshr, 1) := by decide +kernel
theorem dX10_feed_60 : decode cX10_feed 60 = .ok (.l2i, 1) := by decide +kernel
theorem dX10_feed_61 : decode cX10_feed 61 = .ok (.i2b, 1) := by decide +kernel
theorem dX10_feed_62 : decode cX10_feed 62 = .ok (.bastore, 1) := by decide +kernel
theorem dX10_feed_63 : decode cX10_feed 63 = .ok (.aload_n 0, 1) := by decide +kernel
theorem dX10_feed_64 : decode cX10_feed 64 = .ok (.dup, 1) := by decide +kernel
theorem dX10_feed_65 : decode cX10_feed 65 = .ok (.getfield 140, 3) := by decide +kernel
theorem dX10_feed_68 : decode cX10_feed 68 = .ok (.iconst 1, 1) := by decide +kernel
theorem dX10_feed_69 : decode cX10_feed 69 = .ok (.iadd, 1) := by decide +kernel
theorem dX10_feed_70 : decode cX10_feed 70 = .ok (.putfield 140, 3) := by decide +kernel
theorem dX10_feed_73 : decode cX10_feed 73 = .ok (.iinc 4 1, 3) := by decide +kernel
theorem dX10_feed_76 : decode cX10_feed 76 = .ok (.goto (-37), 3) := by decide +kernel
theorem dX10_feed_79 : decode cX10_feed 79 = .ok (.aload_n 0, 1) := by decide +kernel
theorem dX10_feed_80 : decode cX10_feed 80 = .ok (.getfield 140, 3) := by decide +kernel
theorem dX10_feed_83 : decode cX10_feed 83 = .ok (.ireturn, 1) := by decide +kernel
theorem dX10_letterOf_0 : decode cX10_letterOf 0 = .ok (.iload_n 0, 1) := by decide +kernel
theorem dX10_letterOf_1 : decode cX10_letterOf 1 = .ok (.bipush 97, 2) := by decide +kernel
theorem dX10_letterOf_3 : decode cX10_letterOf 3 = .ok (.bipush 122, 2) := by decide +kernel
theorem dX10_letterOf_5 : decode cX10_letterOf 5 = .ok (.invokestatic 136, 3) := by decide +kernel
theorem dX10_letterOf_8 : decode cX10_letterOf 8 = .ok (.ifCond .eq 10, 3) := by decide +kernel
theorem dX10_letterOf_11 : decode cX10_letterOf 11 = .ok (.iload_n 0, 1) := by decide +kernel
theorem dX10_letterOf_12 : decode cX10_letterOf 12 = .ok (.bipush 32, 2) := by decide +kernel
theorem dX10_letterOf_14 : decode cX10_letterOf 14 = .ok (.isub, 1) := by decide +kernel
theorem dX10_letterOf_15 : decode cX10_letterOf 15 = .ok (.goto 4, 3) := by decide +kernel
theorem dX10_letterOf_18 : decode cX10_letterOf 18 = .ok (.iload_n 0, 1) := by decide +kernel
theorem dX10_letterOf_19 : decode cX10_letterOf 19 = .ok (.istore_n 1, 1) := by decide +kernel
theorem dX10_letterOf_20 : decode cX10_letterOf 20 = .ok (.iload_n 1, 1) := by decide +kernel
theorem dX10_letterOf_21 : decode cX10_letterOf 21 = .ok (.bipush 65, 2) := by decide +kernel
theorem dX10_letterOf_23 : decode cX10_letterOf 23 = .ok (.if_icmp .eq 27, 3) := by decide +kernel
theorem dX10_letterOf_26 : decode cX10_letterOf 26 = .ok (.iload_n 1, 1) := by decide +kernel
theorem dX10_letterOf_27 : decode cX10_letterOf 27 = .ok (.bipush 67, 2) := by decide +kernel
theorem dX10_letterOf_29 : decode cX10_letterOf 29 = .ok (.if_icmp .eq 21, 3) := by decide +kernel
theorem dX10_letterOf_32 : decode cX10_letterOf 32 = .ok (.iload_n 1, 1) := by decide +kernel
theorem dX10_letterOf_33 : decode cX10_letterOf 33 = .ok (.bipush 71, 2) := by decide +kernel
theorem dX10_letterOf_35 : decode cX10_letterOf 35 = .ok (.if_icmp .eq 15, 3) := by decide +kernel
theorem dX10_letterOf_38 : decode cX10_letterOf 38 = .ok (.iload_n 1, 1) := by decide +kernel
theorem dX10_letterOf_39 : decode cX10_letterOf 39 = .ok (.bipush 84, 2) := by decide +kernel
theorem dX10_letterOf_41 : decode cX10_letterOf 41 = .ok (.if_icmp .eq 9, 3) := by decide +kernel
theorem dX10_letterOf_44 : decode cX10_letterOf 44 = .ok (.iload_n 1, 1) := by decide +kernel
theorem dX10_letterOf_45 : decode cX10_letterOf 45 = .ok (.bipush 78, 2) := by decide +kernel
theorem dX10_letterOf_47 : decode cX10_letterOf 47 = .ok (.if_icmp .ne 7, 3) := by decide +kernel
theorem dX10_letterOf_50 : decode cX10_letterOf 50 = .ok (.iload_n 1, 1) := by decide +kernel
theorem dX10_letterOf_51 : decode cX10_letterOf 51 = .ok (.goto 4, 3) := by decide +kernel
theorem dX10_letterOf_54 : decode cX10_letterOf 54 = .ok (.iconst (-1), 1) := by decide +kernel
theorem dX10_letterOf_55 : decode cX10_letterOf 55 = .ok (.ireturn, 1) := by decide +kernel
theorem dX10_at_0 : decode cX10_at 0 = .ok (.iload_n 1, 1) := by decide +kernel
theorem dX10_at_1 : decode cX10_at 1 = .ok (.aload_n 0, 1) := by decide +kernel
theorem dX10_at_2 : decode cX10_at 2 = .ok (.getfield 140, 3) := by decide +kernel
theorem dX10_at_5 : decode cX10_at 5 = .ok (.if_icmp .ge 16, 3) := by decide +kernel
theorem dX10_at_8 : decode cX10_at 8 = .ok (.aload_n 0, 1) := by decide +kernel
theorem dX10_at_9 : decode cX10_at 9 = .ok (.getfield 7, 3) := by decide +kernel
theorem dX10_at_12 : decode cX10_at 12 = .ok (.iload_n 1, 1) := by decide +kernel
theorem dX10_at_13 : decode cX10_at 13 = .ok (.baload, 1) := by decide +kernel
theorem dX10_at_14 : decode cX10_at 14 = .ok (.sipush 255, 3) := by decide +kernel
theorem dX10_at_17 : decode cX10_at 17 = .ok (.iand, 1) := by decide +kernel
theorem dX10_at_18 : decode cX10_at 18 = .ok (.goto 4, 3) := by decide +kernel
theorem dX10_at_21 : decode cX10_at 21 = .ok (.iconst (-1), 1) := by decide +kernel
theorem dX10_at_22 : decode cX10_at 22 = .ok (.ireturn, 1) := by decide +kernel
theorem dX10_bad_0 : decode cX10_bad 0 = .ok (.aload_n 0, 1) := by decide +kernel
theorem dX10_bad_1 : decode cX10_bad 1 = .ok (.getfield 147, 3) := by decide +kernel
theorem dX10_bad_4 : decode cX10_bad 4 = .ok (.ifCond .ne 13, 3) := by decide +kernel
theorem dX10_bad_7 : decode cX10_bad 7 = .ok (.aload_n 0, 1) := by decide +kernel
theorem dX10_bad_8 : decode cX10_bad 8 = .ok (.iload_n 1, 1) := by decide +kernel
theorem dX10_bad_9 : decode cX10_bad 9 = .ok (.putfield 147, 3) := by decide +kernel
theorem dX10_bad_12 : decode cX10_bad 12 = .ok (.aload_n 0, 1) := by decide +kernel
theorem dX10_bad_13 : decode cX10_bad 13 = .ok (.iload_n 2, 1) := by decide +kernel
theorem dX10_bad_14 : decode cX10_bad 14 = .ok (.putfield 150, 3) := by decide +kernel
theorem dX10_bad_17 : decode cX10_bad 17 = .ok (.return_, 1) := by decide +kernel
theorem dX10_isNameSign_0 : decode cX10_isNameSign 0 = .ok (.iload_n 0, 1) := by decide +kernel
theorem dX10_isNameSign_1 : decode cX10_isNameSign 1 = .ok (.bipush 65, 2) := by decide +kernel
theorem dX10_isNameSign_3 : decode cX10_isNameSign 3 = .ok (.bipush 90, 2) := by decide +kernel
theorem dX10_isNameSign_5 : decode cX10_isNameSign 5 = .ok (.invokestatic 136, 3) := by decide +kernel
theorem dX10_isNameSign_8 : decode cX10_isNameSign 8 = .ok (.ifCond .ne 37, 3) := by decide +kernel
theorem dX10_isNameSign_11 : decode cX10_isNameSign 11 = .ok (.iload_n 0, 1) := by decide +kernel
theorem dX10_isNameSign_12 : decode cX10_isNameSign 12 = .ok (.bipush 97, 2) := by decide +kernel
theorem dX10_isNameSign_14 : decode cX10_isNameSign 14 = .ok (.bipush 122, 2) := by decide +kernel
theorem dX10_isNameSign_16 : decode cX10_isNameSign 16 = .ok (.invokestatic 136, 3) := by decide +kernel
theorem dX10_isNameSign_19 : decode cX10_isNameSign 19 = .ok (.ifCond .ne 26, 3) := by decide +kernel
theorem dX10_isNameSign_22 : decode cX10_isNameSign 22 = .ok (.iload_n 0, 1) := by decide +kernel
theorem dX10_isNameSign_23 : decode cX10_isNameSign 23 = .ok (.bipush 48, 2) := by decide +kernel
theorem dX10_isNameSign_25 : decode cX10_isNameSign 25 = .ok (.bipush 57, 2) := by decide +kernel
theorem dX10_isNameSign_27 : decode cX10_isNameSign 27 = .ok (.invokestatic 136, 3) := by decide +kernel
theorem dX10_isNameSign_30 : decode cX10_isNameSign 30 = .ok (.ifCond .ne 15, 3) := by decide +kernel
theorem dX10_isNameSign_33 : decode cX10_isNameSign 33 = .ok (.iload_n 0, 1) := by decide +kernel
theorem dX10_isNameSign_34 : decode cX10_isNameSign 34 = .ok (.bipush 95, 2) := by decide +kernel
theorem dX10_isNameSign_36 : decode cX10_isNameSign 36 = .ok (.if_icmp .eq 9, 3) := by decide +kernel
theorem dX10_isNameSign_39 : decode cX10_isNameSign 39 = .ok (.iload_n 0, 1) := by decide +kernel
theorem dX10_isNameSign_40 : decode cX10_isNameSign 40 = .ok (.bipush 46, 2) := by decide +kernel
theorem dX10_isNameSign_42 : decode cX10_isNameSign 42 = .ok (.if_icmp .ne 7, 3) := by decide +kernel
theorem dX10_isNameSign_45 : decode cX10_isNameSign 45 = .ok (.iconst 1, 1) := by decide +kernel
theorem dX10_isNameSign_46 : decode cX10_isNameSign 46 = .ok (.goto 4, 3) := by decide +kernel
theorem dX10_isNameSign_49 : decode cX10_isNameSign 49 = .ok (.iconst 0, 1) := by decide +kernel
theorem dX10_isNameSign_50 : decode cX10_isNameSign 50 = .ok (.ireturn, 1) := by decide +kernel
theorem dX10_isOld_0 : decode cX10_isOld 0 = .ok (.iconst 0, 1) := by decide +kernel
theorem dX10_isOld_1 : decode cX10_isOld 1 = .ok (.istore_n 2, 1) := by decide +kernel
theorem dX10_isOld_2 : decode cX10_isOld 2 = .ok (.iload_n 2, 1) := by decide +kernel
theorem dX10_isOld_3 : decode cX10_isOld 3 = .ok (.iload_n 1, 1) := by decide +kernel
theorem dX10_isOld_4 : decode cX10_isOld 4 = .ok (.if_icmp .ge 93, 3) := by decide +kernel
theorem dX10_isOld_7 : decode cX10_isOld 7 = .ok (.aload_n 0, 1) := by decide +kernel
theorem dX10_isOld_8 : decode cX10_isOld 8 = .ok (.getfield 42, 3) := by decide +kernel
theorem dX10_isOld_11 : decode cX10_isOld 11 = .ok (.iload_n 2, 1) := by decide +kernel
theorem dX10_isOld_12 : decode cX10_isOld 12 = .ok (.iaload, 1) := by decide +kernel
theorem dX10_isOld_13 : decode cX10_isOld 13 = .ok (.aload_n 0, 1) := by decide +kernel
theorem dX10_isOld_14 : decode cX10_isOld 14 = .ok (.getfield 42, 3) := by decide +kernel
theorem dX10_isOld_17 : decode cX10_isOld 17 = .ok (.iload_n 1, 1) := by decide +kernel
theorem dX10_isOld_18 : decode cX10_isOld 18 = .ok (.iaload, 1) := by decide +kernel
theorem dX10_isOld_19 : decode cX10_isOld 19 = .ok (.if_icmp .ne 7, 3) := by decide +kernel
theorem dX10_isOld_22 : decode cX10_isOld 22 = .ok (.iconst 1, 1) := by decide +kernel
theorem dX10_isOld_23 : decode cX10_isOld 23 = .ok (.goto 4, 3) := by decide +kernel
theorem dX10_isOld_26 : decode cX10_isOld 26 = .ok (.iconst 0, 1) := by decide +kernel
theorem dX10_isOld_27 : decode cX10_isOld 27 = .ok (.istore_n 3, 1) := by decide +kernel
theorem dX10_isOld_28 : decode cX10_isOld 28 = .ok (.iconst 0, 1) := by decide +kernel
theorem dX10_isOld_29 : decode cX10_isOld 29 = .ok (.istore 4, 2) := by decide +kernel
theorem dX10_isOld_31 : decode cX10_isOld 31 = .ok (.iload 4, 2) := by decide +kernel
theorem dX10_isOld_33 : decode cX10_isOld 33 = .ok (.aload_n 0, 1) := by decide +kernel
theorem dX10_isOld_34 : decode cX10_isOld 34 = .ok (.getfield 42, 3) := by decide +kernel
theorem dX10_isOld_37 : decode cX10_isOld 37 = .ok (.iload_n 1, 1) := by decide +kernel
theorem dX10_isOld_38 : decode cX10_isOld 38 = .ok (.iaload, 1) := by decide +kernel
theorem dX10_isOld_39 : decode cX10_isOld 39 = .ok (.if_icmp .ge 46, 3) := by decide +kernel
theorem dX10_isOld_42 : decode cX10_isOld 42 = .ok (.iload_n 3, 1) := by decide +kernel
theorem dX10_isOld_43 : decode cX10_isOld 43 = .ok (.ifCond .eq 42, 3) := by decide +kernel
theorem dX10_isOld_46 : decode cX10_isOld 46 = .ok (.aload_n 0, 1) := by decide +kernel
theorem dX10_isOld_47 : decode cX10_isOld 47 = .ok (.getfield 39, 3) := by decide +kernel
theorem dX10_isOld_50 : decode cX10_isOld 50 = .ok (.bipush 20, 2) := by decide +kernel
theorem dX10_isOld_52 : decode cX10_isOld 52 = .ok (.iload_n 2, 1) := by decide +kernel
theorem dX10_isOld_53 : decode cX10_isOld 53 = .ok (.imul, 1) := by decide +kernel
theorem dX10_isOld_54 : decode cX10_isOld 54 = .ok (.iload 4, 2) := by decide +kernel
theorem dX10_isOld_56 : decode cX10_isOld 56 = .ok (.iadd, 1) := by decide +kernel
theorem dX10_isOld_57 : decode cX10_isOld 57 = .ok (.baload, 1) := by decide +kernel
theorem dX10_isOld_58 : decode cX10_isOld 58 = .ok (.aload_n 0, 1) := by decide +kernel
theorem dX10_isOld_59 : decode cX10_isOld 59 = .ok (.getfield 39, 3) := by decide +kernel
theorem dX10_isOld_62 : decode cX10_isOld 62 = .ok (.bipush 20, 2) := by decide +kernel
theorem dX10_isOld_64 : decode cX10_isOld 64 = .ok (.iload_n 1, 1) := by decide +kernel
theorem dX10_isOld_65 : decode cX10_isOld 65 = .ok (.imul, 1) := by decide +kernel
theorem dX10_isOld_66 : decode cX10_isOld 66 = .ok (.iload 4, 2) := by decide +kernel
theorem dX10_isOld_68 : decode cX10_isOld 68 = .ok (.iadd, 1) := by decide +kernel
theorem dX10_isOld_69 : decode cX10_isOld 69 = .ok (.baload, 1) := by decide +kernel
theorem dX10_isOld_70 : decode cX10_isOld 70 = .ok (.if_icmp .ne 7, 3) := by decide +kernel
theorem dX10_isOld_73 : decode cX10_isOld 73 = .ok (.iconst 1, 1) := by decide +kernel
theorem dX10_isOld_74 : decode cX10_isOld 74 = .ok (.goto 4, 3) := by decide +kernel
theorem dX10_isOld_77 : decode cX10_isOld 77 = .ok (.iconst 0, 1) := by decide +kernel
theorem dX10_isOld_78 : decode cX10_isOld 78 = .ok (.istore_n 3, 1) := by decide +kernel
theorem dX10_isOld_79 : decode cX10_isOld 79 = .ok (.iinc 4 1, 3) := by decide +kernel
theorem dX10_isOld_82 : decode cX10_isOld 82 = .ok (.goto (-51), 3) := by decide +kernel
theorem dX10_isOld_85 : decode cX10_isOld 85 = .ok (.iload_n 3, 1) := by decide +kernel
theorem dX10_isOld_86 : decode cX10_isOld 86 = .ok (.ifCond .eq 5, 3) := by decide +kernel
theorem dX10_isOld_89 : decode cX10_isOld 89 = .ok (.iconst 1, 1) := by decide +kernel
theorem dX10_isOld_90 : decode cX10_isOld 90 = .ok (.ireturn, 1) := by decide +kernel
theorem dX10_isOld_91 : decode cX10_isOld 91 = .ok (.iinc 2 1, 3) := by decide +kernel
theorem dX10_isOld_94 : decode cX10_isOld 94 = .ok (.goto (-92), 3) := by decide +kernel
theorem dX10_isOld_97 : decode cX10_isOld 97 = .ok (.iconst 0, 1) := by decide +kernel
theorem dX10_isOld_98 : decode cX10_isOld 98 = .ok (.ireturn, 1) := by decide +kernel
theorem dX10_readName_0 : decode cX10_readName 0 = .ok (.aload_n 0, 1) := by decide +kernel
theorem dX10_readName_1 : decode cX10_readName 1 = .ok (.getfield 153, 3) := by decide +kernel
theorem dX10_readName_4 : decode cX10_readName 4 = .ok (.istore_n 2, 1) := by decide +kernel
theorem dX10_readName_5 : decode cX10_readName 5 = .ok (.iload_n 1, 1) := by decide +kernel
theorem dX10_readName_6 : decode cX10_readName 6 = .ok (.istore_n 3, 1) := by decide +kernel
theorem dX10_readName_7 : decode cX10_readName 7 = .ok (.aload_n 0, 1) := by decide +kernel
theorem dX10_readName_8 : decode cX10_readName 8 = .ok (.iload_n 3, 1) := by decide +kernel
theorem dX10_readName_9 : decode cX10_readName 9 = .ok (.invokevirtual 156, 3) := by decide +kernel
theorem dX10_readName_12 : decode cX10_readName 12 = .ok (.bipush 62, 2) := by decide +kernel
theorem dX10_readName_14 : decode cX10_readName 14 = .ok (.if_icmp .eq 24, 3) := by decide +kernel
theorem dX10_readName_17 : decode cX10_readName 17 = .ok (.aload_n 0, 1) := by decide +kernel
theorem dX10_readName_18 : decode cX10_readName 18 = .ok (.aload_n 0, 1) := by decide +kernel
theorem dX10_readName_19 : decode cX10_readName 19 = .ok (.iload_n 3, 1) := by decide +kernel
theorem dX10_readName_20 : decode cX10_readName 20 = .ok (.invokevirtual 156, 3) := by decide +kernel
theorem dX10_readName_23 : decode cX10_readName 23 = .ok (.iconst (-1), 1) := by decide +kernel
theorem dX10_readName_24 : decode cX10_readName 24 = .ok (.if_icmp .ne 7, 3) := by decide +kernel
theorem dX10_readName_27 : decode cX10_readName 27 = .ok (.iconst 1, 1) := by decide +kernel
theorem dX10_readName_28 : decode cX10_readName 28 = .ok (.goto 4, 3) := by decide +kernel
theorem dX10_readName_31 : decode cX10_readName 31 = .ok (.iconst 2, 1) := by decide +kernel
theorem dX10_readName_32 : decode cX10_readName 32 = .ok (.iload_n 3, 1) := by decide +kernel
theorem dX10_readName_33 : decode cX10_readName 33 = .ok (.invokevirtual 160, 3) := by decide +kernel
theorem dX10_readName_36 : decode cX10_readName 36 = .ok (.iload_n 3, 1) := by decide +kernel
theorem dX10_readName_37 : decode cX10_readName 37 = .ok (.ireturn, 1) := by decide +kernel
theorem dX10_readName_38 : decode cX10_readName 38 = .ok (.iload_n 2, 1) := by decide +kernel
theorem dX10_readName_39 : decode cX10_readName 39 = .ok (.bipush 8, 2) := by decide +kernel
theorem dX10_readName_41 : decode cX10_readName 41 = .ok (.if_icmp .ne 11, 3) := by decide +kernel
theorem dX10_readName_44 : decode cX10_readName 44 = .ok (.aload_n 0, 1) := by decide +kernel
theorem dX10_readName_45 : decode cX10_readName 45 = .ok (.iconst 3, 1) := by decide +kernel
theorem dX10_readName_46 : decode cX10_readName 46 = .ok (.iload_n 3, 1) := by decide +kernel
theorem dX10_readName_47 : decode cX10_readName 47 = .ok (.invokevirtual 160, 3) := by decide +kernel
theorem dX10_readName_50 : decode cX10_readName 50 = .ok (.iload_n 3, 1) := by decide +kernel
theorem dX10_readName_51 : decode cX10_readName 51 = .ok (.ireturn, 1) := by decide +kernel
theorem dX10_readName_52 : decode cX10_readName 52 = .ok (.iinc 3 1, 3) := by decide +kernel
theorem dX10_readName_55 : decode cX10_readName 55 = .ok (.iload_n 3, 1) := by decide +kernel
theorem dX10_readName_56 : decode cX10_readName 56 = .ok (.istore 4, 2) := by decide +kernel
theorem dX10_readName_58 : decode cX10_readName 58 = .ok (.iconst 0, 1) := by decide +kernel
theorem dX10_readName_59 : decode cX10_readName 59 = .ok (.istore 5, 2) := by decide +kernel
theorem dX10_readName_61 : decode cX10_readName 61 = .ok (.aload_n 0, 1) := by decide +kernel
theorem dX10_readName_62 : decode cX10_readName 62 = .ok (.getfield 147, 3) := by decide +kernel
theorem dX10_readName_65 : decode cX10_readName 65 = .ok (.ifCond .ne 57, 3) := by decide +kernel
theorem dX10_readName_68 : decode cX10_readName 68 = .ok (.aload_n 0, 1) := by decide +kernel
theorem dX10_readName_69 : decode cX10_readName 69 = .ok (.iload_n 3, 1) := by decide +kernel
theorem dX10_readName_70 : decode cX10_readName 70 = .ok (.invokevirtual 156, 3) := by decide +kernel
theorem dX10_readName_73 : decode cX10_readName 73 = .ok (.invokestatic 164, 3) := by decide +kernel
theorem dX10_readName_76 : decode cX10_readName 76 = .ok (.ifCond .eq 46, 3) := by decide +kernel
theorem dX10_readName_79 : decode cX10_readName 79 = .ok (.iload 5, 2) := by decide +kernel
theorem dX10_readName_81 : decode cX10_readName 81 = .ok (.bipush 20, 2) := by decide +kernel
theorem dX10_readName_83 : decode cX10_readName 83 = .ok (.if_icmp .ne 12, 3) := by decide +kernel
theorem dX10_readName_86 : decode cX10_readName 86 = .ok (.aload_n 0, 1) := by decide +kernel
theorem dX10_readName_87 : decode cX10_readName 87 = .ok (.iconst 3, 1) := by decide +kernel
theorem dX10_readName_88 : decode cX10_readName 88 = .ok (.iload_n 3, 1) := by decide +kernel
theorem dX10_readName_89 : decode cX10_readName 89 = .ok (.invokevirtual 160, 3) := by decide +kernel
theorem dX10_readName_92 : decode cX10_readName 92 = .ok (.goto (-31), 3) := by decide +kernel
theorem dX10_readName_95 : decode cX10_readName 95 = .ok (.aload_n 0, 1) := by decide +kernel
theorem dX10_readName_96 : decode cX10_readName 96 = .ok (.getfield 39, 3) := by decide +kernel
theorem dX10_readName_99 : decode cX10_readName 99 = .ok (.bipush 20, 2) := by decide +kernel
theorem dX10_readName_101 : decode cX10_readName 101 = .ok (.iload_n 2, 1) := by decide +kernel
theorem dX10_readName_102 : decode cX10_readName 102 = .ok (.imul, 1) := by decide +kernel
theorem dX10_readName_103 : decode cX10_readName 103 = .ok (.iload 5, 2) := by decide +kernel
theorem dX10_readName_105 : decode cX10_readName 105 = .ok (.iadd, 1) := by decide +kernel
theorem dX10_readName_106 : decode cX10_readName 106 = .ok (.aload_n 0, 1) := by decide +kernel
theorem dX10_readName_107 : decode cX10_readName 107 = .ok (.iload_n 3, 1) := by decide +kernel
theorem dX10_readName_108 : decode cX10_readName 108 = .ok (.invokevirtual 156, 3) := by decide +kernel
theorem dX10_readName_111 : decode cX10_readName 111 = .ok (.i2b, 1) := by decide +kernel
theorem dX10_readName_112 : decode cX10_readName 112 = .ok (.bastore, 1) := by decide +kernel
theorem dX10_readName_113 : decode cX10_readName 113 = .ok (.iinc 5 1, 3) := by decide +kernel
theorem dX10_readName_116 : decode cX10_readName 116 = .ok (.iinc 3 1, 3) := by decide +kernel
theorem dX10_readName_119 : decode cX10_readName 119 = .ok (.goto (-58), 3) := by decide +kernel
theorem dX10_readName_122 : decode cX10_readName 122 = .ok (.aload_n 0, 1) := by decide +kernel
theorem dX10_readName_123 : decode cX10_readName 123 = .ok (.getfield 42, 3) := by decide +kernel
theorem dX10_readName_126 : decode cX10_readName 126 = .ok (.iload_n 2, 1) := by decide +kernel
theorem dX10_readName_127 : decode cX10_readName 127 = .ok (.iload 5, 2) := by decide +kernel
theorem dX10_readName_129 : decode cX10_readName 129 = .ok (.iastore, 1) := by decide +kernel
theorem dX10_readName_130 : decode cX10_readName 130 = .ok (.aload_n 0, 1) := by decide +kernel
theorem dX10_readName_131 : decode cX10_readName 131 = .ok (.getfield 147, 3) := by decide +kernel
theorem dX10_readName_134 : decode cX10_readName 134 = .ok (.ifCond .eq 5, 3) := by decide +kernel
theorem dX10_readName_137 : decode cX10_readName 137 = .ok (.iload_n 3, 1) := by decide +kernel
theorem dX10_readName_138 : decode cX10_readName 138 = .ok (.ireturn, 1) := by decide +kernel
theorem dX10_readName_139 : decode cX10_readName 139 = .ok (.aload_n 0, 1) := by decide +kernel
theorem dX10_readName_140 : decode cX10_readName 140 = .ok (.iload_n 3, 1) := by decide +kernel
theorem dX10_readName_141 : decode cX10_readName 141 = .ok (.invokevirtual 156, 3) := by decide +kernel
theorem dX10_readName_144 : decode cX10_readName 144 = .ok (.bipush 32, 2) := by decide +kernel
theorem dX10_readName_146 : decode cX10_readName 146 = .ok (.if_icmp .ne 29, 3) := by decide +kernel
theorem dX10_readName_149 : decode cX10_readName 149 = .ok (.iload 5, 2) := by decide +kernel
theorem dX10_readName_151 : decode cX10_readName 151 = .ok (.ifCond .le 24, 3) := by decide +kernel
theorem dX10_readName_154 : decode cX10_readName 154 = .ok (.aload_n 0, 1) := by decide +kernel
theorem dX10_readName_155 : decode cX10_readName 155 = .ok (.iload_n 3, 1) := by decide +kernel
theorem dX10_readName_156 : decode cX10_readName 156 = .ok (.invokevirtual 156, 3) := by decide +kernel
theorem dX10_readName_159 : decode cX10_readName 159 = .ok (.bipush 32, 2) := by decide +kernel
theorem dX10_readName_161 : decode cX10_readName 161 = .ok (.bipush 126, 2) := by decide +kernel
theorem dX10_readName_163 : decode cX10_readName 163 = .ok (.invokestatic 136, 3) := by decide +kernel
theorem dX10_readName_166 : decode cX10_readName 166 = .ok (.ifCond .eq 9, 3) := by decide +kernel
theorem dX10_readName_169 : decode cX10_readName 169 = .ok (.iinc 3 1, 3) := by decide +kernel
theorem dX10_readName_172 : decode cX10_readName 172 = .ok (.goto (-18), 3) := by decide +kernel
theorem dX10_readName_175 : decode cX10_readName 175 = .ok (.aload_n 0, 1) := by decide +kernel
theorem dX10_readName_176 : decode cX10_readName 176 = .ok (.iload_n 3, 1) := by decide +kernel
theorem dX10_readName_177 : decode cX10_readName 177 = .ok (.invokevirtual 156, 3) := by decide +kernel
theorem dX10_readName_180 : decode cX10_readName 180 = .ok (.iconst (-1), 1) := by decide +kernel
theorem dX10_readName_181 : decode cX10_readName 181 = .ok (.if_icmp .ne 12, 3) := by decide +kernel
theorem dX10_readName_184 : decode cX10_readName 184 = .ok (.aload_n 0, 1) := by decide +kernel
theorem dX10_readName_185 : decode cX10_readName 185 = .ok (.iconst 1, 1) := by decide +kernel
theorem dX10_readName_186 : decode cX10_readName 186 = .ok (.iload_n 3, 1) := by decide +kernel
theorem dX10_readName_187 : decode cX10_readName 187 = .ok (.invokevirtual 160, 3) := by decide +kernel
theorem dX10_readName_190 : decode cX10_readName 190 = .ok (.goto 42, 3) := by decide +kernel
theorem dX10_readName_193 : decode cX10_readName 193 = .ok (.aload_n 0, 1) := by decide +kernel
theorem dX10_readName_194 : decode cX10_readName 194 = .ok (.iload_n 3, 1) := by decide +kernel
theorem dX10_readName_195 : decode cX10_readName 195 = .ok (.invokevirtual 156, 3) := by decide +kernel
theorem dX10_readName_198 : decode cX10_readName 198 = .ok (.bipush 10, 2) := by decide +kernel
theorem dX10_readName_200 : decode cX10_readName 200 = .ok (.if_icmp .ne 8, 3) := by decide +kernel
theorem dX10_readName_203 : decode cX10_readName 203 = .ok (.iload 5, 2) := by decide +kernel
theorem dX10_readName_205 : decode cX10_readName 205 = .ok (.ifCond .ne 12, 3) := by decide +kernel
theorem dX10_readName_208 : decode cX10_readName 208 = .ok (.aload_n 0, 1) := by decide +kernel
theorem dX10_readName_209 : decode cX10_readName 209 = .ok (.iconst 2, 1) := by decide +kernel
theorem dX10_readName_210 : decode cX10_readName 210 = .ok (.iload_n 3, 1) := by decide +kernel
theorem dX10_readName_211 : decode cX10_readName 211 = .ok (.invokevirtual 160, 3) := by decide +kernel
theorem dX10_readName_214 : decode cX10_readName 214 = .ok (.goto 18, 3) := by decide +kernel
theorem dX10_readName_217 : decode cX10_readName 217 = .ok (.aload_n 0, 1) := by decide +kernel
theorem dX10_readName_218 : decode cX10_readName 218 = .ok (.iload_n 2, 1) := by decide +kernel
theorem dX10_readName_219 : decode cX10_readName 219 = .ok (.invokevirtual 168, 3) := by decide +kernel
theorem dX10_readName_222 : decode cX10_readName 222 = .ok (.ifCond .eq 10, 3) := by decide +kernel
theorem dX10_readName_225 : decode cX10_readName 225 = .ok (.aload_n 0, 1) := by decide +kernel
theorem dX10_readName_226 : decode cX10_readName 226 = .ok (.iconst 4, 1) := by decide +kernel
theorem dX10_readName_227 : decode cX10_readName 227 = .ok (.iload 4, 2) := by decide +kernel
theorem dX10_readName_229 : decode cX10_readName 229 = .ok (.invokevirtual 160, 3) := by decide +kernel
theorem dX10_readName_232 : decode cX10_readName 232 = .ok (.iload_n 3, 1) := by decide +kernel
theorem dX10_readName_233 : decode cX10_readName 233 = .ok (.iconst 1, 1) := by decide +kernel
theorem dX10_readName_234 : decode cX10_readName 234 = .ok (.iadd, 1) := by decide +kernel
theorem dX10_readName_235 : decode cX10_readName 235 = .ok (.ireturn, 1) := by decide +kernel
theorem dX10_readLetters_0 : decode cX10_readLetters 0 = .ok (.aload_n 0, 1) := by decide +kernel
theorem dX10_readLetters_1 : decode cX10_readLetters 1 = .ok (.getfield 153, 3) := by decide +kernel
theorem dX10_readLetters_4 : decode cX10_readLetters 4 = .ok (.istore_n 2, 1) := by decide +kernel
theorem dX10_readLetters_5 : decode cX10_readLetters 5 = .ok (.iload_n 1, 1) := by decide +kernel
theorem dX10_readLetters_6 : decode cX10_readLetters 6 = .ok (.istore_n 3, 1) := by decide +kernel
theorem dX10_readLetters_7 : decode cX10_readLetters 7 = .ok (.aload_n 0, 1) := by decide +kernel
theorem dX10_readLetters_8 : decode cX10_readLetters 8 = .ok (.getfield 48, 3) := by decide +kernel
theorem dX10_readLetters_11 : decode cX10_readLetters 11 = .ok (.iload_n 2, 1) := by decide +kernel
theorem dX10_readLetters_12 : decode cX10_readLetters 12 = .ok (.aload_n 0, 1) := by decide +kernel
theorem dX10_readLetters_13 : decode cX10_readLetters 13 = .ok (.getfield 171, 3) := by decide +kernel
theorem dX10_readLetters_16 : decode cX10_readLetters 16 = .ok (.iastore, 1) := by decide +kernel
theorem dX10_readLetters_17 : decode cX10_readLetters 17 = .ok (.aload_n 0, 1) := by decide +kernel
theorem dX10_readLetters_18 : decode cX10_readLetters 18 = .ok (.getfield 54, 3) := by decide +kernel
theorem dX10_readLetters_21 : decode cX10_readLetters 21 = .ok (.iload_n 2, 1) := by decide +kernel
theorem dX10_readLetters_22 : decode cX10_readLetters 22 = .ok (.iload_n 3, 1) := by decide +kernel
theorem dX10_readLetters_23 : decode cX10_readLetters 23 = .ok (.iastore, 1) := by decide +kernel
theorem dX10_readLetters_24 : decode cX10_readLetters 24 = .ok (.aload_n 0, 1) := by decide +kernel
theorem dX10_readLetters_25 : decode cX10_readLetters 25 = .ok (.getfield 51, 3) := by decide +kernel
theorem dX10_readLetters_28 : decode cX10_readLetters 28 = .ok (.iload_n 2, 1) := by decide +kernel
theorem dX10_readLetters_29 : decode cX10_readLetters 29 = .ok (.iconst 0, 1) := by decide +kernel
theorem dX10_readLetters_30 : decode cX10_readLetters 30 = .ok (.iastore, 1) := by decide +kernel
theorem dX10_readLetters_31 : decode cX10_readLetters 31 = .ok (.iconst 0, 1) := by decide +kernel
theorem dX10_readLetters_32 : decode cX10_readLetters 32 = .ok (.istore 4, 2) := by decide +kernel
theorem dX10_readLetters_34 : decode cX10_readLetters 34 = .ok (.iconst 0, 1) := by decide +kernel
theorem dX10_readLetters_35 : decode cX10_readLetters 35 = .ok (.istore 5, 2) := by decide +kernel
theorem dX10_readLetters_37 : decode cX10_readLetters 37 = .ok (.iconst 0, 1) := by decide +kernel
theorem dX10_readLetters_38 : decode cX10_readLetters 38 = .ok (.istore 6, 2) := by decide +kernel
theorem dX10_readLetters_40 : decode cX10_readLetters 40 = .ok (.iconst 1, 1) := by decide +kernel
theorem dX10_readLetters_41 : decode cX10_readLetters 41 = .ok (.istore 7, 2) := by decide +kernel
theorem dX10_readLetters_43 : decode cX10_readLetters 43 = .ok (.iload 7, 2) := by decide +kernel
theorem dX10_readLetters_45 : decode cX10_readLetters 45 = .ok (.ifCond .eq 244, 3) := by decide +kernel
theorem dX10_readLetters_48 : decode cX10_readLetters 48 = .ok (.aload_n 0, 1) := by decide +kernel
theorem dX10_readLetters_49 : decode cX10_readLetters 49 = .ok (.getfield 147, 3) := by decide +kernel
theorem dX10_readLetters_52 : decode cX10_readLetters 52 = .ok (.ifCond .ne 237, 3) := by decide +kernel
theorem dX10_readLetters_55 : decode cX10_readLetters 55 = .ok (.iconst 0, 1) := by decide +kernel
theorem dX10_readLetters_56 : decode cX10_readLetters 56 = .ok (.istore 8, 2) := by decide +kernel
theorem dX10_readLetters_58 : decode cX10_readLetters 58 = .ok (.aload_n 0, 1) := by decide +kernel
theorem dX10_readLetters_59 : decode cX10_readLetters 59 = .ok (.getfield 147, 3) := by decide +kernel
theorem dX10_readLetters_62 : decode cX10_readLetters 62 = .ok (.ifCond .ne 114, 3) := by decide +kernel
theorem dX10_readLetters_65 : decode cX10_readLetters 65 = .ok (.aload_n 0, 1) := by decide +kernel
theorem dX10_readLetters_66 : decode cX10_readLetters 66 = .ok (.iload_n 3, 1) := by decide +kernel
theorem dX10_readLetters_67 : decode cX10_readLetters 67 = .ok (.invokevirtual 156, 3) := by decide +kernel
theorem dX10_readLetters_70 : decode cX10_readLetters 70 = .ok (.invokestatic 174, 3) := by decide +kernel
theorem dX10_readLetters_73 : decode cX10_readLetters 73 = .ok (.iconst (-1), 1) := by decide +kernel
theorem dX10_readLetters_74 : decode cX10_readLetters 74 = .ok (.if_icmp .eq 102, 3) := by decide +kernel
theorem dX10_readLetters_77 : decode cX10_readLetters 77 = .ok (.aload_n 0, 1) := by decide +kernel
theorem dX10_readLetters_78 : decode cX10_readLetters 78 = .ok (.getfield 171, 3) := by decide +kernel
theorem dX10_readLetters_81 : decode cX10_readLetters 81 = .ok (.sipush 3000, 3) := by decide +kernel
theorem dX10_readLetters_84 : decode cX10_readLetters 84 = .ok (.if_icmp .ne 12, 3) := by decide +kernel
theorem dX10_readLetters_87 : decode cX10_readLetters 87 = .ok (.aload_n 0, 1) := by decide +kernel
theorem dX10_readLetters_88 : decode cX10_readLetters 88 = .ok (.iconst 3, 1) := by decide +kernel
theorem dX10_readLetters_89 : decode cX10_readLetters 89 = .ok (.iload_n 3, 1) := by decide +kernel
theorem dX10_readLetters_90 : decode cX10_readLetters 90 = .ok (.invokevirtual 160, 3) := by decide +kernel
theorem dX10_readLetters_93 : decode cX10_readLetters 93 = .ok (.goto (-35), 3) := by decide +kernel
theorem dX10_readLetters_96 : decode cX10_readLetters 96 = .ok (.iload 5, 2) := by decide +kernel
theorem dX10_readLetters_98 : decode cX10_readLetters 98 = .ok (.ifCond .le 31, 3) := by decide +kernel
theorem dX10_readLetters_101 : decode cX10_readLetters 101 = .ok (.iload 8, 2) := by decide +kernel
theorem dX10_readLetters_103 : decode cX10_readLetters 103 = .ok (.ifCond .ne 10, 3) := by decide +kernel
theorem dX10_readLetters_106 : decode cX10_readLetters 106 = .ok (.iload 6, 2) := by decide +kernel
theorem dX10_readLetters_108 : decode cX10_readLetters 108 = .ok (.iload 4, 2) := by decide +kernel
theorem dX10_readLetters_110 : decode cX10_readLetters 110 = .ok (.if_icmp .lt 10, 3) := by decide +kernel
theorem dX10_readLetters_113 : decode cX10_readLetters 113 = .ok (.iload 8, 2) := by decide +kernel
theorem dX10_readLetters_115 : decode cX10_readLetters 115 = .ok (.iload 4, 2) := by decide +kernel
theorem dX10_readLetters_117 : decode cX10_readLetters 117 = .ok (.if_icmp .ne 12, 3) := by decide +kernel
theorem dX10_readLetters_120 : decode cX10_readLetters 120 = .ok (.aload_n 0, 1) := by decide +kernel
theorem dX10_readLetters_121 : decode cX10_readLetters 121 = .ok (.iconst 5, 1) := by decide +kernel
theorem dX10_readLetters_122 : decode cX10_readLetters 122 = .ok (.iload_n 3, 1) := by decide +kernel
theorem dX10_readLetters_123 : decode cX10_readLetters 123 = .ok (.invokevirtual 160, 3) := by decide +kernel
theorem dX10_readLetters_126 : decode cX10_readLetters 126 = .ok (.goto (-68), 3) := by decide +kernel
theorem dX10_readLetters_129 : decode cX10_readLetters 129 = .ok (.aload_n 0, 1) := by decide +kernel
theorem dX10_readLetters_130 : decode cX10_readLetters 130 = .ok (.getfield 45, 3) := by decide +kernel
theorem dX10_readLetters_133 : decode cX10_readLetters 133 = .ok (.aload_n 0, 1) := by decide +kernel
theorem dX10_readLetters_134 : decode cX10_readLetters 134 = .ok (.getfield 171, 3) := by decide +kernel
theorem dX10_readLetters_137 : decode cX10_readLetters 137 = .ok (.aload_n 0, 1) := by decide +kernel
theorem dX10_readLetters_138 : decode cX10_readLetters 138 = .ok (.iload_n 3, 1) := by decide +kernel
theorem dX10_readLetters_139 : decode cX10_readLetters 139 = .ok (.invokevirtual 156, 3) := by decide +kernel
theorem dX10_readLetters_142 : decode cX10_readLetters 142 = .ok (.invokestatic 174, 3) := by decide +kernel
theorem dX10_readLetters_145 : decode cX10_readLetters 145 = .ok (.i2b, 1) := by decide +kernel
theorem dX10_readLetters_146 : decode cX10_readLetters 146 = .ok (.bastore, 1) := by decide +kernel
theorem dX10_readLetters_147 : decode cX10_readLetters 147 = .ok (.aload_n 0, 1) := by decide +kernel
theorem dX10_readLetters_148 : decode cX10_readLetters 148 = .ok (.dup, 1) := by decide +kernel
theorem dX10_readLetters_149 : decode cX10_readLetters 149 = .ok (.getfield 171, 3) := by decide +kernel
theorem dX10_readLetters_152 : decode cX10_readLetters 152 = .ok (.iconst 1, 1) := by decide +kernel
theorem dX10_readLetters_153 : decode cX10_readLetters 153 = .ok (.iadd, 1) := by decide +kernel
theorem dX10_readLetters_154 : decode cX10_readLetters 154 = .ok (.putfield 171, 3) := by decide +kernel
theorem dX10_readLetters_157 : decode cX10_readLetters 157 = .ok (.aload_n 0, 1) := by decide +kernel
theorem dX10_readLetters_158 : decode cX10_readLetters 158 = .ok (.getfield 51, 3) := by decide +kernel
theorem dX10_readLetters_161 : decode cX10_readLetters 161 = .ok (.iload_n 2, 1) := by decide +kernel
theorem dX10_readLetters_162 : decode cX10_readLetters 162 = .ok (.dup2, 1) := by decide +kernel
theorem dX10_readLetters_163 : decode cX10_readLetters 163 = .ok (.iaload, 1) := by decide +kernel
theorem dX10_readLetters_164 : decode cX10_readLetters 164 = .ok (.iconst 1, 1) := by decide +kernel
theorem dX10_readLetters_165 : decode cX10_readLetters 165 = .ok (.iadd, 1) := by decide +kernel
theorem dX10_readLetters_166 : decode cX10_readLetters 166 = .ok (.iastore, 1) := by decide +kernel
theorem dX10_readLetters_167 : decode cX10_readLetters 167 = .ok (.iinc 8 1, 3) := by decide +kernel
theorem dX10_readLetters_170 : decode cX10_readLetters 170 = .ok (.iinc 3 1, 3) := by decide +kernel
theorem dX10_readLetters_173 : decode cX10_readLetters 173 = .ok (.goto (-115), 3) := by decide +kernel
theorem dX10_readLetters_176 : decode cX10_readLetters 176 = .ok (.aload_n 0, 1) := by decide +kernel
theorem dX10_readLetters_177 : decode cX10_readLetters 177 = .ok (.getfield 147, 3) := by decide +kernel
theorem dX10_readLetters_180 : decode cX10_readLetters 180 = .ok (.ifCond .ne 21, 3) := by decide +kernel
theorem dX10_readLetters_183 : decode cX10_readLetters 183 = .ok (.aload_n 0, 1) := by decide +kernel
theorem dX10_readLetters_184 : decode cX10_readLetters 184 = .ok (.iload_n 3, 1) := by decide +kernel
theorem dX10_readLetters_185 : decode cX10_readLetters 185 = .ok (.invokevirtual 156, 3) := by decide +kernel
theorem dX10_readLetters_188 : decode cX10_readLetters 188 = .ok (.iconst (-1), 1) := by decide +kernel
theorem dX10_readLetters_189 : decode cX10_readLetters 189 = .ok (.if_icmp .ne 12, 3) := by decide +kernel
theorem dX10_readLetters_192 : decode cX10_readLetters 192 = .ok (.aload_n 0, 1) := by decide +kernel
theorem dX10_readLetters_193 : decode cX10_readLetters 193 = .ok (.iconst 1, 1) := by decide +kernel
theorem dX10_readLetters_194 : decode cX10_readLetters 194 = .ok (.iload_n 3, 1) := by decide +kernel
theorem dX10_readLetters_195 : decode cX10_readLetters 195 = .ok (.invokevirtual 160, 3) := by decide +kernel
theorem dX10_readLetters_198 : decode cX10_readLetters 198 = .ok (.goto 31, 3) := by decide +kernel
theorem dX10_readLetters_201 : decode cX10_readLetters 201 = .ok (.aload_n 0, 1) := by decide +kernel
theorem dX10_readLetters_202 : decode cX10_readLetters 202 = .ok (.getfield 147, 3) := by decide +kernel
theorem dX10_readLetters_205 : decode cX10_readLetters 205 = .ok (.ifCond .ne 24, 3) := by decide +kernel
theorem dX10_readLetters_208 : decode cX10_readLetters 208 = .ok (.aload_n 0, 1) := by decide +kernel
theorem dX10_readLetters_209 : decode cX10_readLetters 209 = .ok (.iload_n 3, 1) := by decide +kernel
theorem dX10_readLetters_210 : decode cX10_readLetters 210 = .ok (.invokevirtual 156, 3) := by decide +kernel
theorem dX10_readLetters_213 : decode cX10_readLetters 213 = .ok (.bipush 10, 2) := by decide +kernel
theorem dX10_readLetters_215 : decode cX10_readLetters 215 = .ok (.if_icmp .ne 8, 3) := by decide +kernel
theorem dX10_readLetters_218 : decode cX10_readLetters 218 = .ok (.iload 8, 2) := by decide +kernel
theorem dX10_readLetters_220 : decode cX10_readLetters 220 = .ok (.ifCond .ne 9, 3) := by decide +kernel
theorem dX10_readLetters_223 : decode cX10_readLetters 223 = .ok (.aload_n 0, 1) := by decide +kernel
theorem dX10_readLetters_224 : decode cX10_readLetters 224 = .ok (.iconst 2, 1) := by decide +kernel
theorem dX10_readLetters_225 : decode cX10_readLetters 225 = .ok (.iload_n 3, 1) := by decide +kernel
theorem dX10_readLetters_226 : decode cX10_readLetters 226 = .ok (.invokevirtual 160, 3) := by decide +kernel
theorem dX10_readLetters_229 : decode cX10_readLetters 229 = .ok (.aload_n 0, 1) := by decide +kernel
theorem dX10_readLetters_230 : decode cX10_readLetters 230 = .ok (.getfield 147, 3) := by decide +kernel
theorem dX10_readLetters_233 : decode cX10_readLetters 233 = .ok (.ifCond .ne 53, 3) := by decide +kernel
theorem dX10_readLetters_236 : decode cX10_readLetters 236 = .ok (.iinc 3 1, 3) := by decide +kernel
theorem dX10_readLetters_239 : decode cX10_readLetters 239 = .ok (.iload 5, 2) := by decide +kernel
theorem dX10_readLetters_241 : decode cX10_readLetters 241 = .ok (.ifCond .ne 8, 3) := by decide +kernel
theorem dX10_readLetters_244 : decode cX10_readLetters 244 = .ok (.iload 8, 2) := by decide +kernel
theorem dX10_readLetters_246 : decode cX10_readLetters 246 = .ok (.goto 5, 3) := by decide +kernel
theorem dX10_readLetters_249 : decode cX10_readLetters 249 = .ok (.iload 4, 2) := by decide +kernel
theorem dX10_readLetters_251 : decode cX10_readLetters 251 = .ok (.istore 4, 2) := by decide +kernel
theorem dX10_readLetters_253 : decode cX10_readLetters 253 = .ok (.iload 8, 2) := by decide +kernel
theorem dX10_readLetters_255 : decode cX10_readLetters 255 = .ok (.istore 6, 2) := by decide +kernel
theorem dX10_readLetters_257 : decode cX10_readLetters 257 = .ok (.iinc 5 1, 3) := by decide +kernel
theorem dX10_readLetters_260 : decode cX10_readLetters 260 = .ok (.aload_n 0, 1) := by decide +kernel
theorem dX10_readLetters_261 : decode cX10_readLetters 261 = .ok (.iload_n 3, 1) := by decide +kernel
theorem dX10_readLetters_262 : decode cX10_readLetters 262 = .ok (.invokevirtual 156, 3) := by decide +kernel
theorem dX10_readLetters_265 : decode cX10_readLetters 265 = .ok (.iconst (-1), 1) := by decide +kernel
theorem dX10_readLetters_266 : decode cX10_readLetters 266 = .ok (.if_icmp .eq 17, 3) := by decide +kernel
theorem dX10_readLetters_269 : decode cX10_readLetters 269 = .ok (.aload_n 0, 1) := by decide +kernel
theorem dX10_readLetters_270 : decode cX10_readLetters 270 = .ok (.iload_n 3, 1) := by decide +kernel
theorem dX10_readLetters_271 : decode cX10_readLetters 271 = .ok (.invokevirtual 156, 3) := by decide +kernel
theorem dX10_readLetters_274 : decode cX10_readLetters 274 = .ok (.bipush 62, 2) := by decide +kernel
theorem dX10_readLetters_276 : decode cX10_readLetters 276 = .ok (.if_icmp .eq 7, 3) := by decide +kernel
theorem dX10_readLetters_279 : decode cX10_readLetters 279 = .ok (.iconst 1, 1) := by decide +kernel
theorem dX10_readLetters_280 : decode cX10_readLetters 280 = .ok (.goto 4, 3) := by decide +kernel
theorem dX10_readLetters_283 : decode cX10_readLetters 283 = .ok (.iconst 0, 1) := by decide +kernel
theorem dX10_readLetters_284 : decode cX10_readLetters 284 = .ok (.istore 7, 2) := by decide +kernel
theorem dX10_readLetters_286 : decode cX10_readLetters 286 = .ok (.goto (-243), 3) := by decide +kernel
theorem dX10_readLetters_289 : decode cX10_readLetters 289 = .ok (.aload_n 0, 1) := by decide +kernel
theorem dX10_readLetters_290 : decode cX10_readLetters 290 = .ok (.getfield 57, 3) := by decide +kernel
theorem dX10_readLetters_293 : decode cX10_readLetters 293 = .ok (.iload_n 2, 1) := by decide +kernel
theorem dX10_readLetters_294 : decode cX10_readLetters 294 = .ok (.iload 4, 2) := by decide +kernel
theorem dX10_readLetters_296 : decode cX10_readLetters 296 = .ok (.iastore, 1) := by decide +kernel
theorem dX10_readLetters_297 : decode cX10_readLetters 297 = .ok (.iload_n 3, 1) := by decide +kernel
theorem dX10_readLetters_298 : decode cX10_readLetters 298 = .ok (.ireturn, 1) := by decide +kernel
theorem dX10_reference_0 : decode cX10_reference 0 = .ok (.aload_n 0, 1) := by decide +kernel
theorem dX10_reference_1 : decode cX10_reference 1 = .ok (.iconst 0, 1) := by decide +kernel
theorem dX10_reference_2 : decode cX10_reference 2 = .ok (.putfield 133, 3) := by decide +kernel
theorem dX10_reference_5 : decode cX10_reference 5 = .ok (.aload_n 0, 1) := by decide +kernel
theorem dX10_reference_6 : decode cX10_reference 6 = .ok (.iconst 0, 1) := by decide +kernel
theorem dX10_reference_7 : decode cX10_reference 7 = .ok (.putfield 147, 3) := by decide +kernel
theorem dX10_reference_10 : decode cX10_reference 10 = .ok (.aload_n 0, 1) := by decide +kernel
theorem dX10_reference_11 : decode cX10_reference 11 = .ok (.iconst 0, 1) := by decide +kernel
theorem dX10_reference_12 : decode cX10_reference 12 = .ok (.putfield 153, 3) := by decide +kernel
theorem dX10_reference_15 : decode cX10_reference 15 = .ok (.aload_n 0, 1) := by decide +kernel
theorem dX10_reference_16 : decode cX10_reference 16 = .ok (.iconst 0, 1) := by decide +kernel
theorem dX10_reference_17 : decode cX10_reference 17 = .ok (.putfield 171, 3) := by decide +kernel
theorem dX10_reference_20 : decode cX10_reference 20 = .ok (.iconst 0, 1) := by decide +kernel
theorem dX10_reference_21 : decode cX10_reference 21 = .ok (.istore_n 1, 1) := by decide +kernel
theorem dX10_reference_22 : decode cX10_reference 22 = .ok (.iconst 1, 1) := by decide +kernel
theorem dX10_reference_23 : decode cX10_reference 23 = .ok (.istore_n 2, 1) := by decide +kernel
theorem dX10_reference_24 : decode cX10_reference 24 = .ok (.iload_n 2, 1) := by decide +kernel
theorem dX10_reference_25 : decode cX10_reference 25 = .ok (.ifCond .eq 64, 3) := by decide +kernel
theorem dX10_reference_28 : decode cX10_reference 28 = .ok (.aload_n 0, 1) := by decide +kernel
theorem dX10_reference_29 : decode cX10_reference 29 = .ok (.getfield 147, 3) := by decide +kernel
theorem dX10_reference_32 : decode cX10_reference 32 = .ok (.ifCond .ne 57, 3) := by decide +kernel
theorem dX10_reference_35 : decode cX10_reference 35 = .ok (.aload_n 0, 1) := by decide +kernel
theorem dX10_reference_36 : decode cX10_reference 36 = .ok (.iload_n 1, 1) := by decide +kernel
theorem dX10_reference_37 : decode cX10_reference 37 = .ok (.invokevirtual 177, 3) := by decide +kernel
theorem dX10_reference_40 : decode cX10_reference 40 = .ok (.istore_n 1, 1) := by decide +kernel
theorem dX10_reference_41 : decode cX10_reference 41 = .ok (.aload_n 0, 1) := by decide +kernel
theorem dX10_reference_42 : decode cX10_reference 42 = .ok (.getfield 147, 3) := by decide +kernel
theorem dX10_reference_45 : decode cX10_reference 45 = .ok (.ifCond .ne 9, 3) := by decide +kernel
theorem dX10_reference_48 : decode cX10_reference 48 = .ok (.aload_n 0, 1) := by decide +kernel
theorem dX10_reference_49 : decode cX10_reference 49 = .ok (.iload_n 1, 1) := by decide +kernel
theorem dX10_reference_50 : decode cX10_reference 50 = .ok (.invokevirtual 180, 3) := by decide +kernel
theorem dX10_reference_53 : decode cX10_reference 53 = .ok (.istore_n 1, 1) := by decide +kernel
theorem dX10_reference_54 : decode cX10_reference 54 = .ok (.aload_n 0, 1) := by decide +kernel
theorem dX10_reference_55 : decode cX10_reference 55 = .ok (.dup, 1) := by decide +kernel
theorem dX10_reference_56 : decode cX10_reference 56 = .ok (.getfield 153, 3) := by decide +kernel
theorem dX10_reference_59 : decode cX10_reference 59 = .ok (.iconst 1, 1) := by decide +kernel
theorem dX10_reference_60 : decode cX10_reference 60 = .ok (.iadd, 1) := by decide +kernel
theorem dX10_reference_61 : decode cX10_reference 61 = .ok (.putfield 153, 3) := by decide +kernel
theorem dX10_reference_64 : decode cX10_reference 64 = .ok (.aload_n 0, 1) := by decide +kernel
theorem dX10_reference_65 : decode cX10_reference 65 = .ok (.getfield 147, 3) := by decide +kernel
theorem dX10_reference_68 : decode cX10_reference 68 = .ok (.ifCond .ne 16, 3) := by decide +kernel
theorem dX10_reference_71 : decode cX10_reference 71 = .ok (.aload_n 0, 1) := by decide +kernel
theorem dX10_reference_72 : decode cX10_reference 72 = .ok (.iload_n 1, 1) := by decide +kernel
theorem dX10_reference_73 : decode cX10_reference 73 = .ok (.invokevirtual 156, 3) := by decide +kernel
theorem dX10_reference_76 : decode cX10_reference 76 = .ok (.iconst (-1), 1) := by decide +kernel
theorem dX10_reference_77 : decode cX10_reference 77 = .ok (.if_icmp .eq 7, 3) := by decide +kernel
theorem dX10_reference_80 : decode cX10_reference 80 = .ok (.iconst 1, 1) := by decide +kernel
theorem dX10_reference_81 : decode cX10_reference 81 = .ok (.goto 4, 3) := by decide +kernel
theorem dX10_reference_84 : decode cX10_reference 84 = .ok (.iconst 0, 1) := by decide +kernel
theorem dX10_reference_85 : decode cX10_reference 85 = .ok (.istore_n 2, 1) := by decide +kernel
theorem dX10_reference_86 : decode cX10_reference 86 = .ok (.goto (-62), 3) := by decide +kernel
theorem dX10_reference_89 : decode cX10_reference 89 = .ok (.aload_n 0, 1) := by decide +kernel
theorem dX10_reference_90 : decode cX10_reference 90 = .ok (.iconst 0, 1) := by decide +kernel
theorem dX10_reference_91 : decode cX10_reference 91 = .ok (.putfield 140, 3) := by decide +kernel
theorem dX10_reference_94 : decode cX10_reference 94 = .ok (.aload_n 0, 1) := by decide +kernel
theorem dX10_reference_95 : decode cX10_reference 95 = .ok (.getfield 147, 3) := by decide +kernel
theorem dX10_reference_98 : decode cX10_reference 98 = .ok (.ifCond .eq 17, 3) := by decide +kernel
theorem dX10_reference_101 : decode cX10_reference 101 = .ok (.aload_n 0, 1) := by decide +kernel
theorem dX10_reference_102 : decode cX10_reference 102 = .ok (.aload_n 0, 1) := by decide +kernel
theorem dX10_reference_103 : decode cX10_reference 103 = .ok (.getfield 150, 3) := by decide +kernel
theorem dX10_reference_106 : decode cX10_reference 106 = .ok (.putfield 13, 3) := by decide +kernel
theorem dX10_reference_109 : decode cX10_reference 109 = .ok (.aload_n 0, 1) := by decide +kernel
theorem dX10_reference_110 : decode cX10_reference 110 = .ok (.getfield 147, 3) := by decide +kernel
theorem dX10_reference_113 : decode cX10_reference 113 = .ok (.ineg, 1) := by decide +kernel
theorem dX10_reference_114 : decode cX10_reference 114 = .ok (.ireturn, 1) := by decide +kernel
theorem dX10_reference_115 : decode cX10_reference 115 = .ok (.aload_n 0, 1) := by decide +kernel
theorem dX10_reference_116 : decode cX10_reference 116 = .ok (.aload_n 0, 1) := by decide +kernel
theorem dX10_reference_117 : decode cX10_reference 117 = .ok (.getfield 153, 3) := by decide +kernel
theorem dX10_reference_120 : decode cX10_reference 120 = .ok (.putfield 183, 3) := by decide +kernel
theorem dX10_reference_123 : decode cX10_reference 123 = .ok (.iconst 0, 1) := by decide +kernel
theorem dX10_reference_124 : decode cX10_reference 124 = .ok (.istore_n 3, 1) := by decide +kernel
theorem dX10_reference_125 : decode cX10_reference 125 = .ok (.iload_n 3, 1) := by decide +kernel
theorem dX10_reference_126 : decode cX10_reference 126 = .ok (.aload_n 0, 1) := by decide +kernel
theorem dX10_reference_127 : decode cX10_reference 127 = .ok (.getfield 183, 3) := by decide +kernel
theorem dX10_reference_130 : decode cX10_reference 130 = .ok (.if_icmp .ge 109, 3) := by decide +kernel
theorem dX10_reference_133 : decode cX10_reference 133 = .ok (.iconst 0, 1) := by decide +kernel
theorem dX10_reference_134 : decode cX10_reference 134 = .ok (.istore 4, 2) := by decide +kernel
theorem dX10_reference_136 : decode cX10_reference 136 = .ok (.iload 4, 2) := by decide +kernel
theorem dX10_reference_138 : decode cX10_reference 138 = .ok (.bipush 20, 2) := by decide +kernel
theorem dX10_reference_140 : decode cX10_reference 140 = .ok (.if_icmp .ge 33, 3) := by decide +kernel
theorem dX10_reference_143 : decode cX10_reference 143 = .ok (.aload_n 0, 1) := by decide +kernel
theorem dX10_reference_144 : decode cX10_reference 144 = .ok (.getfield 17, 3) := by decide +kernel
theorem dX10_reference_147 : decode cX10_reference 147 = .ok (.bipush 20, 2) := by decide +kernel
theorem dX10_reference_149 : decode cX10_reference 149 = .ok (.iload_n 3, 1) := by decide +kernel
theorem dX10_reference_150 : decode cX10_reference 150 = .ok (.imul, 1) := by decide +kernel
theorem dX10_reference_151 : decode cX10_reference 151 = .ok (.iload 4, 2) := by decide +kernel
theorem dX10_reference_153 : decode cX10_reference 153 = .ok (.iadd, 1) := by decide +kernel
theorem dX10_reference_154 : decode cX10_reference 154 = .ok (.aload_n 0, 1) := by decide +kernel
theorem dX10_reference_155 : decode cX10_reference 155 = .ok (.getfield 39, 3) := by decide +kernel
theorem dX10_reference_158 : decode cX10_reference 158 = .ok (.bipush 20, 2) := by decide +kernel
theorem dX10_reference_160 : decode cX10_reference 160 = .ok (.iload_n 3, 1) := by decide +kernel
theorem dX10_reference_161 : decode cX10_reference 161 = .ok (.imul, 1) := by decide +kernel
theorem dX10_reference_162 : decode cX10_reference 162 = .ok (.iload 4, 2) := by decide +kernel
theorem dX10_reference_164 : decode cX10_reference 164 = .ok (.iadd, 1) := by decide +kernel
theorem dX10_reference_165 : decode cX10_reference 165 = .ok (.baload, 1) := by decide +kernel
theorem dX10_reference_166 : decode cX10_reference 166 = .ok (.bastore, 1) := by decide +kernel
theorem dX10_reference_167 : decode cX10_reference 167 = .ok (.iinc 4 1, 3) := by decide +kernel
theorem dX10_reference_170 : decode cX10_reference 170 = .ok (.goto (-34), 3) := by decide +kernel
theorem dX10_reference_173 : decode cX10_reference 173 = .ok (.aload_n 0, 1) := by decide +kernel
theorem dX10_reference_174 : decode cX10_reference 174 = .ok (.getfield 20, 3) := by decide +kernel
theorem dX10_reference_177 : decode cX10_reference 177 = .ok (.iload_n 3, 1) := by decide +kernel
theorem dX10_reference_178 : decode cX10_reference 178 = .ok (.aload_n 0, 1) := by decide +kernel
theorem dX10_reference_179 : decode cX10_reference 179 = .ok (.getfield 42, 3) := by decide +kernel
theorem dX10_reference_182 : decode cX10_reference 182 = .ok (.iload_n 3, 1) := by decide +kernel
theorem dX10_reference_183 : decode cX10_reference 183 = .ok (.iaload, 1) := by decide +kernel
theorem dX10_reference_184 : decode cX10_reference 184 = .ok (.iastore, 1) := by decide +kernel
theorem dX10_reference_185 : decode cX10_reference 185 = .ok (.aload_n 0, 1) := by decide +kernel
theorem dX10_reference_186 : decode cX10_reference 186 = .ok (.getfield 27, 3) := by decide +kernel
theorem dX10_reference_189 : decode cX10_reference 189 = .ok (.iload_n 3, 1) := by decide +kernel
theorem dX10_reference_190 : decode cX10_reference 190 = .ok (.aload_n 0, 1) := by decide +kernel
theorem dX10_reference_191 : decode cX10_reference 191 = .ok (.getfield 48, 3) := by decide +kernel
theorem dX10_reference_194 : decode cX10_reference 194 = .ok (.iload_n 3, 1) := by decide +kernel
theorem dX10_reference_195 : decode cX10_reference 195 = .ok (.iaload, 1) := by decide +kernel
theorem dX10_reference_196 : decode cX10_reference 196 = .ok (.iastore, 1) := by decide +kernel
theorem dX10_reference_197 : decode cX10_reference 197 = .ok (.aload_n 0, 1) := by decide +kernel
theorem dX10_reference_198 : decode cX10_reference 198 = .ok (.getfield 30, 3) := by decide +kernel
theorem dX10_reference_201 : decode cX10_reference 201 = .ok (.iload_n 3, 1) := by decide +kernel
theorem dX10_reference_202 : decode cX10_reference 202 = .ok (.aload_n 0, 1) := by decide +kernel
theorem dX10_reference_203 : decode cX10_reference 203 = .ok (.getfield 51, 3) := by decide +kernel
theorem dX10_reference_206 : decode cX10_reference 206 = .ok (.iload_n 3, 1) := by decide +kernel
theorem dX10_reference_207 : decode cX10_reference 207 = .ok (.iaload, 1) := by decide +kernel
theorem dX10_reference_208 : decode cX10_reference 208 = .ok (.iastore, 1) := by decide +kernel
theorem dX10_reference_209 : decode cX10_reference 209 = .ok (.aload_n 0, 1) := by decide +kernel
theorem dX10_reference_210 : decode cX10_reference 210 = .ok (.getfield 33, 3) := by decide +kernel
theorem dX10_reference_213 : decode cX10_reference 213 = .ok (.iload_n 3, 1) := by decide +kernel
theorem dX10_reference_214 : decode cX10_reference 214 = .ok (.aload_n 0, 1) := by decide +kernel
theorem dX10_reference_215 : decode cX10_reference 215 = .ok (.getfield 54, 3) := by decide +kernel
theorem dX10_reference_218 : decode cX10_reference 218 = .ok (.iload_n 3, 1) := by decide +kernel
theorem dX10_reference_219 : decode cX10_reference 219 = .ok (.iaload, 1) := by decide +kernel
theorem dX10_reference_220 : decode cX10_reference 220 = .ok (.iastore, 1) := by decide +kernel
theorem dX10_reference_221 : decode cX10_reference 221 = .ok (.aload_n 0, 1) := by decide +kernel
theorem dX10_reference_222 : decode cX10_reference 222 = .ok (.getfield 36, 3) := by decide +kernel
theorem dX10_reference_225 : decode cX10_reference 225 = .ok (.iload_n 3, 1) := by decide +kernel
theorem dX10_reference_226 : decode cX10_reference 226 = .ok (.aload_n 0, 1) := by decide +kernel
theorem dX10_reference_227 : decode cX10_reference 227 = .ok (.getfield 57, 3) := by decide +kernel
theorem dX10_reference_230 : decode cX10_reference 230 = .ok (.iload_n 3, 1) := by decide +kernel
theorem dX10_reference_231 : decode cX10_reference 231 = .ok (.iaload, 1) := by decide +kernel
theorem dX10_reference_232 : decode cX10_reference 232 = .ok (.iastore, 1) := by decide +kernel
theorem dX10_reference_233 : decode cX10_reference 233 = .ok (.iinc 3 1, 3) := by decide +kernel
theorem dX10_reference_236 : decode cX10_reference 236 = .ok (.goto (-111), 3) := by decide +kernel
theorem dX10_reference_239 : decode cX10_reference 239 = .ok (.iconst 0, 1) := by decide +kernel
theorem dX10_reference_240 : decode cX10_reference 240 = .ok (.istore_n 3, 1) := by decide +kernel
theorem dX10_reference_241 : decode cX10_reference 241 = .ok (.iload_n 3, 1) := by decide +kernel
theorem dX10_reference_242 : decode cX10_reference 242 = .ok (.aload_n 0, 1) := by decide +kernel
theorem dX10_reference_243 : decode cX10_reference 243 = .ok (.getfield 171, 3) := by decide +kernel
theorem dX10_reference_246 : decode cX10_reference 246 = .ok (.if_icmp .ge 21, 3) := by decide +kernel
theorem dX10_reference_249 : decode cX10_reference 249 = .ok (.aload_n 0, 1) := by decide +kernel
theorem dX10_reference_250 : decode cX10_reference 250 = .ok (.getfield 24, 3) := by decide +kernel
theorem dX10_reference_253 : decode cX10_reference 253 = .ok (.iload_n 3, 1) := by decide +kernel
theorem dX10_reference_254 : decode cX10_reference 254 = .ok (.aload_n 0, 1) := by decide +kernel
theorem dX10_reference_255 : decode cX10_reference 255 = .ok (.getfield 45, 3) := by decide +kernel
theorem dX10_reference_258 : decode cX10_reference 258 = .ok (.iload_n 3, 1) := by decide +kernel
theorem dX10_reference_259 : decode cX10_reference 259 = .ok (.baload, 1) := by decide +kernel
theorem dX10_reference_260 : decode cX10_reference 260 = .ok (.bastore, 1) := by decide +kernel
theorem dX10_reference_261 : decode cX10_reference 261 = .ok (.iinc 3 1, 3) := by decide +kernel
theorem dX10_reference_264 : decode cX10_reference 264 = .ok (.goto (-23), 3) := by decide +kernel
theorem dX10_reference_267 : decode cX10_reference 267 = .ok (.aload_n 0, 1) := by decide +kernel
theorem dX10_reference_268 : decode cX10_reference 268 = .ok (.getfield 60, 3) := by decide +kernel
theorem dX10_reference_271 : decode cX10_reference 271 = .ok (.iconst 0, 1) := by decide +kernel
theorem dX10_reference_272 : decode cX10_reference 272 = .ok (.iconst 0, 1) := by decide +kernel
theorem dX10_reference_273 : decode cX10_reference 273 = .ok (.iastore, 1) := by decide +kernel
theorem dX10_reference_274 : decode cX10_reference 274 = .ok (.aload_n 0, 1) := by decide +kernel
theorem dX10_reference_275 : decode cX10_reference 275 = .ok (.getfield 60, 3) := by decide +kernel
theorem dX10_reference_278 : decode cX10_reference 278 = .ok (.iconst 1, 1) := by decide +kernel
theorem dX10_reference_279 : decode cX10_reference 279 = .ok (.iconst 0, 1) := by decide +kernel
theorem dX10_reference_280 : decode cX10_reference 280 = .ok (.iastore, 1) := by decide +kernel
theorem dX10_reference_281 : decode cX10_reference 281 = .ok (.aload_n 0, 1) := by decide +kernel
theorem dX10_reference_282 : decode cX10_reference 282 = .ok (.getfield 63, 3) := by decide +kernel
theorem dX10_reference_285 : decode cX10_reference 285 = .ok (.iconst 0, 1) := by decide +kernel
theorem dX10_reference_286 : decode cX10_reference 286 = .ok (.iconst 0, 1) := by decide +kernel
theorem dX10_reference_287 : decode cX10_reference 287 = .ok (.iastore, 1) := by decide +kernel
theorem dX10_reference_288 : decode cX10_reference 288 = .ok (.aload_n 0, 1) := by decide +kernel
theorem dX10_reference_289 : decode cX10_reference 289 = .ok (.getfield 63, 3) := by decide +kernel
theorem dX10_reference_292 : decode cX10_reference 292 = .ok (.iconst 1, 1) := by decide +kernel
theorem dX10_reference_293 : decode cX10_reference 293 = .ok (.iconst 0, 1) := by decide +kernel
theorem dX10_reference_294 : decode cX10_reference 294 = .ok (.iastore, 1) := by decide +kernel
theorem dX10_reference_295 : decode cX10_reference 295 = .ok (.aload_n 0, 1) := by decide +kernel
theorem dX10_reference_296 : decode cX10_reference 296 = .ok (.iconst 0, 1) := by decide +kernel
theorem dX10_reference_297 : decode cX10_reference 297 = .ok (.putfield 186, 3) := by decide +kernel
theorem dX10_reference_300 : decode cX10_reference 300 = .ok (.aload_n 0, 1) := by decide +kernel
theorem dX10_reference_301 : decode cX10_reference 301 = .ok (.getfield 183, 3) := by decide +kernel
theorem dX10_reference_304 : decode cX10_reference 304 = .ok (.ireturn, 1) := by decide +kernel
theorem dX10_refAt_0 : decode cX10_refAt 0 = .ok (.aload_n 0, 1) := by decide +kernel
theorem dX10_refAt_1 : decode cX10_refAt 1 = .ok (.getfield 24, 3) := by decide +kernel
theorem dX10_refAt_4 : decode cX10_refAt 4 = .ok (.aload_n 0, 1) := by decide +kernel
theorem dX10_refAt_5 : decode cX10_refAt 5 = .ok (.getfield 27, 3) := by decide +kernel
theorem dX10_refAt_8 : decode cX10_refAt 8 = .ok (.iload_n 1, 1) := by decide +kernel
theorem dX10_refAt_9 : decode cX10_refAt 9 = .ok (.iaload, 1) := by decide +kernel
theorem dX10_refAt_10 : decode cX10_refAt 10 = .ok (.iload_n 2, 1) := by decide +kernel
theorem dX10_refAt_11 : decode cX10_refAt 11 = .ok (.iadd, 1) := by decide +kernel
theorem dX10_refAt_12 : decode cX10_refAt 12 = .ok (.iconst 1, 1) := by decide +kernel
theorem dX10_refAt_13 : decode cX10_refAt 13 = .ok (.isub, 1) := by decide +kernel
theorem dX10_refAt_14 : decode cX10_refAt 14 = .ok (.baload, 1) := by decide +kernel
theorem dX10_refAt_15 : decode cX10_refAt 15 = .ok (.ireturn, 1) := by decide +kernel
theorem dX10_copy_0 : decode cX10_copy 0 = .ok (.aload_n 0, 1) := by decide +kernel
theorem dX10_copy_1 : decode cX10_copy 1 = .ok (.getfield 72, 3) := by decide +kernel
theorem dX10_copy_4 : decode cX10_copy 4 = .ok (.iload_n 1, 1) := by decide +kernel
theorem dX10_copy_5 : decode cX10_copy 5 = .ok (.aload_n 0, 1) := by decide +kernel
theorem dX10_copy_6 : decode cX10_copy 6 = .ok (.getfield 72, 3) := by decide +kernel
theorem dX10_copy_9 : decode cX10_copy 9 = .ok (.iload_n 2, 1) := by decide +kernel
theorem dX10_copy_10 : decode cX10_copy 10 = .ok (.iaload, 1) := by decide +kernel
theorem dX10_copy_11 : decode cX10_copy 11 = .ok (.iastore, 1) := by decide +kernel
theorem dX10_copy_12 : decode cX10_copy 12 = .ok (.aload_n 0, 1) := by decide +kernel
theorem dX10_copy_13 : decode cX10_copy 13 = .ok (.getfield 75, 3) := by decide +kernel
theorem dX10_copy_16 : decode cX10_copy 16 = .ok (.iload_n 1, 1) := by decide +kernel
theorem dX10_copy_17 : decode cX10_copy 17 = .ok (.aload_n 0, 1) := by decide +kernel
theorem dX10_copy_18 : decode cX10_copy 18 = .ok (.getfield 75, 3) := by decide +kernel
theorem dX10_copy_21 : decode cX10_copy 21 = .ok (.iload_n 2, 1) := by decide +kernel
theorem dX10_copy_22 : decode cX10_copy 22 = .ok (.iaload, 1) := by decide +kernel
theorem dX10_copy_23 : decode cX10_copy 23 = .ok (.iastore, 1) := by decide +kernel
theorem dX10_copy_24 : decode cX10_copy 24 = .ok (.aload_n 0, 1) := by decide +kernel
theorem dX10_copy_25 : decode cX10_copy 25 = .ok (.getfield 81, 3) := by decide +kernel
theorem dX10_copy_28 : decode cX10_copy 28 = .ok (.iload_n 1, 1) := by decide +kernel
theorem dX10_copy_29 : decode cX10_copy 29 = .ok (.aload_n 0, 1) := by decide +kernel
theorem dX10_copy_30 : decode cX10_copy 30 = .ok (.getfield 81, 3) := by decide +kernel
theorem dX10_copy_33 : decode cX10_copy 33 = .ok (.iload_n 2, 1) := by decide +kernel
theorem dX10_copy_34 : decode cX10_copy 34 = .ok (.iaload, 1) := by decide +kernel
theorem dX10_copy_35 : decode cX10_copy 35 = .ok (.iastore, 1) := by decide +kernel
theorem dX10_copy_36 : decode cX10_copy 36 = .ok (.iconst 0, 1) := by decide +kernel
theorem dX10_copy_37 : decode cX10_copy 37 = .ok (.istore_n 3, 1) := by decide +kernel
theorem dX10_copy_38 : decode cX10_copy 38 = .ok (.iload_n 3, 1) := by decide +kernel
theorem dX10_copy_39 : decode cX10_copy 39 = .ok (.bipush 20, 2) := by decide +kernel
theorem dX10_copy_41 : decode cX10_copy 41 = .ok (.if_icmp .ge 31, 3) := by decide +kernel
theorem dX10_copy_44 : decode cX10_copy 44 = .ok (.aload_n 0, 1) := by decide +kernel
theorem dX10_copy_45 : decode cX10_copy 45 = .ok (.getfield 78, 3) := by decide +kernel
theorem dX10_copy_48 : decode cX10_copy 48 = .ok (.bipush 20, 2) := by decide +kernel
theorem dX10_copy_50 : decode cX10_copy 50 = .ok (.iload_n 1, 1) := by decide +kernel
theorem dX10_copy_51 : decode cX10_copy 51 = .ok (.imul, 1) := by decide +kernel
theorem dX10_copy_52 : decode cX10_copy 52 = .ok (.iload_n 3, 1) := by decide +kernel
theorem dX10_copy_53 : decode cX10_copy 53 = .ok (.iadd, 1) := by decide +kernel
theorem dX10_copy_54 : decode cX10_copy 54 = .ok (.aload_n 0, 1) := by decide +kernel
theorem dX10_copy_55 : decode cX10_copy 55 = .ok (.getfield 78, 3) := by decide +kernel
theorem dX10_copy_58 : decode cX10_copy 58 = .ok (.bipush 20, 2) := by decide +kernel
theorem dX10_copy_60 : decode cX10_copy 60 = .ok (.iload_n 2, 1) := by decide +kernel
theorem dX10_copy_61 : decode cX10_copy 61 = .ok (.imul, 1) := by decide +kernel
theorem dX10_copy_62 : decode cX10_copy 62 = .ok (.iload_n 3, 1) := by decide +kernel
theorem dX10_copy_63 : decode cX10_copy 63 = .ok (.iadd, 1) := by decide +kernel
theorem dX10_copy_64 : decode cX10_copy 64 = .ok (.baload, 1) := by decide +kernel
theorem dX10_copy_65 : decode cX10_copy 65 = .ok (.bastore, 1) := by decide +kernel
theorem dX10_copy_66 : decode cX10_copy 66 = .ok (.iinc 3 1, 3) := by decide +kernel
theorem dX10_copy_69 : decode cX10_copy 69 = .ok (.goto (-31), 3) := by decide +kernel
theorem dX10_copy_72 : decode cX10_copy 72 = .ok (.aload_n 0, 1) := by decide +kernel
theorem dX10_copy_73 : decode cX10_copy 73 = .ok (.getfield 84, 3) := by decide +kernel
theorem dX10_copy_76 : decode cX10_copy 76 = .ok (.iload_n 1, 1) := by decide +kernel
theorem dX10_copy_77 : decode cX10_copy 77 = .ok (.aload_n 0, 1) := by decide +kernel
theorem dX10_copy_78 : decode cX10_copy 78 = .ok (.getfield 84, 3) := by decide +kernel
theorem dX10_copy_81 : decode cX10_copy 81 = .ok (.iload_n 2, 1) := by decide +kernel
theorem dX10_copy_82 : decode cX10_copy 82 = .ok (.iaload, 1) := by decide +kernel
theorem dX10_copy_83 : decode cX10_copy 83 = .ok (.iastore, 1) := by decide +kernel
theorem dX10_copy_84 : decode cX10_copy 84 = .ok (.iconst 0, 1) := by decide +kernel
theorem dX10_copy_85 : decode cX10_copy 85 = .ok (.istore_n 3, 1) := by decide +kernel
theorem dX10_copy_86 : decode cX10_copy 86 = .ok (.iload_n 3, 1) := by decide +kernel
theorem dX10_copy_87 : decode cX10_copy 87 = .ok (.iconst 4, 1) := by decide +kernel
theorem dX10_copy_88 : decode cX10_copy 88 = .ok (.if_icmp .ge 77, 3) := by decide +kernel
theorem dX10_copy_91 : decode cX10_copy 91 = .ok (.aload_n 0, 1) := by decide +kernel
theorem dX10_copy_92 : decode cX10_copy 92 = .ok (.getfield 90, 3) := by decide +kernel
theorem dX10_copy_95 : decode cX10_copy 95 = .ok (.iconst 4, 1) := by decide +kernel
theorem dX10_copy_96 : decode cX10_copy 96 = .ok (.iload_n 1, 1) := by decide +kernel
theorem dX10_copy_97 : decode cX10_copy 97 = .ok (.imul, 1) := by decide +kernel
theorem dX10_copy_98 : decode cX10_copy 98 = .ok (.iload_n 3, 1) := by decide +kernel
theorem dX10_copy_99 : decode cX10_copy 99 = .ok (.iadd, 1) := by decide +kernel
theorem dX10_copy_100 : decode cX10_copy 100 = .ok (.aload_n 0, 1) := by decide +kernel
theorem dX10_copy_101 : decode cX10_copy 101 = .ok (.getfield 90, 3) := by decide +kernel
theorem dX10_copy_104 : decode cX10_copy 104 = .ok (.iconst 4, 1) := by decide +kernel
theorem dX10_copy_105 : decode cX10_copy 105 = .ok (.iload_n 2, 1) := by decide +kernel
theorem dX10_copy_106 : decode cX10_copy 106 = .ok (.imul, 1) := by decide +kernel
theorem dX10_copy_107 : decode cX10_copy 107 = .ok (.iload_n 3, 1) := by decide +kernel
theorem dX10_copy_108 : decode cX10_copy 108 = .ok (.iadd, 1) := by decide +kernel
theorem dX10_copy_109 : decode cX10_copy 109 = .ok (.iaload, 1) := by decide +kernel
theorem dX10_copy_110 : decode cX10_copy 110 = .ok (.iastore, 1) := by decide +kernel
theorem dX10_copy_111 : decode cX10_copy 111 = .ok (.iconst 0, 1) := by decide +kernel
theorem dX10_copy_112 : decode cX10_copy 112 = .ok (.istore 4, 2) := by decide +kernel
theorem dX10_copy_114 : decode cX10_copy 114 = .ok (.iload 4, 2) := by decide +kernel
theorem dX10_copy_116 : decode cX10_copy 116 = .ok (.bipush 26, 2) := by decide +kernel
theorem dX10_copy_118 : decode cX10_copy 118 = .ok (.if_icmp .ge 41, 3) := by decide +kernel
theorem dX10_copy_121 : decode cX10_copy 121 = .ok (.aload_n 0, 1) := by decide +kernel
theorem dX10_copy_122 : decode cX10_copy 122 = .ok (.getfield 87, 3) := by decide +kernel
theorem dX10_copy_125 : decode cX10_copy 125 = .ok (.bipush 26, 2) := by decide +kernel
theorem dX10_copy_127 : decode cX10_copy 127 = .ok (.iconst 4, 1) := by decide +kernel
theorem dX10_copy_128 : decode cX10_copy 128 = .ok (.iload_n 1, 1) := by decide +kernel
theorem dX10_copy_129 : decode cX10_copy 129 = .ok (.imul, 1) := by decide +kernel
theorem dX10_copy_130 : decode cX10_copy 130 = .ok (.iload_n 3, 1) := by decide +kernel
theorem dX10_copy_131 : decode cX10_copy 131 = .ok (.iadd, 1) := by decide +kernel
theorem dX10_copy_132 : decode cX10_copy 132 = .ok (.imul, 1) := by decide +kernel
theorem dX10_copy_133 : decode cX10_copy 133 = .ok (.iload 4, 2) := by decide +kernel
theorem dX10_copy_135 : decode cX10_copy 135 = .ok (.iadd, 1) := by decide +kernel
theorem dX10_copy_136 : decode cX10_copy 136 = .ok (.aload_n 0, 1) := by decide +kernel
theorem dX10_copy_137 : decode cX10_copy 137 = .ok (.getfield 87, 3) := by decide +kernel
theorem dX10_copy_140 : decode cX10_copy 140 = .ok (.bipush 26, 2) := by decide +kernel
theorem dX10_copy_142 : decode cX10_copy 142 = .ok (.iconst 4, 1) := by decide +kernel
theorem dX10_copy_143 : decode cX10_copy 143 = .ok (.iload_n 2, 1) := by decide +kernel
theorem dX10_copy_144 : decode cX10_copy 144 = .ok (.imul, 1) := by decide +kernel
theorem dX10_copy_145 : decode cX10_copy 145 = .ok (.iload_n 3, 1) := by decide +kernel
theorem dX10_copy_146 : decode cX10_copy 146 = .ok (.iadd, 1) := by decide +kernel
theorem dX10_copy_147 : decode cX10_copy 147 = .ok (.imul, 1) := by decide +kernel
theorem dX10_copy_148 : decode cX10_copy 148 = .ok (.iload 4, 2) := by decide +kernel
theorem dX10_copy_150 : decode cX10_copy 150 = .ok (.iadd, 1) := by decide +kernel
theorem dX10_copy_151 : decode cX10_copy 151 = .ok (.baload, 1) := by decide +kernel
theorem dX10_copy_152 : decode cX10_copy 152 = .ok (.bastore, 1) := by decide +kernel
theorem dX10_copy_153 : decode cX10_copy 153 = .ok (.iinc 4 1, 3) := by decide +kernel
theorem dX10_copy_156 : decode cX10_copy 156 = .ok (.goto (-42), 3) := by decide +kernel
theorem dX10_copy_159 : decode cX10_copy 159 = .ok (.iinc 3 1, 3) := by decide +kernel
theorem dX10_copy_162 : decode cX10_copy 162 = .ok (.goto (-76), 3) := by decide +kernel
theorem dX10_copy_165 : decode cX10_copy 165 = .ok (.aload_n 0, 1) := by decide +kernel
theorem dX10_copy_166 : decode cX10_copy 166 = .ok (.getfield 93, 3) := by decide +kernel
theorem dX10_copy_169 : decode cX10_copy 169 = .ok (.iload_n 1, 1) := by decide +kernel
theorem dX10_copy_170 : decode cX10_copy 170 = .ok (.aload_n 0, 1) := by decide +kernel
theorem dX10_copy_171 : decode cX10_copy 171 = .ok (.getfield 93, 3) := by decide +kernel
theorem dX10_copy_174 : decode cX10_copy 174 = .ok (.iload_n 2, 1) := by decide +kernel
theorem dX10_copy_175 : decode cX10_copy 175 = .ok (.iaload, 1) := by decide +kernel
theorem dX10_copy_176 : decode cX10_copy 176 = .ok (.iastore, 1) := by decide +kernel
theorem dX10_copy_177 : decode cX10_copy 177 = .ok (.aload_n 0, 1) := by decide +kernel
theorem dX10_copy_178 : decode cX10_copy 178 = .ok (.getfield 96, 3) := by decide +kernel
theorem dX10_copy_181 : decode cX10_copy 181 = .ok (.iload_n 1, 1) := by decide +kernel
theorem dX10_copy_182 : decode cX10_copy 182 = .ok (.aload_n 0, 1) := by decide +kernel
theorem dX10_copy_183 : decode cX10_copy 183 = .ok (.getfield 96, 3) := by decide +kernel
theorem dX10_copy_186 : decode cX10_copy 186 = .ok (.iload_n 2, 1) := by decide +kernel
theorem dX10_copy_187 : decode cX10_copy 187 = .ok (.baload, 1) := by decide +kernel
theorem dX10_copy_188 : decode cX10_copy 188 = .ok (.bastore, 1) := by decide +kernel
theorem dX10_copy_189 : decode cX10_copy 189 = .ok (.iconst 0, 1) := by decide +kernel
theorem dX10_copy_190 : decode cX10_copy 190 = .ok (.istore_n 3, 1) := by decide +kernel
theorem dX10_copy_191 : decode cX10_copy 191 = .ok (.iload_n 3, 1) := by decide +kernel
theorem dX10_copy_192 : decode cX10_copy 192 = .ok (.iconst 3, 1) := by decide +kernel
theorem dX10_copy_193 : decode cX10_copy 193 = .ok (.if_icmp .ge 17, 3) := by decide +kernel
theorem dX10_copy_196 : decode cX10_copy 196 = .ok (.aload_n 0, 1) := by decide +kernel
theorem dX10_copy_197 : decode cX10_copy 197 = .ok (.iload_n 1, 1) := by decide +kernel
theorem dX10_copy_198 : decode cX10_copy 198 = .ok (.iload_n 3, 1) := by decide +kernel
theorem dX10_copy_199 : decode cX10_copy 199 = .ok (.iload_n 2, 1) := by decide +kernel
theorem dX10_copy_200 : decode cX10_copy 200 = .ok (.iload_n 3, 1) := by decide +kernel
theorem dX10_copy_201 : decode cX10_copy 201 = .ok (.invokevirtual 190, 3) := by decide +kernel
theorem dX10_copy_204 : decode cX10_copy 204 = .ok (.iinc 3 1, 3) := by decide +kernel
theorem dX10_copy_207 : decode cX10_copy 207 = .ok (.goto (-16), 3) := by decide +kernel
theorem dX10_copy_210 : decode cX10_copy 210 = .ok (.return_, 1) := by decide +kernel
theorem dX10_copyCalls_0 : decode cX10_copyCalls 0 = .ok (.aload_n 0, 1) := by decide +kernel
theorem dX10_copyCalls_1 : decode cX10_copyCalls 1 = .ok (.getfield 103, 3) := by decide +kernel
theorem dX10_copyCalls_4 : decode cX10_copyCalls 4 = .ok (.iconst 3, 1) := by decide +kernel
theorem dX10_copyCalls_5 : decode cX10_copyCalls 5 = .ok (.iload_n 1, 1) := by decide +kernel
theorem dX10_copyCalls_6 : decode cX10_copyCalls 6 = .ok (.imul, 1) := by decide +kernel
theorem dX10_copyCalls_7 : decode cX10_copyCalls 7 = .ok (.iload_n 2, 1) := by decide +kernel
theorem dX10_copyCalls_8 : decode cX10_copyCalls 8 = .ok (.iadd, 1) := by decide +kernel
theorem dX10_copyCalls_9 : decode cX10_copyCalls 9 = .ok (.aload_n 0, 1) := by decide +kernel
theorem dX10_copyCalls_10 : decode cX10_copyCalls 10 = .ok (.getfield 103, 3) := by decide +kernel
theorem dX10_copyCalls_13 : decode cX10_copyCalls 13 = .ok (.iconst 3, 1) := by decide +kernel
theorem dX10_copyCalls_14 : decode cX10_copyCalls 14 = .ok (.iload_n 3, 1) := by decide +kernel
theorem dX10_copyCalls_15 : decode cX10_copyCalls 15 = .ok (.imul, 1) := by decide +kernel
theorem dX10_copyCalls_16 : decode cX10_copyCalls 16 = .ok (.iload 4, 2) := by decide +kernel
theorem dX10_copyCalls_18 : decode cX10_copyCalls 18 = .ok (.iadd, 1) := by decide +kernel
theorem dX10_copyCalls_19 : decode cX10_copyCalls 19 = .ok (.iaload, 1) := by decide +kernel
theorem dX10_copyCalls_20 : decode cX10_copyCalls 20 = .ok (.iastore, 1) := by decide +kernel
theorem dX10_copyCalls_21 : decode cX10_copyCalls 21 = .ok (.aload_n 0, 1) := by decide +kernel
theorem dX10_copyCalls_22 : decode cX10_copyCalls 22 = .ok (.getfield 106, 3) := by decide +kernel
theorem dX10_copyCalls_25 : decode cX10_copyCalls 25 = .ok (.iconst 3, 1) := by decide +kernel
theorem dX10_copyCalls_26 : decode cX10_copyCalls 26 = .ok (.iload_n 1, 1) := by decide +kernel
theorem dX10_copyCalls_27 : decode cX10_copyCalls 27 = .ok (.imul, 1) := by decide +kernel
theorem dX10_copyCalls_28 : decode cX10_copyCalls 28 = .ok (.iload_n 2, 1) := by decide +kernel
theorem dX10_copyCalls_29 : decode cX10_copyCalls 29 = .ok (.iadd, 1) := by decide +kernel
theorem dX10_copyCalls_30 : decode cX10_copyCalls 30 = .ok (.aload_n 0, 1) := by decide +kernel
theorem dX10_copyCalls_31 : decode cX10_copyCalls 31 = .ok (.getfield 106, 3) := by decide +kernel
theorem dX10_copyCalls_34 : decode cX10_copyCalls 34 = .ok (.iconst 3, 1) := by decide +kernel
theorem dX10_copyCalls_35 : decode cX10_copyCalls 35 = .ok (.iload_n 3, 1) := by decide +kernel
theorem dX10_copyCalls_36 : decode cX10_copyCalls 36 = .ok (.imul, 1) := by decide +kernel
theorem dX10_copyCalls_37 : decode cX10_copyCalls 37 = .ok (.iload 4, 2) := by decide +kernel
theorem dX10_copyCalls_39 : decode cX10_copyCalls 39 = .ok (.iadd, 1) := by decide +kernel
theorem dX10_copyCalls_40 : decode cX10_copyCalls 40 = .ok (.baload, 1) := by decide +kernel
theorem dX10_copyCalls_41 : decode cX10_copyCalls 41 = .ok (.bastore, 1) := by decide +kernel
theorem dX10_copyCalls_42 : decode cX10_copyCalls 42 = .ok (.iconst 0, 1) := by decide +kernel
theorem dX10_copyCalls_43 : decode cX10_copyCalls 43 = .ok (.istore 5, 2) := by decide +kernel
theorem dX10_copyCalls_45 : decode cX10_copyCalls 45 = .ok (.iload 5, 2) := by decide +kernel
theorem dX10_copyCalls_47 : decode cX10_copyCalls 47 = .ok (.iconst 2, 1) := by decide +kernel
theorem dX10_copyCalls_48 : decode cX10_copyCalls 48 = .ok (.if_icmp .ge 42, 3) := by decide +kernel
theorem dX10_copyCalls_51 : decode cX10_copyCalls 51 = .ok (.aload_n 0, 1) := by decide +kernel
theorem dX10_copyCalls_52 : decode cX10_copyCalls 52 = .ok (.getfield 100, 3) := by decide +kernel
theorem dX10_copyCalls_55 : decode cX10_copyCalls 55 = .ok (.bipush 6, 2) := by decide +kernel
theorem dX10_copyCalls_57 : decode cX10_copyCalls 57 = .ok (.iload_n 1, 1) := by decide +kernel
