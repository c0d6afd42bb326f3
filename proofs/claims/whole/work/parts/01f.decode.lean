theorem dX10_law_174 : decode cX10_law 174 = .ok (.ireturn, 1) := by decide +kernel
theorem dX10_ends_0 : decode cX10_ends 0 = .ok (.iload_n 1, 1) := by decide +kernel
theorem dX10_ends_1 : decode cX10_ends 1 = .ok (.iconst 0, 1) := by decide +kernel
theorem dX10_ends_2 : decode cX10_ends 2 = .ok (.aload_n 0, 1) := by decide +kernel
theorem dX10_ends_3 : decode cX10_ends 3 = .ok (.getfield 9, 3) := by decide +kernel
theorem dX10_ends_6 : decode cX10_ends 6 = .ok (.iconst 3, 1) := by decide +kernel
theorem dX10_ends_7 : decode cX10_ends 7 = .ok (.iaload, 1) := by decide +kernel
theorem dX10_ends_8 : decode cX10_ends 8 = .ok (.iconst 1, 1) := by decide +kernel
theorem dX10_ends_9 : decode cX10_ends 9 = .ok (.isub, 1) := by decide +kernel
theorem dX10_ends_10 : decode cX10_ends 10 = .ok (.invokestatic 41, 3) := by decide +kernel
theorem dX10_ends_13 : decode cX10_ends 13 = .ok (.ifCond .eq 10, 3) := by decide +kernel
theorem dX10_ends_16 : decode cX10_ends 16 = .ok (.iload_n 2, 1) := by decide +kernel
theorem dX10_ends_17 : decode cX10_ends 17 = .ok (.invokestatic 56, 3) := by decide +kernel
theorem dX10_ends_20 : decode cX10_ends 20 = .ok (.ifCond .ne 10, 3) := by decide +kernel
theorem dX10_ends_23 : decode cX10_ends 23 = .ok (.aload_n 0, 1) := by decide +kernel
theorem dX10_ends_24 : decode cX10_ends 24 = .ok (.ldc 45, 2) := by decide +kernel
theorem dX10_ends_26 : decode cX10_ends 26 = .ok (.invokevirtual 46, 3) := by decide +kernel
theorem dX10_ends_29 : decode cX10_ends 29 = .ok (.ireturn, 1) := by decide +kernel
theorem dX10_ends_30 : decode cX10_ends 30 = .ok (.iload_n 2, 1) := by decide +kernel
theorem dX10_ends_31 : decode cX10_ends 31 = .ok (.aload_n 0, 1) := by decide +kernel
theorem dX10_ends_32 : decode cX10_ends 32 = .ok (.getfield 9, 3) := by decide +kernel
theorem dX10_ends_35 : decode cX10_ends 35 = .ok (.sipush 345, 3) := by decide +kernel
theorem dX10_ends_38 : decode cX10_ends 38 = .ok (.iload_n 1, 1) := by decide +kernel
theorem dX10_ends_39 : decode cX10_ends 39 = .ok (.iadd, 1) := by decide +kernel
theorem dX10_ends_40 : decode cX10_ends 40 = .ok (.iaload, 1) := by decide +kernel
theorem dX10_ends_41 : decode cX10_ends 41 = .ok (.if_icmp .ge 10, 3) := by decide +kernel
theorem dX10_ends_44 : decode cX10_ends 44 = .ok (.aload_n 0, 1) := by decide +kernel
theorem dX10_ends_45 : decode cX10_ends 45 = .ok (.ldc 55, 2) := by decide +kernel
theorem dX10_ends_47 : decode cX10_ends 47 = .ok (.invokevirtual 46, 3) := by decide +kernel
theorem dX10_ends_50 : decode cX10_ends 50 = .ok (.ireturn, 1) := by decide +kernel
theorem dX10_ends_51 : decode cX10_ends 51 = .ok (.aload_n 0, 1) := by decide +kernel
theorem dX10_ends_52 : decode cX10_ends 52 = .ok (.getfield 9, 3) := by decide +kernel
theorem dX10_ends_55 : decode cX10_ends 55 = .ok (.sipush 357, 3) := by decide +kernel
theorem dX10_ends_58 : decode cX10_ends 58 = .ok (.iload_n 1, 1) := by decide +kernel
theorem dX10_ends_59 : decode cX10_ends 59 = .ok (.iadd, 1) := by decide +kernel
theorem dX10_ends_60 : decode cX10_ends 60 = .ok (.iaload, 1) := by decide +kernel
theorem dX10_ends_61 : decode cX10_ends 61 = .ok (.istore_n 3, 1) := by decide +kernel
theorem dX10_ends_62 : decode cX10_ends 62 = .ok (.aload_n 0, 1) := by decide +kernel
theorem dX10_ends_63 : decode cX10_ends 63 = .ok (.getfield 9, 3) := by decide +kernel
theorem dX10_ends_66 : decode cX10_ends 66 = .ok (.sipush 357, 3) := by decide +kernel
theorem dX10_ends_69 : decode cX10_ends 69 = .ok (.iload_n 1, 1) := by decide +kernel
theorem dX10_ends_70 : decode cX10_ends 70 = .ok (.iadd, 1) := by decide +kernel
theorem dX10_ends_71 : decode cX10_ends 71 = .ok (.iload_n 2, 1) := by decide +kernel
theorem dX10_ends_72 : decode cX10_ends 72 = .ok (.iastore, 1) := by decide +kernel
theorem dX10_ends_73 : decode cX10_ends 73 = .ok (.iload_n 3, 1) := by decide +kernel
theorem dX10_ends_74 : decode cX10_ends 74 = .ok (.ireturn, 1) := by decide +kernel
theorem dX10_isForce_0 : decode cX10_isForce 0 = .ok (.aload_n 0, 1) := by decide +kernel
theorem dX10_isForce_1 : decode cX10_isForce 1 = .ok (.getfield 9, 3) := by decide +kernel
theorem dX10_isForce_4 : decode cX10_isForce 4 = .ok (.sipush 321, 3) := by decide +kernel
theorem dX10_isForce_7 : decode cX10_isForce 7 = .ok (.iload_n 1, 1) := by decide +kernel
theorem dX10_isForce_8 : decode cX10_isForce 8 = .ok (.iadd, 1) := by decide +kernel
theorem dX10_isForce_9 : decode cX10_isForce 9 = .ok (.iaload, 1) := by decide +kernel
theorem dX10_isForce_10 : decode cX10_isForce 10 = .ok (.iload_n 2, 1) := by decide +kernel
theorem dX10_isForce_11 : decode cX10_isForce 11 = .ok (.if_icmp .ne 35, 3) := by decide +kernel
theorem dX10_isForce_14 : decode cX10_isForce 14 = .ok (.aload_n 0, 1) := by decide +kernel
theorem dX10_isForce_15 : decode cX10_isForce 15 = .ok (.getfield 9, 3) := by decide +kernel
theorem dX10_isForce_18 : decode cX10_isForce 18 = .ok (.sipush 345, 3) := by decide +kernel
theorem dX10_isForce_21 : decode cX10_isForce 21 = .ok (.iload_n 1, 1) := by decide +kernel
theorem dX10_isForce_22 : decode cX10_isForce 22 = .ok (.iadd, 1) := by decide +kernel
theorem dX10_isForce_23 : decode cX10_isForce 23 = .ok (.iaload, 1) := by decide +kernel
theorem dX10_isForce_24 : decode cX10_isForce 24 = .ok (.iload_n 3, 1) := by decide +kernel
theorem dX10_isForce_25 : decode cX10_isForce 25 = .ok (.if_icmp .gt 21, 3) := by decide +kernel
theorem dX10_isForce_28 : decode cX10_isForce 28 = .ok (.iload_n 3, 1) := by decide +kernel
theorem dX10_isForce_29 : decode cX10_isForce 29 = .ok (.aload_n 0, 1) := by decide +kernel
theorem dX10_isForce_30 : decode cX10_isForce 30 = .ok (.getfield 9, 3) := by decide +kernel
theorem dX10_isForce_33 : decode cX10_isForce 33 = .ok (.sipush 357, 3) := by decide +kernel
theorem dX10_isForce_36 : decode cX10_isForce 36 = .ok (.iload_n 1, 1) := by decide +kernel
theorem dX10_isForce_37 : decode cX10_isForce 37 = .ok (.iadd, 1) := by decide +kernel
theorem dX10_isForce_38 : decode cX10_isForce 38 = .ok (.iaload, 1) := by decide +kernel
theorem dX10_isForce_39 : decode cX10_isForce 39 = .ok (.if_icmp .gt 7, 3) := by decide +kernel
theorem dX10_isForce_42 : decode cX10_isForce 42 = .ok (.iconst 1, 1) := by decide +kernel
theorem dX10_isForce_43 : decode cX10_isForce 43 = .ok (.goto 4, 3) := by decide +kernel
theorem dX10_isForce_46 : decode cX10_isForce 46 = .ok (.iconst 0, 1) := by decide +kernel
theorem dX10_isForce_47 : decode cX10_isForce 47 = .ok (.ireturn, 1) := by decide +kernel
theorem dX10_hasLaw_0 : decode cX10_hasLaw 0 = .ok (.iconst 0, 1) := by decide +kernel
theorem dX10_hasLaw_1 : decode cX10_hasLaw 1 = .ok (.istore 4, 2) := by decide +kernel
theorem dX10_hasLaw_3 : decode cX10_hasLaw 3 = .ok (.iconst 0, 1) := by decide +kernel
theorem dX10_hasLaw_4 : decode cX10_hasLaw 4 = .ok (.istore 5, 2) := by decide +kernel
theorem dX10_hasLaw_6 : decode cX10_hasLaw 6 = .ok (.iload 5, 2) := by decide +kernel
theorem dX10_hasLaw_8 : decode cX10_hasLaw 8 = .ok (.aload_n 0, 1) := by decide +kernel
theorem dX10_hasLaw_9 : decode cX10_hasLaw 9 = .ok (.getfield 9, 3) := by decide +kernel
theorem dX10_hasLaw_12 : decode cX10_hasLaw 12 = .ok (.iconst 3, 1) := by decide +kernel
theorem dX10_hasLaw_13 : decode cX10_hasLaw 13 = .ok (.iaload, 1) := by decide +kernel
theorem dX10_hasLaw_14 : decode cX10_hasLaw 14 = .ok (.if_icmp .ge 47, 3) := by decide +kernel
theorem dX10_hasLaw_17 : decode cX10_hasLaw 17 = .ok (.iload 4, 2) := by decide +kernel
theorem dX10_hasLaw_19 : decode cX10_hasLaw 19 = .ok (.ifCond .ne 29, 3) := by decide +kernel
theorem dX10_hasLaw_22 : decode cX10_hasLaw 22 = .ok (.aload_n 0, 1) := by decide +kernel
theorem dX10_hasLaw_23 : decode cX10_hasLaw 23 = .ok (.iload 5, 2) := by decide +kernel
theorem dX10_hasLaw_25 : decode cX10_hasLaw 25 = .ok (.iload_n 1, 1) := by decide +kernel
theorem dX10_hasLaw_26 : decode cX10_hasLaw 26 = .ok (.iload_n 2, 1) := by decide +kernel
theorem dX10_hasLaw_27 : decode cX10_hasLaw 27 = .ok (.invokevirtual 73, 3) := by decide +kernel
theorem dX10_hasLaw_30 : decode cX10_hasLaw 30 = .ok (.ifCond .eq 22, 3) := by decide +kernel
theorem dX10_hasLaw_33 : decode cX10_hasLaw 33 = .ok (.aload_n 0, 1) := by decide +kernel
theorem dX10_hasLaw_34 : decode cX10_hasLaw 34 = .ok (.getfield 9, 3) := by decide +kernel
theorem dX10_hasLaw_37 : decode cX10_hasLaw 37 = .ok (.sipush 333, 3) := by decide +kernel
theorem dX10_hasLaw_40 : decode cX10_hasLaw 40 = .ok (.iload 5, 2) := by decide +kernel
theorem dX10_hasLaw_42 : decode cX10_hasLaw 42 = .ok (.iadd, 1) := by decide +kernel
theorem dX10_hasLaw_43 : decode cX10_hasLaw 43 = .ok (.iaload, 1) := by decide +kernel
theorem dX10_hasLaw_44 : decode cX10_hasLaw 44 = .ok (.iload_n 3, 1) := by decide +kernel
theorem dX10_hasLaw_45 : decode cX10_hasLaw 45 = .ok (.if_icmp .gt 7, 3) := by decide +kernel
theorem dX10_hasLaw_48 : decode cX10_hasLaw 48 = .ok (.iconst 1, 1) := by decide +kernel
theorem dX10_hasLaw_49 : decode cX10_hasLaw 49 = .ok (.goto 4, 3) := by decide +kernel
theorem dX10_hasLaw_52 : decode cX10_hasLaw 52 = .ok (.iconst 0, 1) := by decide +kernel
theorem dX10_hasLaw_53 : decode cX10_hasLaw 53 = .ok (.istore 4, 2) := by decide +kernel
theorem dX10_hasLaw_55 : decode cX10_hasLaw 55 = .ok (.iinc 5 1, 3) := by decide +kernel
theorem dX10_hasLaw_58 : decode cX10_hasLaw 58 = .ok (.goto (-52), 3) := by decide +kernel
theorem dX10_hasLaw_61 : decode cX10_hasLaw 61 = .ok (.iload 4, 2) := by decide +kernel
theorem dX10_hasLaw_63 : decode cX10_hasLaw 63 = .ok (.ireturn, 1) := by decide +kernel
theorem dX10_ownOf_0 : decode cX10_ownOf 0 = .ok (.iconst (-1), 1) := by decide +kernel
theorem dX10_ownOf_1 : decode cX10_ownOf 1 = .ok (.istore 4, 2) := by decide +kernel
theorem dX10_ownOf_3 : decode cX10_ownOf 3 = .ok (.iconst (-1), 1) := by decide +kernel
theorem dX10_ownOf_4 : decode cX10_ownOf 4 = .ok (.istore 5, 2) := by decide +kernel
theorem dX10_ownOf_6 : decode cX10_ownOf 6 = .ok (.aload_n 0, 1) := by decide +kernel
theorem dX10_ownOf_7 : decode cX10_ownOf 7 = .ok (.getfield 9, 3) := by decide +kernel
theorem dX10_ownOf_10 : decode cX10_ownOf 10 = .ok (.bipush 69, 2) := by decide +kernel
theorem dX10_ownOf_12 : decode cX10_ownOf 12 = .ok (.iload_n 1, 1) := by decide +kernel
theorem dX10_ownOf_13 : decode cX10_ownOf 13 = .ok (.iadd, 1) := by decide +kernel
theorem dX10_ownOf_14 : decode cX10_ownOf 14 = .ok (.iaload, 1) := by decide +kernel
theorem dX10_ownOf_15 : decode cX10_ownOf 15 = .ok (.istore 6, 2) := by decide +kernel
theorem dX10_ownOf_17 : decode cX10_ownOf 17 = .ok (.iload 6, 2) := by decide +kernel
theorem dX10_ownOf_19 : decode cX10_ownOf 19 = .ok (.iload_n 2, 1) := by decide +kernel
theorem dX10_ownOf_20 : decode cX10_ownOf 20 = .ok (.if_icmp .gt 29, 3) := by decide +kernel
theorem dX10_ownOf_23 : decode cX10_ownOf 23 = .ok (.aload_n 0, 1) := by decide +kernel
theorem dX10_ownOf_24 : decode cX10_ownOf 24 = .ok (.iconst 0, 1) := by decide +kernel
theorem dX10_ownOf_25 : decode cX10_ownOf 25 = .ok (.iload 6, 2) := by decide +kernel
theorem dX10_ownOf_27 : decode cX10_ownOf 27 = .ok (.iconst 0, 1) := by decide +kernel
theorem dX10_ownOf_28 : decode cX10_ownOf 28 = .ok (.invokevirtual 76, 3) := by decide +kernel
theorem dX10_ownOf_31 : decode cX10_ownOf 31 = .ok (.ifCond .eq 18, 3) := by decide +kernel
theorem dX10_ownOf_34 : decode cX10_ownOf 34 = .ok (.aload_n 0, 1) := by decide +kernel
theorem dX10_ownOf_35 : decode cX10_ownOf 35 = .ok (.getfield 9, 3) := by decide +kernel
theorem dX10_ownOf_38 : decode cX10_ownOf 38 = .ok (.bipush 59, 2) := by decide +kernel
theorem dX10_ownOf_40 : decode cX10_ownOf 40 = .ok (.iload_n 1, 1) := by decide +kernel
theorem dX10_ownOf_41 : decode cX10_ownOf 41 = .ok (.iadd, 1) := by decide +kernel
theorem dX10_ownOf_42 : decode cX10_ownOf 42 = .ok (.iaload, 1) := by decide +kernel
theorem dX10_ownOf_43 : decode cX10_ownOf 43 = .ok (.istore 4, 2) := by decide +kernel
theorem dX10_ownOf_45 : decode cX10_ownOf 45 = .ok (.iload 6, 2) := by decide +kernel
theorem dX10_ownOf_47 : decode cX10_ownOf 47 = .ok (.istore 5, 2) := by decide +kernel
theorem dX10_ownOf_49 : decode cX10_ownOf 49 = .ok (.iconst 0, 1) := by decide +kernel
theorem dX10_ownOf_50 : decode cX10_ownOf 50 = .ok (.istore 7, 2) := by decide +kernel
theorem dX10_ownOf_52 : decode cX10_ownOf 52 = .ok (.iload 7, 2) := by decide +kernel
theorem dX10_ownOf_54 : decode cX10_ownOf 54 = .ok (.aload_n 0, 1) := by decide +kernel
theorem dX10_ownOf_55 : decode cX10_ownOf 55 = .ok (.getfield 9, 3) := by decide +kernel
theorem dX10_ownOf_58 : decode cX10_ownOf 58 = .ok (.iconst 2, 1) := by decide +kernel
theorem dX10_ownOf_59 : decode cX10_ownOf 59 = .ok (.iaload, 1) := by decide +kernel
theorem dX10_ownOf_60 : decode cX10_ownOf 60 = .ok (.if_icmp .ge 205, 3) := by decide +kernel
theorem dX10_ownOf_63 : decode cX10_ownOf 63 = .ok (.aload_n 0, 1) := by decide +kernel
theorem dX10_ownOf_64 : decode cX10_ownOf 64 = .ok (.getfield 9, 3) := by decide +kernel
theorem dX10_ownOf_67 : decode cX10_ownOf 67 = .ok (.sipush 153, 3) := by decide +kernel
theorem dX10_ownOf_70 : decode cX10_ownOf 70 = .ok (.iload 7, 2) := by decide +kernel
theorem dX10_ownOf_72 : decode cX10_ownOf 72 = .ok (.iadd, 1) := by decide +kernel
theorem dX10_ownOf_73 : decode cX10_ownOf 73 = .ok (.iaload, 1) := by decide +kernel
theorem dX10_ownOf_74 : decode cX10_ownOf 74 = .ok (.iload_n 1, 1) := by decide +kernel
theorem dX10_ownOf_75 : decode cX10_ownOf 75 = .ok (.if_icmp .ne 184, 3) := by decide +kernel
theorem dX10_ownOf_78 : decode cX10_ownOf 78 = .ok (.aload_n 0, 1) := by decide +kernel
theorem dX10_ownOf_79 : decode cX10_ownOf 79 = .ok (.getfield 9, 3) := by decide +kernel
theorem dX10_ownOf_82 : decode cX10_ownOf 82 = .ok (.sipush 273, 3) := by decide +kernel
theorem dX10_ownOf_85 : decode cX10_ownOf 85 = .ok (.iload 7, 2) := by decide +kernel
theorem dX10_ownOf_87 : decode cX10_ownOf 87 = .ok (.iadd, 1) := by decide +kernel
theorem dX10_ownOf_88 : decode cX10_ownOf 88 = .ok (.iaload, 1) := by decide +kernel
theorem dX10_ownOf_89 : decode cX10_ownOf 89 = .ok (.iload_n 3, 1) := by decide +kernel
theorem dX10_ownOf_90 : decode cX10_ownOf 90 = .ok (.if_icmp .gt 169, 3) := by decide +kernel
theorem dX10_ownOf_93 : decode cX10_ownOf 93 = .ok (.aload_n 0, 1) := by decide +kernel
theorem dX10_ownOf_94 : decode cX10_ownOf 94 = .ok (.getfield 79, 3) := by decide +kernel
theorem dX10_ownOf_97 : decode cX10_ownOf 97 = .ok (.iload 7, 2) := by decide +kernel
theorem dX10_ownOf_99 : decode cX10_ownOf 99 = .ok (.ishr, 1) := by decide +kernel
theorem dX10_ownOf_100 : decode cX10_ownOf 100 = .ok (.iconst 1, 1) := by decide +kernel
theorem dX10_ownOf_101 : decode cX10_ownOf 101 = .ok (.iand, 1) := by decide +kernel
theorem dX10_ownOf_102 : decode cX10_ownOf 102 = .ok (.iconst 1, 1) := by decide +kernel
theorem dX10_ownOf_103 : decode cX10_ownOf 103 = .ok (.if_icmp .ne 6, 3) := by decide +kernel
theorem dX10_ownOf_106 : decode cX10_ownOf 106 = .ok (.goto 153, 3) := by decide +kernel
theorem dX10_ownOf_109 : decode cX10_ownOf 109 = .ok (.aload_n 0, 1) := by decide +kernel
theorem dX10_ownOf_110 : decode cX10_ownOf 110 = .ok (.getfield 9, 3) := by decide +kernel
theorem dX10_ownOf_113 : decode cX10_ownOf 113 = .ok (.sipush 129, 3) := by decide +kernel
theorem dX10_ownOf_116 : decode cX10_ownOf 116 = .ok (.iload 7, 2) := by decide +kernel
theorem dX10_ownOf_118 : decode cX10_ownOf 118 = .ok (.iadd, 1) := by decide +kernel
theorem dX10_ownOf_119 : decode cX10_ownOf 119 = .ok (.iaload, 1) := by decide +kernel
theorem dX10_ownOf_120 : decode cX10_ownOf 120 = .ok (.ifCond .ne 7, 3) := by decide +kernel
theorem dX10_ownOf_123 : decode cX10_ownOf 123 = .ok (.iconst 1, 1) := by decide +kernel
theorem dX10_ownOf_124 : decode cX10_ownOf 124 = .ok (.goto 4, 3) := by decide +kernel
theorem dX10_ownOf_127 : decode cX10_ownOf 127 = .ok (.iconst 0, 1) := by decide +kernel
theorem dX10_ownOf_128 : decode cX10_ownOf 128 = .ok (.istore 8, 2) := by decide +kernel
theorem dX10_ownOf_130 : decode cX10_ownOf 130 = .ok (.iload 8, 2) := by decide +kernel
theorem dX10_ownOf_132 : decode cX10_ownOf 132 = .ok (.ifCond .eq 17, 3) := by decide +kernel
theorem dX10_ownOf_135 : decode cX10_ownOf 135 = .ok (.aload_n 0, 1) := by decide +kernel
theorem dX10_ownOf_136 : decode cX10_ownOf 136 = .ok (.getfield 9, 3) := by decide +kernel
theorem dX10_ownOf_139 : decode cX10_ownOf 139 = .ok (.sipush 249, 3) := by decide +kernel
theorem dX10_ownOf_142 : decode cX10_ownOf 142 = .ok (.iload 7, 2) := by decide +kernel
theorem dX10_ownOf_144 : decode cX10_ownOf 144 = .ok (.iadd, 1) := by decide +kernel
theorem dX10_ownOf_145 : decode cX10_ownOf 145 = .ok (.iaload, 1) := by decide +kernel
theorem dX10_ownOf_146 : decode cX10_ownOf 146 = .ok (.goto 14, 3) := by decide +kernel
theorem dX10_ownOf_149 : decode cX10_ownOf 149 = .ok (.aload_n 0, 1) := by decide +kernel
theorem dX10_ownOf_150 : decode cX10_ownOf 150 = .ok (.getfield 9, 3) := by decide +kernel
theorem dX10_ownOf_153 : decode cX10_ownOf 153 = .ok (.sipush 225, 3) := by decide +kernel
theorem dX10_ownOf_156 : decode cX10_ownOf 156 = .ok (.iload 7, 2) := by decide +kernel
theorem dX10_ownOf_158 : decode cX10_ownOf 158 = .ok (.iadd, 1) := by decide +kernel
theorem dX10_ownOf_159 : decode cX10_ownOf 159 = .ok (.iaload, 1) := by decide +kernel
theorem dX10_ownOf_160 : decode cX10_ownOf 160 = .ok (.istore 9, 2) := by decide +kernel
theorem dX10_ownOf_162 : decode cX10_ownOf 162 = .ok (.iload 8, 2) := by decide +kernel
theorem dX10_ownOf_164 : decode cX10_ownOf 164 = .ok (.ifCond .eq 31, 3) := by decide +kernel
theorem dX10_ownOf_167 : decode cX10_ownOf 167 = .ok (.aload_n 0, 1) := by decide +kernel
theorem dX10_ownOf_168 : decode cX10_ownOf 168 = .ok (.getfield 9, 3) := by decide +kernel
theorem dX10_ownOf_171 : decode cX10_ownOf 171 = .ok (.sipush 249, 3) := by decide +kernel
theorem dX10_ownOf_174 : decode cX10_ownOf 174 = .ok (.iload 7, 2) := by decide +kernel
theorem dX10_ownOf_176 : decode cX10_ownOf 176 = .ok (.iadd, 1) := by decide +kernel
theorem dX10_ownOf_177 : decode cX10_ownOf 177 = .ok (.iaload, 1) := by decide +kernel
theorem dX10_ownOf_178 : decode cX10_ownOf 178 = .ok (.aload_n 0, 1) := by decide +kernel
theorem dX10_ownOf_179 : decode cX10_ownOf 179 = .ok (.getfield 9, 3) := by decide +kernel
theorem dX10_ownOf_182 : decode cX10_ownOf 182 = .ok (.sipush 225, 3) := by decide +kernel
theorem dX10_ownOf_185 : decode cX10_ownOf 185 = .ok (.iload 7, 2) := by decide +kernel
theorem dX10_ownOf_187 : decode cX10_ownOf 187 = .ok (.iadd, 1) := by decide +kernel
theorem dX10_ownOf_188 : decode cX10_ownOf 188 = .ok (.iaload, 1) := by decide +kernel
theorem dX10_ownOf_189 : decode cX10_ownOf 189 = .ok (.isub, 1) := by decide +kernel
theorem dX10_ownOf_190 : decode cX10_ownOf 190 = .ok (.iconst 1, 1) := by decide +kernel
theorem dX10_ownOf_191 : decode cX10_ownOf 191 = .ok (.iadd, 1) := by decide +kernel
theorem dX10_ownOf_192 : decode cX10_ownOf 192 = .ok (.goto 14, 3) := by decide +kernel
theorem dX10_ownOf_195 : decode cX10_ownOf 195 = .ok (.aload_n 0, 1) := by decide +kernel
theorem dX10_ownOf_196 : decode cX10_ownOf 196 = .ok (.getfield 9, 3) := by decide +kernel
theorem dX10_ownOf_199 : decode cX10_ownOf 199 = .ok (.sipush 201, 3) := by decide +kernel
theorem dX10_ownOf_202 : decode cX10_ownOf 202 = .ok (.iload 7, 2) := by decide +kernel
theorem dX10_ownOf_204 : decode cX10_ownOf 204 = .ok (.iadd, 1) := by decide +kernel
theorem dX10_ownOf_205 : decode cX10_ownOf 205 = .ok (.iaload, 1) := by decide +kernel
theorem dX10_ownOf_206 : decode cX10_ownOf 206 = .ok (.istore 10, 2) := by decide +kernel
theorem dX10_ownOf_208 : decode cX10_ownOf 208 = .ok (.iload 9, 2) := by decide +kernel
theorem dX10_ownOf_210 : decode cX10_ownOf 210 = .ok (.iload_n 2, 1) := by decide +kernel
theorem dX10_ownOf_211 : decode cX10_ownOf 211 = .ok (.if_icmp .gt 48, 3) := by decide +kernel
theorem dX10_ownOf_214 : decode cX10_ownOf 214 = .ok (.iload 9, 2) := by decide +kernel
theorem dX10_ownOf_216 : decode cX10_ownOf 216 = .ok (.iload 5, 2) := by decide +kernel
theorem dX10_ownOf_218 : decode cX10_ownOf 218 = .ok (.if_icmp .lt 41, 3) := by decide +kernel
theorem dX10_ownOf_221 : decode cX10_ownOf 221 = .ok (.aload_n 0, 1) := by decide +kernel
theorem dX10_ownOf_222 : decode cX10_ownOf 222 = .ok (.iload 8, 2) := by decide +kernel
theorem dX10_ownOf_224 : decode cX10_ownOf 224 = .ok (.ifCond .eq 7, 3) := by decide +kernel
theorem dX10_ownOf_227 : decode cX10_ownOf 227 = .ok (.iconst 1, 1) := by decide +kernel
theorem dX10_ownOf_228 : decode cX10_ownOf 228 = .ok (.goto 4, 3) := by decide +kernel
theorem dX10_ownOf_231 : decode cX10_ownOf 231 = .ok (.iconst 2, 1) := by decide +kernel
theorem dX10_ownOf_232 : decode cX10_ownOf 232 = .ok (.iload 9, 2) := by decide +kernel
theorem dX10_ownOf_234 : decode cX10_ownOf 234 = .ok (.iload 10, 2) := by decide +kernel
theorem dX10_ownOf_236 : decode cX10_ownOf 236 = .ok (.invokevirtual 76, 3) := by decide +kernel
theorem dX10_ownOf_239 : decode cX10_ownOf 239 = .ok (.ifCond .eq 20, 3) := by decide +kernel
theorem dX10_ownOf_242 : decode cX10_ownOf 242 = .ok (.aload_n 0, 1) := by decide +kernel
theorem dX10_ownOf_243 : decode cX10_ownOf 243 = .ok (.getfield 9, 3) := by decide +kernel
theorem dX10_ownOf_246 : decode cX10_ownOf 246 = .ok (.sipush 177, 3) := by decide +kernel
theorem dX10_ownOf_249 : decode cX10_ownOf 249 = .ok (.iload 7, 2) := by decide +kernel
theorem dX10_ownOf_251 : decode cX10_ownOf 251 = .ok (.iadd, 1) := by decide +kernel
theorem dX10_ownOf_252 : decode cX10_ownOf 252 = .ok (.iaload, 1) := by decide +kernel
theorem dX10_ownOf_253 : decode cX10_ownOf 253 = .ok (.istore 4, 2) := by decide +kernel
theorem dX10_ownOf_255 : decode cX10_ownOf 255 = .ok (.iload 9, 2) := by decide +kernel
theorem dX10_ownOf_257 : decode cX10_ownOf 257 = .ok (.istore 5, 2) := by decide +kernel
theorem dX10_ownOf_259 : decode cX10_ownOf 259 = .ok (.iinc 7 1, 3) := by decide +kernel
theorem dX10_ownOf_262 : decode cX10_ownOf 262 = .ok (.goto (-210), 3) := by decide +kernel
theorem dX10_ownOf_265 : decode cX10_ownOf 265 = .ok (.iload 4, 2) := by decide +kernel
theorem dX10_ownOf_267 : decode cX10_ownOf 267 = .ok (.ireturn, 1) := by decide +kernel
theorem dX10_goesBy_0 : decode cX10_goesBy 0 = .ok (.aload_n 0, 1) := by decide +kernel
theorem dX10_goesBy_1 : decode cX10_goesBy 1 = .ok (.getfield 9, 3) := by decide +kernel
theorem dX10_goesBy_4 : decode cX10_goesBy 4 = .ok (.bipush 79, 2) := by decide +kernel
theorem dX10_goesBy_6 : decode cX10_goesBy 6 = .ok (.iload_n 1, 1) := by decide +kernel
theorem dX10_goesBy_7 : decode cX10_goesBy 7 = .ok (.iadd, 1) := by decide +kernel
theorem dX10_goesBy_8 : decode cX10_goesBy 8 = .ok (.iaload, 1) := by decide +kernel
theorem dX10_goesBy_9 : decode cX10_goesBy 9 = .ok (.ifCond .ge 5, 3) := by decide +kernel
theorem dX10_goesBy_12 : decode cX10_goesBy 12 = .ok (.iconst 0, 1) := by decide +kernel
theorem dX10_goesBy_13 : decode cX10_goesBy 13 = .ok (.ireturn, 1) := by decide +kernel
theorem dX10_goesBy_14 : decode cX10_goesBy 14 = .ok (.aload_n 0, 1) := by decide +kernel
theorem dX10_goesBy_15 : decode cX10_goesBy 15 = .ok (.getfield 9, 3) := by decide +kernel
theorem dX10_goesBy_18 : decode cX10_goesBy 18 = .ok (.bipush 49, 2) := by decide +kernel
theorem dX10_goesBy_20 : decode cX10_goesBy 20 = .ok (.iload_n 1, 1) := by decide +kernel
theorem dX10_goesBy_21 : decode cX10_goesBy 21 = .ok (.iadd, 1) := by decide +kernel
theorem dX10_goesBy_22 : decode cX10_goesBy 22 = .ok (.iaload, 1) := by decide +kernel
theorem dX10_goesBy_23 : decode cX10_goesBy 23 = .ok (.iconst 1, 1) := by decide +kernel
theorem dX10_goesBy_24 : decode cX10_goesBy 24 = .ok (.if_icmp .ne 34, 3) := by decide +kernel
theorem dX10_goesBy_27 : decode cX10_goesBy 27 = .ok (.aload_n 0, 1) := by decide +kernel
theorem dX10_goesBy_28 : decode cX10_goesBy 28 = .ok (.getfield 9, 3) := by decide +kernel
theorem dX10_goesBy_31 : decode cX10_goesBy 31 = .ok (.bipush 89, 2) := by decide +kernel
theorem dX10_goesBy_33 : decode cX10_goesBy 33 = .ok (.iload_n 1, 1) := by decide +kernel
theorem dX10_goesBy_34 : decode cX10_goesBy 34 = .ok (.iadd, 1) := by decide +kernel
theorem dX10_goesBy_35 : decode cX10_goesBy 35 = .ok (.iaload, 1) := by decide +kernel
theorem dX10_goesBy_36 : decode cX10_goesBy 36 = .ok (.istore_n 3, 1) := by decide +kernel
theorem dX10_goesBy_37 : decode cX10_goesBy 37 = .ok (.iload_n 3, 1) := by decide +kernel
theorem dX10_goesBy_38 : decode cX10_goesBy 38 = .ok (.iload_n 2, 1) := by decide +kernel
theorem dX10_goesBy_39 : decode cX10_goesBy 39 = .ok (.if_icmp .gt 17, 3) := by decide +kernel
theorem dX10_goesBy_42 : decode cX10_goesBy 42 = .ok (.aload_n 0, 1) := by decide +kernel
theorem dX10_goesBy_43 : decode cX10_goesBy 43 = .ok (.iconst 3, 1) := by decide +kernel
theorem dX10_goesBy_44 : decode cX10_goesBy 44 = .ok (.iload_n 3, 1) := by decide +kernel
theorem dX10_goesBy_45 : decode cX10_goesBy 45 = .ok (.iconst 0, 1) := by decide +kernel
theorem dX10_goesBy_46 : decode cX10_goesBy 46 = .ok (.invokevirtual 76, 3) := by decide +kernel
theorem dX10_goesBy_49 : decode cX10_goesBy 49 = .ok (.ifCond .eq 7, 3) := by decide +kernel
theorem dX10_goesBy_52 : decode cX10_goesBy 52 = .ok (.iconst 1, 1) := by decide +kernel
theorem dX10_goesBy_53 : decode cX10_goesBy 53 = .ok (.goto 4, 3) := by decide +kernel
theorem dX10_goesBy_56 : decode cX10_goesBy 56 = .ok (.iconst 0, 1) := by decide +kernel
theorem dX10_goesBy_57 : decode cX10_goesBy 57 = .ok (.ireturn, 1) := by decide +kernel
theorem dX10_goesBy_58 : decode cX10_goesBy 58 = .ok (.aload_n 0, 1) := by decide +kernel
theorem dX10_goesBy_59 : decode cX10_goesBy 59 = .ok (.getfield 9, 3) := by decide +kernel
theorem dX10_goesBy_62 : decode cX10_goesBy 62 = .ok (.bipush 69, 2) := by decide +kernel
theorem dX10_goesBy_64 : decode cX10_goesBy 64 = .ok (.iload_n 1, 1) := by decide +kernel
theorem dX10_goesBy_65 : decode cX10_goesBy 65 = .ok (.iadd, 1) := by decide +kernel
theorem dX10_goesBy_66 : decode cX10_goesBy 66 = .ok (.iaload, 1) := by decide +kernel
theorem dX10_goesBy_67 : decode cX10_goesBy 67 = .ok (.istore_n 3, 1) := by decide +kernel
theorem dX10_goesBy_68 : decode cX10_goesBy 68 = .ok (.iconst 0, 1) := by decide +kernel
theorem dX10_goesBy_69 : decode cX10_goesBy 69 = .ok (.istore 4, 2) := by decide +kernel
theorem dX10_goesBy_71 : decode cX10_goesBy 71 = .ok (.iconst 0, 1) := by decide +kernel
theorem dX10_goesBy_72 : decode cX10_goesBy 72 = .ok (.istore 5, 2) := by decide +kernel
theorem dX10_goesBy_74 : decode cX10_goesBy 74 = .ok (.iload 5, 2) := by decide +kernel
theorem dX10_goesBy_76 : decode cX10_goesBy 76 = .ok (.aload_n 0, 1) := by decide +kernel
theorem dX10_goesBy_77 : decode cX10_goesBy 77 = .ok (.getfield 9, 3) := by decide +kernel
theorem dX10_goesBy_80 : decode cX10_goesBy 80 = .ok (.iconst 3, 1) := by decide +kernel
theorem dX10_goesBy_81 : decode cX10_goesBy 81 = .ok (.iaload, 1) := by decide +kernel
theorem dX10_goesBy_82 : decode cX10_goesBy 82 = .ok (.if_icmp .ge 49, 3) := by decide +kernel
theorem dX10_goesBy_85 : decode cX10_goesBy 85 = .ok (.iload 4, 2) := by decide +kernel
theorem dX10_goesBy_87 : decode cX10_goesBy 87 = .ok (.ifCond .ne 31, 3) := by decide +kernel
theorem dX10_goesBy_90 : decode cX10_goesBy 90 = .ok (.aload_n 0, 1) := by decide +kernel
theorem dX10_goesBy_91 : decode cX10_goesBy 91 = .ok (.iload 5, 2) := by decide +kernel
theorem dX10_goesBy_93 : decode cX10_goesBy 93 = .ok (.iconst 4, 1) := by decide +kernel
theorem dX10_goesBy_94 : decode cX10_goesBy 94 = .ok (.iload_n 3, 1) := by decide +kernel
theorem dX10_goesBy_95 : decode cX10_goesBy 95 = .ok (.invokevirtual 73, 3) := by decide +kernel
theorem dX10_goesBy_98 : decode cX10_goesBy 98 = .ok (.ifCond .eq 24, 3) := by decide +kernel
theorem dX10_goesBy_101 : decode cX10_goesBy 101 = .ok (.iload_n 2, 1) := by decide +kernel
theorem dX10_goesBy_102 : decode cX10_goesBy 102 = .ok (.iload_n 3, 1) := by decide +kernel
theorem dX10_goesBy_103 : decode cX10_goesBy 103 = .ok (.isub, 1) := by decide +kernel
theorem dX10_goesBy_104 : decode cX10_goesBy 104 = .ok (.aload_n 0, 1) := by decide +kernel
theorem dX10_goesBy_105 : decode cX10_goesBy 105 = .ok (.getfield 9, 3) := by decide +kernel
theorem dX10_goesBy_108 : decode cX10_goesBy 108 = .ok (.sipush 333, 3) := by decide +kernel
theorem dX10_goesBy_111 : decode cX10_goesBy 111 = .ok (.iload 5, 2) := by decide +kernel
theorem dX10_goesBy_113 : decode cX10_goesBy 113 = .ok (.iadd, 1) := by decide +kernel
theorem dX10_goesBy_114 : decode cX10_goesBy 114 = .ok (.iaload, 1) := by decide +kernel
theorem dX10_goesBy_115 : decode cX10_goesBy 115 = .ok (.if_icmp .ge 7, 3) := by decide +kernel
theorem dX10_goesBy_118 : decode cX10_goesBy 118 = .ok (.iconst 1, 1) := by decide +kernel
theorem dX10_goesBy_119 : decode cX10_goesBy 119 = .ok (.goto 4, 3) := by decide +kernel
theorem dX10_goesBy_122 : decode cX10_goesBy 122 = .ok (.iconst 0, 1) := by decide +kernel
theorem dX10_goesBy_123 : decode cX10_goesBy 123 = .ok (.istore 4, 2) := by decide +kernel
theorem dX10_goesBy_125 : decode cX10_goesBy 125 = .ok (.iinc 5 1, 3) := by decide +kernel
theorem dX10_goesBy_128 : decode cX10_goesBy 128 = .ok (.goto (-54), 3) := by decide +kernel
theorem dX10_goesBy_131 : decode cX10_goesBy 131 = .ok (.iload_n 2, 1) := by decide +kernel
theorem dX10_goesBy_132 : decode cX10_goesBy 132 = .ok (.iload_n 3, 1) := by decide +kernel
theorem dX10_goesBy_133 : decode cX10_goesBy 133 = .ok (.if_icmp .lt 12, 3) := by decide +kernel
theorem dX10_goesBy_136 : decode cX10_goesBy 136 = .ok (.iload 4, 2) := by decide +kernel
theorem dX10_goesBy_138 : decode cX10_goesBy 138 = .ok (.ifCond .eq 7, 3) := by decide +kernel
theorem dX10_goesBy_141 : decode cX10_goesBy 141 = .ok (.iconst 1, 1) := by decide +kernel
theorem dX10_goesBy_142 : decode cX10_goesBy 142 = .ok (.goto 4, 3) := by decide +kernel
theorem dX10_goesBy_145 : decode cX10_goesBy 145 = .ok (.iconst 0, 1) := by decide +kernel
theorem dX10_goesBy_146 : decode cX10_goesBy 146 = .ok (.ireturn, 1) := by decide +kernel
theorem dX10_settlementOf_0 : decode cX10_settlementOf 0 = .ok (.iconst 1, 1) := by decide +kernel
theorem dX10_settlementOf_1 : decode cX10_settlementOf 1 = .ok (.istore 4, 2) := by decide +kernel
theorem dX10_settlementOf_3 : decode cX10_settlementOf 3 = .ok (.aload_n 0, 1) := by decide +kernel
theorem dX10_settlementOf_4 : decode cX10_settlementOf 4 = .ok (.getfield 25, 3) := by decide +kernel
theorem dX10_settlementOf_7 : decode cX10_settlementOf 7 = .ok (.iconst 0, 1) := by decide +kernel
theorem dX10_settlementOf_8 : decode cX10_settlementOf 8 = .ok (.iload_n 1, 1) := by decide +kernel
theorem dX10_settlementOf_9 : decode cX10_settlementOf 9 = .ok (.iastore, 1) := by decide +kernel
theorem dX10_settlementOf_10 : decode cX10_settlementOf 10 = .ok (.aload_n 0, 1) := by decide +kernel
theorem dX10_settlementOf_11 : decode cX10_settlementOf 11 = .ok (.aload_n 0, 1) := by decide +kernel
theorem dX10_settlementOf_12 : decode cX10_settlementOf 12 = .ok (.getfield 25, 3) := by decide +kernel
theorem dX10_settlementOf_15 : decode cX10_settlementOf 15 = .ok (.iload 4, 2) := by decide +kernel
theorem dX10_settlementOf_17 : decode cX10_settlementOf 17 = .ok (.iconst 1, 1) := by decide +kernel
theorem dX10_settlementOf_18 : decode cX10_settlementOf 18 = .ok (.isub, 1) := by decide +kernel
theorem dX10_settlementOf_19 : decode cX10_settlementOf 19 = .ok (.iaload, 1) := by decide +kernel
theorem dX10_settlementOf_20 : decode cX10_settlementOf 20 = .ok (.iload_n 2, 1) := by decide +kernel
theorem dX10_settlementOf_21 : decode cX10_settlementOf 21 = .ok (.invokevirtual 82, 3) := by decide +kernel
theorem dX10_settlementOf_24 : decode cX10_settlementOf 24 = .ok (.ifCond .eq 33, 3) := by decide +kernel
theorem dX10_settlementOf_27 : decode cX10_settlementOf 27 = .ok (.aload_n 0, 1) := by decide +kernel
theorem dX10_settlementOf_28 : decode cX10_settlementOf 28 = .ok (.getfield 25, 3) := by decide +kernel
theorem dX10_settlementOf_31 : decode cX10_settlementOf 31 = .ok (.iload 4, 2) := by decide +kernel
theorem dX10_settlementOf_33 : decode cX10_settlementOf 33 = .ok (.aload_n 0, 1) := by decide +kernel
theorem dX10_settlementOf_34 : decode cX10_settlementOf 34 = .ok (.getfield 9, 3) := by decide +kernel
theorem dX10_settlementOf_37 : decode cX10_settlementOf 37 = .ok (.bipush 79, 2) := by decide +kernel
theorem dX10_settlementOf_39 : decode cX10_settlementOf 39 = .ok (.aload_n 0, 1) := by decide +kernel
theorem dX10_settlementOf_40 : decode cX10_settlementOf 40 = .ok (.getfield 25, 3) := by decide +kernel
theorem dX10_settlementOf_43 : decode cX10_settlementOf 43 = .ok (.iload 4, 2) := by decide +kernel
theorem dX10_settlementOf_45 : decode cX10_settlementOf 45 = .ok (.iconst 1, 1) := by decide +kernel
theorem dX10_settlementOf_46 : decode cX10_settlementOf 46 = .ok (.isub, 1) := by decide +kernel
theorem dX10_settlementOf_47 : decode cX10_settlementOf 47 = .ok (.iaload, 1) := by decide +kernel
theorem dX10_settlementOf_48 : decode cX10_settlementOf 48 = .ok (.iadd, 1) := by decide +kernel
theorem dX10_settlementOf_49 : decode cX10_settlementOf 49 = .ok (.iaload, 1) := by decide +kernel
theorem dX10_settlementOf_50 : decode cX10_settlementOf 50 = .ok (.iastore, 1) := by decide +kernel
theorem dX10_settlementOf_51 : decode cX10_settlementOf 51 = .ok (.iinc 4 1, 3) := by decide +kernel
theorem dX10_settlementOf_54 : decode cX10_settlementOf 54 = .ok (.goto (-44), 3) := by decide +kernel
theorem dX10_settlementOf_57 : decode cX10_settlementOf 57 = .ok (.iconst (-1), 1) := by decide +kernel
theorem dX10_settlementOf_58 : decode cX10_settlementOf 58 = .ok (.istore 5, 2) := by decide +kernel
theorem dX10_settlementOf_60 : decode cX10_settlementOf 60 = .ok (.aload_n 0, 1) := by decide +kernel
theorem dX10_settlementOf_61 : decode cX10_settlementOf 61 = .ok (.iload_n 1, 1) := by decide +kernel
theorem dX10_settlementOf_62 : decode cX10_settlementOf 62 = .ok (.putfield 86, 3) := by decide +kernel
theorem dX10_settlementOf_65 : decode cX10_settlementOf 65 = .ok (.iload 4, 2) := by decide +kernel
theorem dX10_settlementOf_67 : decode cX10_settlementOf 67 = .ok (.iconst 1, 1) := by decide +kernel
theorem dX10_settlementOf_68 : decode cX10_settlementOf 68 = .ok (.isub, 1) := by decide +kernel
theorem dX10_settlementOf_69 : decode cX10_settlementOf 69 = .ok (.istore 6, 2) := by decide +kernel
theorem dX10_settlementOf_71 : decode cX10_settlementOf 71 = .ok (.iload 6, 2) := by decide +kernel
theorem dX10_settlementOf_73 : decode cX10_settlementOf 73 = .ok (.ifCond .lt 49, 3) := by decide +kernel
theorem dX10_settlementOf_76 : decode cX10_settlementOf 76 = .ok (.iload 5, 2) := by decide +kernel
theorem dX10_settlementOf_78 : decode cX10_settlementOf 78 = .ok (.ifCond .ge 44, 3) := by decide +kernel
theorem dX10_settlementOf_81 : decode cX10_settlementOf 81 = .ok (.aload_n 0, 1) := by decide +kernel
theorem dX10_settlementOf_82 : decode cX10_settlementOf 82 = .ok (.aload_n 0, 1) := by decide +kernel
theorem dX10_settlementOf_83 : decode cX10_settlementOf 83 = .ok (.getfield 25, 3) := by decide +kernel
theorem dX10_settlementOf_86 : decode cX10_settlementOf 86 = .ok (.iload 6, 2) := by decide +kernel
theorem dX10_settlementOf_88 : decode cX10_settlementOf 88 = .ok (.iaload, 1) := by decide +kernel
theorem dX10_settlementOf_89 : decode cX10_settlementOf 89 = .ok (.iload_n 2, 1) := by decide +kernel
theorem dX10_settlementOf_90 : decode cX10_settlementOf 90 = .ok (.iload_n 3, 1) := by decide +kernel
theorem dX10_settlementOf_91 : decode cX10_settlementOf 91 = .ok (.invokevirtual 89, 3) := by decide +kernel
theorem dX10_settlementOf_94 : decode cX10_settlementOf 94 = .ok (.istore 5, 2) := by decide +kernel
theorem dX10_settlementOf_96 : decode cX10_settlementOf 96 = .ok (.aload_n 0, 1) := by decide +kernel
theorem dX10_settlementOf_97 : decode cX10_settlementOf 97 = .ok (.iload 5, 2) := by decide +kernel
theorem dX10_settlementOf_99 : decode cX10_settlementOf 99 = .ok (.ifCond .ge 7, 3) := by decide +kernel
theorem dX10_settlementOf_102 : decode cX10_settlementOf 102 = .ok (.iload_n 1, 1) := by decide +kernel
theorem dX10_settlementOf_103 : decode cX10_settlementOf 103 = .ok (.goto 10, 3) := by decide +kernel
theorem dX10_settlementOf_106 : decode cX10_settlementOf 106 = .ok (.aload_n 0, 1) := by decide +kernel
theorem dX10_settlementOf_107 : decode cX10_settlementOf 107 = .ok (.getfield 25, 3) := by decide +kernel
theorem dX10_settlementOf_110 : decode cX10_settlementOf 110 = .ok (.iload 6, 2) := by decide +kernel
theorem dX10_settlementOf_112 : decode cX10_settlementOf 112 = .ok (.iaload, 1) := by decide +kernel
theorem dX10_settlementOf_113 : decode cX10_settlementOf 113 = .ok (.putfield 86, 3) := by decide +kernel
theorem dX10_settlementOf_116 : decode cX10_settlementOf 116 = .ok (.iinc 6 (-1), 3) := by decide +kernel
theorem dX10_settlementOf_119 : decode cX10_settlementOf 119 = .ok (.goto (-48), 3) := by decide +kernel
theorem dX10_settlementOf_122 : decode cX10_settlementOf 122 = .ok (.iload 5, 2) := by decide +kernel
theorem dX10_settlementOf_124 : decode cX10_settlementOf 124 = .ok (.ireturn, 1) := by decide +kernel
theorem dX10_canAsk_0 : decode cX10_canAsk 0 = .ok (.aload_n 0, 1) := by decide +kernel
theorem dX10_canAsk_1 : decode cX10_canAsk 1 = .ok (.iload_n 1, 1) := by decide +kernel
theorem dX10_canAsk_2 : decode cX10_canAsk 2 = .ok (.invokevirtual 59, 3) := by decide +kernel
theorem dX10_canAsk_5 : decode cX10_canAsk 5 = .ok (.ifCond .eq 21, 3) := by decide +kernel
theorem dX10_canAsk_8 : decode cX10_canAsk 8 = .ok (.iload_n 2, 1) := by decide +kernel
theorem dX10_canAsk_9 : decode cX10_canAsk 9 = .ok (.invokestatic 56, 3) := by decide +kernel
theorem dX10_canAsk_12 : decode cX10_canAsk 12 = .ok (.ifCond .eq 14, 3) := by decide +kernel
theorem dX10_canAsk_15 : decode cX10_canAsk 15 = .ok (.iload_n 3, 1) := by decide +kernel
theorem dX10_canAsk_16 : decode cX10_canAsk 16 = .ok (.invokestatic 56, 3) := by decide +kernel
theorem dX10_canAsk_19 : decode cX10_canAsk 19 = .ok (.ifCond .eq 7, 3) := by decide +kernel
theorem dX10_canAsk_22 : decode cX10_canAsk 22 = .ok (.iconst 1, 1) := by decide +kernel
theorem dX10_canAsk_23 : decode cX10_canAsk 23 = .ok (.goto 4, 3) := by decide +kernel
theorem dX10_canAsk_26 : decode cX10_canAsk 26 = .ok (.iconst 0, 1) := by decide +kernel
theorem dX10_canAsk_27 : decode cX10_canAsk 27 = .ok (.ireturn, 1) := by decide +kernel
theorem dX10_own_0 : decode cX10_own 0 = .ok (.aload_n 0, 1) := by decide +kernel
theorem dX10_own_1 : decode cX10_own 1 = .ok (.iload_n 1, 1) := by decide +kernel
theorem dX10_own_2 : decode cX10_own 2 = .ok (.iload_n 2, 1) := by decide +kernel
theorem dX10_own_3 : decode cX10_own 3 = .ok (.iload_n 3, 1) := by decide +kernel
theorem dX10_own_4 : decode cX10_own 4 = .ok (.invokevirtual 92, 3) := by decide +kernel
theorem dX10_own_7 : decode cX10_own 7 = .ok (.ifCond .ne 10, 3) := by decide +kernel
theorem dX10_own_10 : decode cX10_own 10 = .ok (.aload_n 0, 1) := by decide +kernel
theorem dX10_own_11 : decode cX10_own 11 = .ok (.ldc 45, 2) := by decide +kernel
theorem dX10_own_13 : decode cX10_own 13 = .ok (.invokevirtual 46, 3) := by decide +kernel
theorem dX10_own_16 : decode cX10_own 16 = .ok (.ireturn, 1) := by decide +kernel
theorem dX10_own_17 : decode cX10_own 17 = .ok (.aload_n 0, 1) := by decide +kernel
theorem dX10_own_18 : decode cX10_own 18 = .ok (.iconst 0, 1) := by decide +kernel
theorem dX10_own_19 : decode cX10_own 19 = .ok (.putfield 79, 3) := by decide +kernel
theorem dX10_own_22 : decode cX10_own 22 = .ok (.aload_n 0, 1) := by decide +kernel
theorem dX10_own_23 : decode cX10_own 23 = .ok (.iload_n 1, 1) := by decide +kernel
theorem dX10_own_24 : decode cX10_own 24 = .ok (.iload_n 2, 1) := by decide +kernel
theorem dX10_own_25 : decode cX10_own 25 = .ok (.iload_n 3, 1) := by decide +kernel
theorem dX10_own_26 : decode cX10_own 26 = .ok (.invokevirtual 89, 3) := by decide +kernel
theorem dX10_own_29 : decode cX10_own 29 = .ok (.istore 4, 2) := by decide +kernel
theorem dX10_own_31 : decode cX10_own 31 = .ok (.iload 4, 2) := by decide +kernel
theorem dX10_own_33 : decode cX10_own 33 = .ok (.ifCond .ge 12, 3) := by decide +kernel
theorem dX10_own_36 : decode cX10_own 36 = .ok (.aload_n 0, 1) := by decide +kernel
theorem dX10_own_37 : decode cX10_own 37 = .ok (.ldc 72, 2) := by decide +kernel
theorem dX10_own_39 : decode cX10_own 39 = .ok (.invokevirtual 46, 3) := by decide +kernel
theorem dX10_own_42 : decode cX10_own 42 = .ok (.goto 5, 3) := by decide +kernel
theorem dX10_own_45 : decode cX10_own 45 = .ok (.iload 4, 2) := by decide +kernel
theorem dX10_own_47 : decode cX10_own 47 = .ok (.ireturn, 1) := by decide +kernel
theorem dX10_settlement_0 : decode cX10_settlement 0 = .ok (.aload_n 0, 1) := by decide +kernel
theorem dX10_settlement_1 : decode cX10_settlement 1 = .ok (.iload_n 1, 1) := by decide +kernel
theorem dX10_settlement_2 : decode cX10_settlement 2 = .ok (.iload_n 2, 1) := by decide +kernel
theorem dX10_settlement_3 : decode cX10_settlement 3 = .ok (.iload_n 3, 1) := by decide +kernel
theorem dX10_settlement_4 : decode cX10_settlement 4 = .ok (.invokevirtual 92, 3) := by decide +kernel
theorem dX10_settlement_7 : decode cX10_settlement 7 = .ok (.ifCond .ne 10, 3) := by decide +kernel
theorem dX10_settlement_10 : decode cX10_settlement 10 = .ok (.aload_n 0, 1) := by decide +kernel
theorem dX10_settlement_11 : decode cX10_settlement 11 = .ok (.ldc 45, 2) := by decide +kernel
theorem dX10_settlement_13 : decode cX10_settlement 13 = .ok (.invokevirtual 46, 3) := by decide +kernel
theorem dX10_settlement_16 : decode cX10_settlement 16 = .ok (.ireturn, 1) := by decide +kernel
theorem dX10_settlement_17 : decode cX10_settlement 17 = .ok (.aload_n 0, 1) := by decide +kernel
theorem dX10_settlement_18 : decode cX10_settlement 18 = .ok (.iconst 0, 1) := by decide +kernel
theorem dX10_settlement_19 : decode cX10_settlement 19 = .ok (.putfield 79, 3) := by decide +kernel
theorem dX10_settlement_22 : decode cX10_settlement 22 = .ok (.aload_n 0, 1) := by decide +kernel
theorem dX10_settlement_23 : decode cX10_settlement 23 = .ok (.iload_n 1, 1) := by decide +kernel
theorem dX10_settlement_24 : decode cX10_settlement 24 = .ok (.iload_n 2, 1) := by decide +kernel
theorem dX10_settlement_25 : decode cX10_settlement 25 = .ok (.iload_n 3, 1) := by decide +kernel
theorem dX10_settlement_26 : decode cX10_settlement 26 = .ok (.invokevirtual 95, 3) := by decide +kernel
theorem dX10_settlement_29 : decode cX10_settlement 29 = .ok (.istore 4, 2) := by decide +kernel
theorem dX10_settlement_31 : decode cX10_settlement 31 = .ok (.iload 4, 2) := by decide +kernel
theorem dX10_settlement_33 : decode cX10_settlement 33 = .ok (.ifCond .ge 12, 3) := by decide +kernel
theorem dX10_settlement_36 : decode cX10_settlement 36 = .ok (.aload_n 0, 1) := by decide +kernel
theorem dX10_settlement_37 : decode cX10_settlement 37 = .ok (.ldc 72, 2) := by decide +kernel
theorem dX10_settlement_39 : decode cX10_settlement 39 = .ok (.invokevirtual 46, 3) := by decide +kernel
theorem dX10_settlement_42 : decode cX10_settlement 42 = .ok (.goto 5, 3) := by decide +kernel
theorem dX10_settlement_45 : decode cX10_settlement 45 = .ok (.iload 4, 2) := by decide +kernel
theorem dX10_settlement_47 : decode cX10_settlement 47 = .ok (.ireturn, 1) := by decide +kernel
theorem dX10_through_0 : decode cX10_through 0 = .ok (.aload_n 0, 1) := by decide +kernel
theorem dX10_through_1 : decode cX10_through 1 = .ok (.iload_n 1, 1) := by decide +kernel
theorem dX10_through_2 : decode cX10_through 2 = .ok (.iload_n 2, 1) := by decide +kernel
theorem dX10_through_3 : decode cX10_through 3 = .ok (.iload_n 3, 1) := by decide +kernel
theorem dX10_through_4 : decode cX10_through 4 = .ok (.invokevirtual 92, 3) := by decide +kernel
theorem dX10_through_7 : decode cX10_through 7 = .ok (.ifCond .ne 10, 3) := by decide +kernel
theorem dX10_through_10 : decode cX10_through 10 = .ok (.aload_n 0, 1) := by decide +kernel
theorem dX10_through_11 : decode cX10_through 11 = .ok (.ldc 45, 2) := by decide +kernel
theorem dX10_through_13 : decode cX10_through 13 = .ok (.invokevirtual 46, 3) := by decide +kernel
theorem dX10_through_16 : decode cX10_through 16 = .ok (.ireturn, 1) := by decide +kernel
theorem dX10_through_17 : decode cX10_through 17 = .ok (.aload_n 0, 1) := by decide +kernel
theorem dX10_through_18 : decode cX10_through 18 = .ok (.iconst 0, 1) := by decide +kernel
theorem dX10_through_19 : decode cX10_through 19 = .ok (.putfield 79, 3) := by decide +kernel
theorem dX10_through_22 : decode cX10_through 22 = .ok (.aload_n 0, 1) := by decide +kernel
theorem dX10_through_23 : decode cX10_through 23 = .ok (.iload_n 1, 1) := by decide +kernel
theorem dX10_through_24 : decode cX10_through 24 = .ok (.iload_n 2, 1) := by decide +kernel
theorem dX10_through_25 : decode cX10_through 25 = .ok (.iload_n 3, 1) := by decide +kernel
theorem dX10_through_26 : decode cX10_through 26 = .ok (.invokevirtual 95, 3) := by decide +kernel
theorem dX10_through_29 : decode cX10_through 29 = .ok (.istore 4, 2) := by decide +kernel
theorem dX10_through_31 : decode cX10_through 31 = .ok (.aload_n 0, 1) := by decide +kernel
theorem dX10_through_32 : decode cX10_through 32 = .ok (.getfield 86, 3) := by decide +kernel
theorem dX10_through_35 : decode cX10_through 35 = .ok (.ireturn, 1) := by decide +kernel
theorem dX10_findOutcomes_0 : decode cX10_findOutcomes 0 = .ok (.iconst 0, 1) := by decide +kernel
theorem dX10_findOutcomes_1 : decode cX10_findOutcomes 1 = .ok (.istore 4, 2) := by decide +kernel
theorem dX10_findOutcomes_3 : decode cX10_findOutcomes 3 = .ok (.iconst 0, 1) := by decide +kernel
theorem dX10_findOutcomes_4 : decode cX10_findOutcomes 4 = .ok (.istore 5, 2) := by decide +kernel
theorem dX10_findOutcomes_6 : decode cX10_findOutcomes 6 = .ok (.iload 5, 2) := by decide +kernel
theorem dX10_findOutcomes_8 : decode cX10_findOutcomes 8 = .ok (.aload_n 0, 1) := by decide +kernel
theorem dX10_findOutcomes_9 : decode cX10_findOutcomes 9 = .ok (.getfield 9, 3) := by decide +kernel
theorem dX10_findOutcomes_12 : decode cX10_findOutcomes 12 = .ok (.iconst 2, 1) := by decide +kernel
theorem dX10_findOutcomes_13 : decode cX10_findOutcomes 13 = .ok (.iaload, 1) := by decide +kernel
theorem dX10_findOutcomes_14 : decode cX10_findOutcomes 14 = .ok (.if_icmp .ge 36, 3) := by decide +kernel
theorem dX10_findOutcomes_17 : decode cX10_findOutcomes 17 = .ok (.aload_n 0, 1) := by decide +kernel
theorem dX10_findOutcomes_18 : decode cX10_findOutcomes 18 = .ok (.getfield 9, 3) := by decide +kernel
theorem dX10_findOutcomes_21 : decode cX10_findOutcomes 21 = .ok (.sipush 297, 3) := by decide +kernel
theorem dX10_findOutcomes_24 : decode cX10_findOutcomes 24 = .ok (.iload 5, 2) := by decide +kernel
theorem dX10_findOutcomes_26 : decode cX10_findOutcomes 26 = .ok (.iadd, 1) := by decide +kernel
theorem dX10_findOutcomes_27 : decode cX10_findOutcomes 27 = .ok (.iaload, 1) := by decide +kernel
theorem dX10_findOutcomes_28 : decode cX10_findOutcomes 28 = .ok (.iconst 1, 1) := by decide +kernel
theorem dX10_findOutcomes_29 : decode cX10_findOutcomes 29 = .ok (.if_icmp .ne 15, 3) := by decide +kernel
theorem dX10_findOutcomes_32 : decode cX10_findOutcomes 32 = .ok (.aload_n 0, 1) := by decide +kernel
theorem dX10_findOutcomes_33 : decode cX10_findOutcomes 33 = .ok (.getfield 28, 3) := by decide +kernel
theorem dX10_findOutcomes_36 : decode cX10_findOutcomes 36 = .ok (.iload 4, 2) := by decide +kernel
theorem dX10_findOutcomes_38 : decode cX10_findOutcomes 38 = .ok (.iload 5, 2) := by decide +kernel
theorem dX10_findOutcomes_40 : decode cX10_findOutcomes 40 = .ok (.iastore, 1) := by decide +kernel
theorem dX10_findOutcomes_41 : decode cX10_findOutcomes 41 = .ok (.iinc 4 1, 3) := by decide +kernel
theorem dX10_findOutcomes_44 : decode cX10_findOutcomes 44 = .ok (.iinc 5 1, 3) := by decide +kernel
theorem dX10_findOutcomes_47 : decode cX10_findOutcomes 47 = .ok (.goto (-41), 3) := by decide +kernel
theorem dX10_findOutcomes_50 : decode cX10_findOutcomes 50 = .ok (.iconst 0, 1) := by decide +kernel
theorem dX10_findOutcomes_51 : decode cX10_findOutcomes 51 = .ok (.istore 5, 2) := by decide +kernel
theorem dX10_findOutcomes_53 : decode cX10_findOutcomes 53 = .ok (.iload 5, 2) := by decide +kernel
theorem dX10_findOutcomes_55 : decode cX10_findOutcomes 55 = .ok (.iconst 1, 1) := by decide +kernel
theorem dX10_findOutcomes_56 : decode cX10_findOutcomes 56 = .ok (.iload 4, 2) := by decide +kernel
theorem dX10_findOutcomes_58 : decode cX10_findOutcomes 58 = .ok (.ishl, 1) := by decide +kernel
theorem dX10_findOutcomes_59 : decode cX10_findOutcomes 59 = .ok (.if_icmp .ge 84, 3) := by decide +kernel
theorem dX10_findOutcomes_62 : decode cX10_findOutcomes 62 = .ok (.aload_n 0, 1) := by decide +kernel
theorem dX10_findOutcomes_63 : decode cX10_findOutcomes 63 = .ok (.iconst 0, 1) := by decide +kernel
theorem dX10_findOutcomes_64 : decode cX10_findOutcomes 64 = .ok (.putfield 79, 3) := by decide +kernel
theorem dX10_findOutcomes_67 : decode cX10_findOutcomes 67 = .ok (.iconst 0, 1) := by decide +kernel
theorem dX10_findOutcomes_68 : decode cX10_findOutcomes 68 = .ok (.istore 6, 2) := by decide +kernel
theorem dX10_findOutcomes_70 : decode cX10_findOutcomes 70 = .ok (.iload 6, 2) := by decide +kernel
theorem dX10_findOutcomes_72 : decode cX10_findOutcomes 72 = .ok (.iload 4, 2) := by decide +kernel
theorem dX10_findOutcomes_74 : decode cX10_findOutcomes 74 = .ok (.if_icmp .ge 33, 3) := by decide +kernel
theorem dX10_findOutcomes_77 : decode cX10_findOutcomes 77 = .ok (.aload_n 0, 1) := by decide +kernel
theorem dX10_findOutcomes_78 : decode cX10_findOutcomes 78 = .ok (.dup, 1) := by decide +kernel
theorem dX10_findOutcomes_79 : decode cX10_findOutcomes 79 = .ok (.getfield 79, 3) := by decide +kernel
theorem dX10_findOutcomes_82 : decode cX10_findOutcomes 82 = .ok (.iload 5, 2) := by decide +kernel
theorem dX10_findOutcomes_84 : decode cX10_findOutcomes 84 = .ok (.iload 6, 2) := by decide +kernel
theorem dX10_findOutcomes_86 : decode cX10_findOutcomes 86 = .ok (.ishr, 1) := by decide +kernel
theorem dX10_findOutcomes_87 : decode cX10_findOutcomes 87 = .ok (.iconst 1, 1) := by decide +kernel
theorem dX10_findOutcomes_88 : decode cX10_findOutcomes 88 = .ok (.iand, 1) := by decide +kernel
theorem dX10_findOutcomes_89 : decode cX10_findOutcomes 89 = .ok (.aload_n 0, 1) := by decide +kernel
theorem dX10_findOutcomes_90 : decode cX10_findOutcomes 90 = .ok (.getfield 28, 3) := by decide +kernel
theorem dX10_findOutcomes_93 : decode cX10_findOutcomes 93 = .ok (.iload 6, 2) := by decide +kernel
theorem dX10_findOutcomes_95 : decode cX10_findOutcomes 95 = .ok (.iaload, 1) := by decide +kernel
theorem dX10_findOutcomes_96 : decode cX10_findOutcomes 96 = .ok (.ishl, 1) := by decide +kernel
theorem dX10_findOutcomes_97 : decode cX10_findOutcomes 97 = .ok (.ior, 1) := by decide +kernel
theorem dX10_findOutcomes_98 : decode cX10_findOutcomes 98 = .ok (.putfield 79, 3) := by decide +kernel
theorem dX10_findOutcomes_101 : decode cX10_findOutcomes 101 = .ok (.iinc 6 1, 3) := by decide +kernel
theorem dX10_findOutcomes_104 : decode cX10_findOutcomes 104 = .ok (.goto (-34), 3) := by decide +kernel
theorem dX10_findOutcomes_107 : decode cX10_findOutcomes 107 = .ok (.aload_n 0, 1) := by decide +kernel
theorem dX10_findOutcomes_108 : decode cX10_findOutcomes 108 = .ok (.iload_n 1, 1) := by decide +kernel
theorem dX10_findOutcomes_109 : decode cX10_findOutcomes 109 = .ok (.iload_n 2, 1) := by decide +kernel
theorem dX10_findOutcomes_110 : decode cX10_findOutcomes 110 = .ok (.iload_n 3, 1) := by decide +kernel
theorem dX10_findOutcomes_111 : decode cX10_findOutcomes 111 = .ok (.invokevirtual 95, 3) := by decide +kernel
theorem dX10_findOutcomes_114 : decode cX10_findOutcomes 114 = .ok (.istore 6, 2) := by decide +kernel
theorem dX10_findOutcomes_116 : decode cX10_findOutcomes 116 = .ok (.aload_n 0, 1) := by decide +kernel
theorem dX10_findOutcomes_117 : decode cX10_findOutcomes 117 = .ok (.getfield 31, 3) := by decide +kernel
theorem dX10_findOutcomes_120 : decode cX10_findOutcomes 120 = .ok (.iload 5, 2) := by decide +kernel
theorem dX10_findOutcomes_122 : decode cX10_findOutcomes 122 = .ok (.iload 6, 2) := by decide +kernel
theorem dX10_findOutcomes_124 : decode cX10_findOutcomes 124 = .ok (.ifCond .ge 8, 3) := by decide +kernel
theorem dX10_findOutcomes_127 : decode cX10_findOutcomes 127 = .ok (.bipush 64, 2) := by decide +kernel
theorem dX10_findOutcomes_129 : decode cX10_findOutcomes 129 = .ok (.goto 7, 3) := by decide +kernel
theorem dX10_findOutcomes_132 : decode cX10_findOutcomes 132 = .ok (.iconst 1, 1) := by decide +kernel
theorem dX10_findOutcomes_133 : decode cX10_findOutcomes 133 = .ok (.iload 6, 2) := by decide +kernel
theorem dX10_findOutcomes_135 : decode cX10_findOutcomes 135 = .ok (.ishl, 1) := by decide +kernel
theorem dX10_findOutcomes_136 : decode cX10_findOutcomes 136 = .ok (.iastore, 1) := by decide +kernel
theorem dX10_findOutcomes_137 : decode cX10_findOutcomes 137 = .ok (.iinc 5 1, 3) := by decide +kernel
theorem dX10_findOutcomes_140 : decode cX10_findOutcomes 140 = .ok (.goto (-87), 3) := by decide +kernel
theorem dX10_findOutcomes_143 : decode cX10_findOutcomes 143 = .ok (.aload_n 0, 1) := by decide +kernel
theorem dX10_findOutcomes_144 : decode cX10_findOutcomes 144 = .ok (.iconst 0, 1) := by decide +kernel
theorem dX10_findOutcomes_145 : decode cX10_findOutcomes 145 = .ok (.putfield 79, 3) := by decide +kernel
theorem dX10_findOutcomes_148 : decode cX10_findOutcomes 148 = .ok (.iload 4, 2) := by decide +kernel
theorem dX10_findOutcomes_150 : decode cX10_findOutcomes 150 = .ok (.ireturn, 1) := by decide +kernel
theorem dX10_could_0 : decode cX10_could 0 = .ok (.aload_n 0, 1) := by decide +kernel
theorem dX10_could_1 : decode cX10_could 1 = .ok (.iload_n 1, 1) := by decide +kernel
theorem dX10_could_2 : decode cX10_could 2 = .ok (.iload_n 2, 1) := by decide +kernel
theorem dX10_could_3 : decode cX10_could 3 = .ok (.iload_n 3, 1) := by decide +kernel
theorem dX10_could_4 : decode cX10_could 4 = .ok (.invokevirtual 92, 3) := by decide +kernel
theorem dX10_could_7 : decode cX10_could 7 = .ok (.ifCond .ne 10, 3) := by decide +kernel
theorem dX10_could_10 : decode cX10_could 10 = .ok (.aload_n 0, 1) := by decide +kernel
theorem dX10_could_11 : decode cX10_could 11 = .ok (.ldc 45, 2) := by decide +kernel
theorem dX10_could_13 : decode cX10_could 13 = .ok (.invokevirtual 46, 3) := by decide +kernel
theorem dX10_could_16 : decode cX10_could 16 = .ok (.ireturn, 1) := by decide +kernel
theorem dX10_could_17 : decode cX10_could 17 = .ok (.aload_n 0, 1) := by decide +kernel
theorem dX10_could_18 : decode cX10_could 18 = .ok (.iload_n 1, 1) := by decide +kernel
theorem dX10_could_19 : decode cX10_could 19 = .ok (.iload_n 2, 1) := by decide +kernel
theorem dX10_could_20 : decode cX10_could 20 = .ok (.iload_n 3, 1) := by decide +kernel
theorem dX10_could_21 : decode cX10_could 21 = .ok (.invokevirtual 98, 3) := by decide +kernel
theorem dX10_could_24 : decode cX10_could 24 = .ok (.istore 4, 2) := by decide +kernel
theorem dX10_could_26 : decode cX10_could 26 = .ok (.iconst 0, 1) := by decide +kernel
theorem dX10_could_27 : decode cX10_could 27 = .ok (.istore 5, 2) := by decide +kernel
theorem dX10_could_29 : decode cX10_could 29 = .ok (.iconst 0, 1) := by decide +kernel
theorem dX10_could_30 : decode cX10_could 30 = .ok (.istore 6, 2) := by decide +kernel
theorem dX10_could_32 : decode cX10_could 32 = .ok (.iload 6, 2) := by decide +kernel
theorem dX10_could_34 : decode cX10_could 34 = .ok (.iconst 1, 1) := by decide +kernel
theorem dX10_could_35 : decode cX10_could 35 = .ok (.iload 4, 2) := by decide +kernel
theorem dX10_could_37 : decode cX10_could 37 = .ok (.ishl, 1) := by decide +kernel
theorem dX10_could_38 : decode cX10_could 38 = .ok (.if_icmp .ge 21, 3) := by decide +kernel
theorem dX10_could_41 : decode cX10_could 41 = .ok (.iload 5, 2) := by decide +kernel
theorem dX10_could_43 : decode cX10_could 43 = .ok (.aload_n 0, 1) := by decide +kernel
theorem dX10_could_44 : decode cX10_could 44 = .ok (.getfield 31, 3) := by decide +kernel
theorem dX10_could_47 : decode cX10_could 47 = .ok (.iload 6, 2) := by decide +kernel
theorem dX10_could_49 : decode cX10_could 49 = .ok (.iaload, 1) := by decide +kernel
theorem dX10_could_50 : decode cX10_could 50 = .ok (.ior, 1) := by decide +kernel
theorem dX10_could_51 : decode cX10_could 51 = .ok (.istore 5, 2) := by decide +kernel
theorem dX10_could_53 : decode cX10_could 53 = .ok (.iinc 6 1, 3) := by decide +kernel
theorem dX10_could_56 : decode cX10_could 56 = .ok (.goto (-24), 3) := by decide +kernel
theorem dX10_could_59 : decode cX10_could 59 = .ok (.iload 5, 2) := by decide +kernel
theorem dX10_could_61 : decode cX10_could 61 = .ok (.ireturn, 1) := by decide +kernel
theorem dX10_many_0 : decode cX10_many 0 = .ok (.iconst 0, 1) := by decide +kernel
theorem dX10_many_1 : decode cX10_many 1 = .ok (.istore_n 1, 1) := by decide +kernel
theorem dX10_many_2 : decode cX10_many 2 = .ok (.iconst 0, 1) := by decide +kernel
theorem dX10_many_3 : decode cX10_many 3 = .ok (.istore_n 2, 1) := by decide +kernel
theorem dX10_many_4 : decode cX10_many 4 = .ok (.iload_n 2, 1) := by decide +kernel
theorem dX10_many_5 : decode cX10_many 5 = .ok (.bipush 7, 2) := by decide +kernel
theorem dX10_many_7 : decode cX10_many 7 = .ok (.if_icmp .ge 17, 3) := by decide +kernel
theorem dX10_many_10 : decode cX10_many 10 = .ok (.iload_n 1, 1) := by decide +kernel
theorem dX10_many_11 : decode cX10_many 11 = .ok (.iload_n 0, 1) := by decide +kernel
theorem dX10_many_12 : decode cX10_many 12 = .ok (.iload_n 2, 1) := by decide +kernel
theorem dX10_many_13 : decode cX10_many 13 = .ok (.ishr, 1) := by decide +kernel
theorem dX10_many_14 : decode cX10_many 14 = .ok (.iconst 1, 1) := by decide +kernel
theorem dX10_many_15 : decode cX10_many 15 = .ok (.iand, 1) := by decide +kernel
theorem dX10_many_16 : decode cX10_many 16 = .ok (.iadd, 1) := by decide +kernel
theorem dX10_many_17 : decode cX10_many 17 = .ok (.istore_n 1, 1) := by decide +kernel
theorem dX10_many_18 : decode cX10_many 18 = .ok (.iinc 2 1, 3) := by decide +kernel
theorem dX10_many_21 : decode cX10_many 21 = .ok (.goto (-17), 3) := by decide +kernel
theorem dX10_many_24 : decode cX10_many 24 = .ok (.iload_n 1, 1) := by decide +kernel
theorem dX10_many_25 : decode cX10_many 25 = .ok (.ireturn, 1) := by decide +kernel
theorem dX10_question_0 : decode cX10_question 0 = .ok (.aload_n 0, 1) := by decide +kernel
theorem dX10_question_1 : decode cX10_question 1 = .ok (.iload_n 1, 1) := by decide +kernel
theorem dX10_question_2 : decode cX10_question 2 = .ok (.iload_n 2, 1) := by decide +kernel
theorem dX10_question_3 : decode cX10_question 3 = .ok (.iload_n 3, 1) := by decide +kernel
theorem dX10_question_4 : decode cX10_question 4 = .ok (.invokevirtual 92, 3) := by decide +kernel
theorem dX10_question_7 : decode cX10_question 7 = .ok (.ifCond .ne 10, 3) := by decide +kernel
theorem dX10_question_10 : decode cX10_question 10 = .ok (.aload_n 0, 1) := by decide +kernel
theorem dX10_question_11 : decode cX10_question 11 = .ok (.ldc 45, 2) := by decide +kernel
theorem dX10_question_13 : decode cX10_question 13 = .ok (.invokevirtual 46, 3) := by decide +kernel
theorem dX10_question_16 : decode cX10_question 16 = .ok (.ireturn, 1) := by decide +kernel
theorem dX10_question_17 : decode cX10_question 17 = .ok (.aload_n 0, 1) := by decide +kernel
theorem dX10_question_18 : decode cX10_question 18 = .ok (.iload_n 1, 1) := by decide +kernel
theorem dX10_question_19 : decode cX10_question 19 = .ok (.iload_n 2, 1) := by decide +kernel
theorem dX10_question_20 : decode cX10_question 20 = .ok (.iload_n 3, 1) := by decide +kernel
theorem dX10_question_21 : decode cX10_question 21 = .ok (.invokevirtual 98, 3) := by decide +kernel
theorem dX10_question_24 : decode cX10_question 24 = .ok (.istore 4, 2) := by decide +kernel
theorem dX10_question_26 : decode cX10_question 26 = .ok (.iconst (-1), 1) := by decide +kernel
theorem dX10_question_27 : decode cX10_question 27 = .ok (.istore 5, 2) := by decide +kernel
theorem dX10_question_29 : decode cX10_question 29 = .ok (.bipush 100, 2) := by decide +kernel
theorem dX10_question_31 : decode cX10_question 31 = .ok (.istore 6, 2) := by decide +kernel
theorem dX10_question_33 : decode cX10_question 33 = .ok (.iconst 0, 1) := by decide +kernel
theorem dX10_question_34 : decode cX10_question 34 = .ok (.istore 7, 2) := by decide +kernel
theorem dX10_question_36 : decode cX10_question 36 = .ok (.iload 7, 2) := by decide +kernel
theorem dX10_question_38 : decode cX10_question 38 = .ok (.iload 4, 2) := by decide +kernel
theorem dX10_question_40 : decode cX10_question 40 = .ok (.if_icmp .ge 121, 3) := by decide +kernel
theorem dX10_question_43 : decode cX10_question 43 = .ok (.iconst 0, 1) := by decide +kernel
theorem dX10_question_44 : decode cX10_question 44 = .ok (.istore 8, 2) := by decide +kernel
theorem dX10_question_46 : decode cX10_question 46 = .ok (.iconst 0, 1) := by decide +kernel
theorem dX10_question_47 : decode cX10_question 47 = .ok (.istore 9, 2) := by decide +kernel
theorem dX10_question_49 : decode cX10_question 49 = .ok (.iconst 0, 1) := by decide +kernel
theorem dX10_question_50 : decode cX10_question 50 = .ok (.istore 10, 2) := by decide +kernel
theorem dX10_question_52 : decode cX10_question 52 = .ok (.iload 10, 2) := by decide +kernel
theorem dX10_question_54 : decode cX10_question 54 = .ok (.iconst 1, 1) := by decide +kernel
theorem dX10_question_55 : decode cX10_question 55 = .ok (.iload 4, 2) := by decide +kernel
theorem dX10_question_57 : decode cX10_question 57 = .ok (.ishl, 1) := by decide +kernel
theorem dX10_question_58 : decode cX10_question 58 = .ok (.if_icmp .ge 62, 3) := by decide +kernel
theorem dX10_question_61 : decode cX10_question 61 = .ok (.iload 8, 2) := by decide +kernel
theorem dX10_question_63 : decode cX10_question 63 = .ok (.iload 10, 2) := by decide +kernel
theorem dX10_question_65 : decode cX10_question 65 = .ok (.iload 7, 2) := by decide +kernel
theorem dX10_question_67 : decode cX10_question 67 = .ok (.ishr, 1) := by decide +kernel
theorem dX10_question_68 : decode cX10_question 68 = .ok (.iconst 1, 1) := by decide +kernel
theorem dX10_question_69 : decode cX10_question 69 = .ok (.iand, 1) := by decide +kernel
theorem dX10_question_70 : decode cX10_question 70 = .ok (.ifCond .ne 13, 3) := by decide +kernel
theorem dX10_question_73 : decode cX10_question 73 = .ok (.aload_n 0, 1) := by decide +kernel
theorem dX10_question_74 : decode cX10_question 74 = .ok (.getfield 31, 3) := by decide +kernel
theorem dX10_question_77 : decode cX10_question 77 = .ok (.iload 10, 2) := by decide +kernel
theorem dX10_question_79 : decode cX10_question 79 = .ok (.iaload, 1) := by decide +kernel
theorem dX10_question_80 : decode cX10_question 80 = .ok (.goto 4, 3) := by decide +kernel
theorem dX10_question_83 : decode cX10_question 83 = .ok (.iconst 0, 1) := by decide +kernel
theorem dX10_question_84 : decode cX10_question 84 = .ok (.ior, 1) := by decide +kernel
theorem dX10_question_85 : decode cX10_question 85 = .ok (.istore 8, 2) := by decide +kernel
theorem dX10_question_87 : decode cX10_question 87 = .ok (.iload 9, 2) := by decide +kernel
theorem dX10_question_89 : decode cX10_question 89 = .ok (.iload 10, 2) := by decide +kernel
theorem dX10_question_91 : decode cX10_question 91 = .ok (.iload 7, 2) := by decide +kernel
theorem dX10_question_93 : decode cX10_question 93 = .ok (.ishr, 1) := by decide +kernel
theorem dX10_question_94 : decode cX10_question 94 = .ok (.iconst 1, 1) := by decide +kernel
theorem dX10_question_95 : decode cX10_question 95 = .ok (.iand, 1) := by decide +kernel
theorem dX10_question_96 : decode cX10_question 96 = .ok (.iconst 1, 1) := by decide +kernel
theorem dX10_question_97 : decode cX10_question 97 = .ok (.if_icmp .ne 13, 3) := by decide +kernel
theorem dX10_question_100 : decode cX10_question 100 = .ok (.aload_n 0, 1) := by decide +kernel
theorem dX10_question_101 : decode cX10_question 101 = .ok (.getfield 31, 3) := by decide +kernel
theorem dX10_question_104 : decode cX10_question 104 = .ok (.iload 10, 2) := by decide +kernel
theorem dX10_question_106 : decode cX10_question 106 = .ok (.iaload, 1) := by decide +kernel
theorem dX10_question_107 : decode cX10_question 107 = .ok (.goto 4, 3) := by decide +kernel
theorem dX10_question_110 : decode cX10_question 110 = .ok (.iconst 0, 1) := by decide +kernel
theorem dX10_question_111 : decode cX10_question 111 = .ok (.ior, 1) := by decide +kernel
theorem dX10_question_112 : decode cX10_question 112 = .ok (.istore 9, 2) := by decide +kernel
theorem dX10_question_114 : decode cX10_question 114 = .ok (.iinc 10 1, 3) := by decide +kernel
theorem dX10_question_117 : decode cX10_question 117 = .ok (.goto (-65), 3) := by decide +kernel
theorem dX10_question_120 : decode cX10_question 120 = .ok (.iload 8, 2) := by decide +kernel
theorem dX10_question_122 : decode cX10_question 122 = .ok (.invokestatic 101, 3) := by decide +kernel
theorem dX10_question_125 : decode cX10_question 125 = .ok (.iload 9, 2) := by decide +kernel
theorem dX10_question_127 : decode cX10_question 127 = .ok (.invokestatic 101, 3) := by decide +kernel
theorem dX10_question_130 : decode cX10_question 130 = .ok (.invokestatic 104, 3) := by decide +kernel
theorem dX10_question_133 : decode cX10_question 133 = .ok (.istore 10, 2) := by decide +kernel
theorem dX10_question_135 : decode cX10_question 135 = .ok (.iload 10, 2) := by decide +kernel
theorem dX10_question_137 : decode cX10_question 137 = .ok (.iload 6, 2) := by decide +kernel
theorem dX10_question_139 : decode cX10_question 139 = .ok (.if_icmp .ge 16, 3) := by decide +kernel
theorem dX10_question_142 : decode cX10_question 142 = .ok (.iload 10, 2) := by decide +kernel
theorem dX10_question_144 : decode cX10_question 144 = .ok (.istore 6, 2) := by decide +kernel
theorem dX10_question_146 : decode cX10_question 146 = .ok (.aload_n 0, 1) := by decide +kernel
theorem dX10_question_147 : decode cX10_question 147 = .ok (.getfield 28, 3) := by decide +kernel
theorem dX10_question_150 : decode cX10_question 150 = .ok (.iload 7, 2) := by decide +kernel
theorem dX10_question_152 : decode cX10_question 152 = .ok (.iaload, 1) := by decide +kernel
theorem dX10_question_153 : decode cX10_question 153 = .ok (.istore 5, 2) := by decide +kernel
theorem dX10_question_155 : decode cX10_question 155 = .ok (.iinc 7 1, 3) := by decide +kernel
theorem dX10_question_158 : decode cX10_question 158 = .ok (.goto (-122), 3) := by decide +kernel
theorem dX10_question_161 : decode cX10_question 161 = .ok (.iload 5, 2) := by decide +kernel
theorem dX10_question_163 : decode cX10_question 163 = .ok (.ifCond .ge 12, 3) := by decide +kernel
theorem dX10_question_166 : decode cX10_question 166 = .ok (.aload_n 0, 1) := by decide +kernel
theorem dX10_question_167 : decode cX10_question 167 = .ok (.ldc 72, 2) := by decide +kernel
theorem dX10_question_169 : decode cX10_question 169 = .ok (.invokevirtual 46, 3) := by decide +kernel
theorem dX10_question_172 : decode cX10_question 172 = .ok (.goto 5, 3) := by decide +kernel
theorem dX10_question_175 : decode cX10_question 175 = .ok (.iload 5, 2) := by decide +kernel
theorem dX10_question_177 : decode cX10_question 177 = .ok (.ireturn, 1) := by decide +kernel
theorem dX10_order_0 : decode cX10_order 0 = .ok (.aload_n 0, 1) := by decide +kernel
theorem dX10_order_1 : decode cX10_order 1 = .ok (.iload_n 1, 1) := by decide +kernel
theorem dX10_order_2 : decode cX10_order 2 = .ok (.invokevirtual 59, 3) := by decide +kernel
theorem dX10_order_5 : decode cX10_order 5 = .ok (.ifCond .eq 27, 3) := by decide +kernel
theorem dX10_order_8 : decode cX10_order 8 = .ok (.aload_n 0, 1) := by decide +kernel
theorem dX10_order_9 : decode cX10_order 9 = .ok (.iload_n 2, 1) := by decide +kernel
theorem dX10_order_10 : decode cX10_order 10 = .ok (.invokevirtual 51, 3) := by decide +kernel
theorem dX10_order_13 : decode cX10_order 13 = .ok (.ifCond .eq 19, 3) := by decide +kernel
theorem dX10_order_16 : decode cX10_order 16 = .ok (.aload_n 0, 1) := by decide +kernel
theorem dX10_order_17 : decode cX10_order 17 = .ok (.iload_n 3, 1) := by decide +kernel
theorem dX10_order_18 : decode cX10_order 18 = .ok (.invokevirtual 51, 3) := by decide +kernel
theorem dX10_order_21 : decode cX10_order 21 = .ok (.ifCond .eq 11, 3) := by decide +kernel
theorem dX10_order_24 : decode cX10_order 24 = .ok (.iload 4, 2) := by decide +kernel
theorem dX10_order_26 : decode cX10_order 26 = .ok (.invokestatic 56, 3) := by decide +kernel
theorem dX10_order_29 : decode cX10_order 29 = .ok (.ifCond .ne 10, 3) := by decide +kernel
theorem dX10_order_32 : decode cX10_order 32 = .ok (.aload_n 0, 1) := by decide +kernel
theorem dX10_order_33 : decode cX10_order 33 = .ok (.ldc 45, 2) := by decide +kernel
theorem dX10_order_35 : decode cX10_order 35 = .ok (.invokevirtual 46, 3) := by decide +kernel
theorem dX10_order_38 : decode cX10_order 38 = .ok (.ireturn, 1) := by decide +kernel
theorem dX10_order_39 : decode cX10_order 39 = .ok (.iload_n 2, 1) := by decide +kernel
theorem dX10_order_40 : decode cX10_order 40 = .ok (.iload_n 3, 1) := by decide +kernel
theorem dX10_order_41 : decode cX10_order 41 = .ok (.if_icmp .ne 10, 3) := by decide +kernel
theorem dX10_order_44 : decode cX10_order 44 = .ok (.aload_n 0, 1) := by decide +kernel
theorem dX10_order_45 : decode cX10_order 45 = .ok (.ldc 55, 2) := by decide +kernel
theorem dX10_order_47 : decode cX10_order 47 = .ok (.invokevirtual 46, 3) := by decide +kernel
theorem dX10_order_50 : decode cX10_order 50 = .ok (.ireturn, 1) := by decide +kernel
theorem dX10_order_51 : decode cX10_order 51 = .ok (.aload_n 0, 1) := by decide +kernel
theorem dX10_order_52 : decode cX10_order 52 = .ok (.getfield 9, 3) := by decide +kernel
theorem dX10_order_55 : decode cX10_order 55 = .ok (.iconst 4, 1) := by decide +kernel
theorem dX10_order_56 : decode cX10_order 56 = .ok (.iaload, 1) := by decide +kernel
theorem dX10_order_57 : decode cX10_order 57 = .ok (.istore 5, 2) := by decide +kernel
theorem dX10_order_59 : decode cX10_order 59 = .ok (.iload 5, 2) := by decide +kernel
theorem dX10_order_61 : decode cX10_order 61 = .ok (.bipush 20, 2) := by decide +kernel
theorem dX10_order_63 : decode cX10_order 63 = .ok (.if_icmp .ne 10, 3) := by decide +kernel
theorem dX10_order_66 : decode cX10_order 66 = .ok (.aload_n 0, 1) := by decide +kernel
theorem dX10_order_67 : decode cX10_order 67 = .ok (.ldc 50, 2) := by decide +kernel
theorem dX10_order_69 : decode cX10_order 69 = .ok (.invokevirtual 46, 3) := by decide +kernel
theorem dX10_order_72 : decode cX10_order 72 = .ok (.ireturn, 1) := by decide +kernel
theorem dX10_order_73 : decode cX10_order 73 = .ok (.aload_n 0, 1) := by decide +kernel
theorem dX10_order_74 : decode cX10_order 74 = .ok (.getfield 9, 3) := by decide +kernel
theorem dX10_order_77 : decode cX10_order 77 = .ok (.sipush 369, 3) := by decide +kernel
theorem dX10_order_80 : decode cX10_order 80 = .ok (.iload 5, 2) := by decide +kernel
theorem dX10_order_82 : decode cX10_order 82 = .ok (.iadd, 1) := by decide +kernel
theorem dX10_order_83 : decode cX10_order 83 = .ok (.iload_n 1, 1) := by decide +kernel
theorem dX10_order_84 : decode cX10_order 84 = .ok (.iastore, 1) := by decide +kernel
theorem dX10_order_85 : decode cX10_order 85 = .ok (.aload_n 0, 1) := by decide +kernel
theorem dX10_order_86 : decode cX10_order 86 = .ok (.getfield 9, 3) := by decide +kernel
theorem dX10_order_89 : decode cX10_order 89 = .ok (.sipush 389, 3) := by decide +kernel
theorem dX10_order_92 : decode cX10_order 92 = .ok (.iload 5, 2) := by decide +kernel
theorem dX10_order_94 : decode cX10_order 94 = .ok (.iadd, 1) := by decide +kernel
theorem dX10_order_95 : decode cX10_order 95 = .ok (.iload_n 2, 1) := by decide +kernel
theorem dX10_order_96 : decode cX10_order 96 = .ok (.iastore, 1) := by decide +kernel
theorem dX10_order_97 : decode cX10_order 97 = .ok (.aload_n 0, 1) := by decide +kernel
theorem dX10_order_98 : decode cX10_order 98 = .ok (.getfield 9, 3) := by decide +kernel
theorem dX10_order_101 : decode cX10_order 101 = .ok (.sipush 409, 3) := by decide +kernel
theorem dX10_order_104 : decode cX10_order 104 = .ok (.iload 5, 2) := by decide +kernel
theorem dX10_order_106 : decode cX10_order 106 = .ok (.iadd, 1) := by decide +kernel
theorem dX10_order_107 : decode cX10_order 107 = .ok (.iload_n 3, 1) := by decide +kernel
theorem dX10_order_108 : decode cX10_order 108 = .ok (.iastore, 1) := by decide +kernel
theorem dX10_order_109 : decode cX10_order 109 = .ok (.aload_n 0, 1) := by decide +kernel
theorem dX10_order_110 : decode cX10_order 110 = .ok (.getfield 9, 3) := by decide +kernel
theorem dX10_order_113 : decode cX10_order 113 = .ok (.sipush 429, 3) := by decide +kernel
theorem dX10_order_116 : decode cX10_order 116 = .ok (.iload 5, 2) := by decide +kernel
theorem dX10_order_118 : decode cX10_order 118 = .ok (.iadd, 1) := by decide +kernel
theorem dX10_order_119 : decode cX10_order 119 = .ok (.iload 4, 2) := by decide +kernel
theorem dX10_order_121 : decode cX10_order 121 = .ok (.iastore, 1) := by decide +kernel
theorem dX10_order_122 : decode cX10_order 122 = .ok (.aload_n 0, 1) := by decide +kernel
theorem dX10_order_123 : decode cX10_order 123 = .ok (.getfield 9, 3) := by decide +kernel
theorem dX10_order_126 : decode cX10_order 126 = .ok (.sipush 449, 3) := by decide +kernel
theorem dX10_order_129 : decode cX10_order 129 = .ok (.iload 5, 2) := by decide +kernel
theorem dX10_order_131 : decode cX10_order 131 = .ok (.iadd, 1) := by decide +kernel
theorem dX10_order_132 : decode cX10_order 132 = .ok (.iconst 4, 1) := by decide +kernel
theorem dX10_order_133 : decode cX10_order 133 = .ok (.aload_n 0, 1) := by decide +kernel
theorem dX10_order_134 : decode cX10_order 134 = .ok (.getfield 9, 3) := by decide +kernel
theorem dX10_order_137 : decode cX10_order 137 = .ok (.bipush 13, 2) := by decide +kernel
theorem dX10_order_139 : decode cX10_order 139 = .ok (.bipush 6, 2) := by decide +kernel
theorem dX10_order_141 : decode cX10_order 141 = .ok (.iload_n 2, 1) := by decide +kernel
theorem dX10_order_142 : decode cX10_order 142 = .ok (.imul, 1) := by decide +kernel
theorem dX10_order_143 : decode cX10_order 143 = .ok (.iadd, 1) := by decide +kernel
theorem dX10_order_144 : decode cX10_order 144 = .ok (.iload_n 3, 1) := by decide +kernel
theorem dX10_order_145 : decode cX10_order 145 = .ok (.iadd, 1) := by decide +kernel
theorem dX10_order_146 : decode cX10_order 146 = .ok (.iaload, 1) := by decide +kernel
theorem dX10_order_147 : decode cX10_order 147 = .ok (.imul, 1) := by decide +kernel
theorem dX10_order_148 : decode cX10_order 148 = .ok (.iastore, 1) := by decide +kernel
theorem dX10_order_149 : decode cX10_order 149 = .ok (.aload_n 0, 1) := by decide +kernel
theorem dX10_order_150 : decode cX10_order 150 = .ok (.getfield 9, 3) := by decide +kernel
theorem dX10_order_153 : decode cX10_order 153 = .ok (.sipush 469, 3) := by decide +kernel
theorem dX10_order_156 : decode cX10_order 156 = .ok (.iload 5, 2) := by decide +kernel
theorem dX10_order_158 : decode cX10_order 158 = .ok (.iadd, 1) := by decide +kernel
theorem dX10_order_159 : decode cX10_order 159 = .ok (.iconst 0, 1) := by decide +kernel
theorem dX10_order_160 : decode cX10_order 160 = .ok (.iastore, 1) := by decide +kernel
theorem dX10_order_161 : decode cX10_order 161 = .ok (.aload_n 0, 1) := by decide +kernel
theorem dX10_order_162 : decode cX10_order 162 = .ok (.getfield 9, 3) := by decide +kernel
theorem dX10_order_165 : decode cX10_order 165 = .ok (.iconst 4, 1) := by decide +kernel
theorem dX10_order_166 : decode cX10_order 166 = .ok (.dup2, 1) := by decide +kernel
theorem dX10_order_167 : decode cX10_order 167 = .ok (.iaload, 1) := by decide +kernel
theorem dX10_order_168 : decode cX10_order 168 = .ok (.iconst 1, 1) := by decide +kernel
theorem dX10_order_169 : decode cX10_order 169 = .ok (.iadd, 1) := by decide +kernel
theorem dX10_order_170 : decode cX10_order 170 = .ok (.iastore, 1) := by decide +kernel
theorem dX10_order_171 : decode cX10_order 171 = .ok (.iload 5, 2) := by decide +kernel
theorem dX10_order_173 : decode cX10_order 173 = .ok (.ireturn, 1) := by decide +kernel
theorem dX10_isOrder_0 : decode cX10_isOrder 0 = .ok (.iload_n 1, 1) := by decide +kernel
theorem dX10_isOrder_1 : decode cX10_isOrder 1 = .ok (.iconst 0, 1) := by decide +kernel
theorem dX10_isOrder_2 : decode cX10_isOrder 2 = .ok (.aload_n 0, 1) := by decide +kernel
theorem dX10_isOrder_3 : decode cX10_isOrder 3 = .ok (.getfield 9, 3) := by decide +kernel
theorem dX10_isOrder_6 : decode cX10_isOrder 6 = .ok (.iconst 4, 1) := by decide +kernel
theorem dX10_isOrder_7 : decode cX10_isOrder 7 = .ok (.iaload, 1) := by decide +kernel
theorem dX10_isOrder_8 : decode cX10_isOrder 8 = .ok (.iconst 1, 1) := by decide +kernel
theorem dX10_isOrder_9 : decode cX10_isOrder 9 = .ok (.isub, 1) := by decide +kernel
theorem dX10_isOrder_10 : decode cX10_isOrder 10 = .ok (.invokestatic 41, 3) := by decide +kernel
theorem dX10_isOrder_13 : decode cX10_isOrder 13 = .ok (.ireturn, 1) := by decide +kernel
theorem dX10_appeal_0 : decode cX10_appeal 0 = .ok (.aload_n 0, 1) := by decide +kernel
theorem dX10_appeal_1 : decode cX10_appeal 1 = .ok (.iload_n 1, 1) := by decide +kernel
theorem dX10_appeal_2 : decode cX10_appeal 2 = .ok (.invokevirtual 110, 3) := by decide +kernel
theorem dX10_appeal_5 : decode cX10_appeal 5 = .ok (.ifCond .eq 10, 3) := by decide +kernel
theorem dX10_appeal_8 : decode cX10_appeal 8 = .ok (.iload_n 2, 1) := by decide +kernel
theorem dX10_appeal_9 : decode cX10_appeal 9 = .ok (.invokestatic 56, 3) := by decide +kernel
theorem dX10_appeal_12 : decode cX10_appeal 12 = .ok (.ifCond .ne 10, 3) := by decide +kernel
theorem dX10_appeal_15 : decode cX10_appeal 15 = .ok (.aload_n 0, 1) := by decide +kernel
theorem dX10_appeal_16 : decode cX10_appeal 16 = .ok (.ldc 45, 2) := by decide +kernel
theorem dX10_appeal_18 : decode cX10_appeal 18 = .ok (.invokevirtual 46, 3) := by decide +kernel
theorem dX10_appeal_21 : decode cX10_appeal 21 = .ok (.ireturn, 1) := by decide +kernel
theorem dX10_appeal_22 : decode cX10_appeal 22 = .ok (.aload_n 0, 1) := by decide +kernel
theorem dX10_appeal_23 : decode cX10_appeal 23 = .ok (.getfield 9, 3) := by decide +kernel
theorem dX10_appeal_26 : decode cX10_appeal 26 = .ok (.sipush 469, 3) := by decide +kernel
theorem dX10_appeal_29 : decode cX10_appeal 29 = .ok (.iload_n 1, 1) := by decide +kernel
theorem dX10_appeal_30 : decode cX10_appeal 30 = .ok (.iadd, 1) := by decide +kernel
theorem dX10_appeal_31 : decode cX10_appeal 31 = .ok (.iaload, 1) := by decide +kernel
theorem dX10_appeal_32 : decode cX10_appeal 32 = .ok (.ifCond .eq 10, 3) := by decide +kernel
theorem dX10_appeal_35 : decode cX10_appeal 35 = .ok (.aload_n 0, 1) := by decide +kernel
theorem dX10_appeal_36 : decode cX10_appeal 36 = .ok (.ldc 62, 2) := by decide +kernel
theorem dX10_appeal_38 : decode cX10_appeal 38 = .ok (.invokevirtual 46, 3) := by decide +kernel
theorem dX10_appeal_41 : decode cX10_appeal 41 = .ok (.ireturn, 1) := by decide +kernel
theorem dX10_appeal_42 : decode cX10_appeal 42 = .ok (.aload_n 0, 1) := by decide +kernel
theorem dX10_appeal_43 : decode cX10_appeal 43 = .ok (.getfield 9, 3) := by decide +kernel
theorem dX10_appeal_46 : decode cX10_appeal 46 = .ok (.sipush 429, 3) := by decide +kernel
theorem dX10_appeal_49 : decode cX10_appeal 49 = .ok (.iload_n 1, 1) := by decide +kernel
theorem dX10_appeal_50 : decode cX10_appeal 50 = .ok (.iadd, 1) := by decide +kernel
theorem dX10_appeal_51 : decode cX10_appeal 51 = .ok (.iaload, 1) := by decide +kernel
theorem dX10_appeal_52 : decode cX10_appeal 52 = .ok (.istore_n 3, 1) := by decide +kernel
theorem dX10_appeal_53 : decode cX10_appeal 53 = .ok (.iload_n 2, 1) := by decide +kernel
theorem dX10_appeal_54 : decode cX10_appeal 54 = .ok (.iload_n 3, 1) := by decide +kernel
theorem dX10_appeal_55 : decode cX10_appeal 55 = .ok (.if_icmp .lt 15, 3) := by decide +kernel
theorem dX10_appeal_58 : decode cX10_appeal 58 = .ok (.iload_n 2, 1) := by decide +kernel
theorem dX10_appeal_59 : decode cX10_appeal 59 = .ok (.iload_n 3, 1) := by decide +kernel
theorem dX10_appeal_60 : decode cX10_appeal 60 = .ok (.aload_n 0, 1) := by decide +kernel
theorem dX10_appeal_61 : decode cX10_appeal 61 = .ok (.getfield 9, 3) := by decide +kernel
theorem dX10_appeal_64 : decode cX10_appeal 64 = .ok (.iconst 5, 1) := by decide +kernel
theorem dX10_appeal_65 : decode cX10_appeal 65 = .ok (.iaload, 1) := by decide +kernel
theorem dX10_appeal_66 : decode cX10_appeal 66 = .ok (.iadd, 1) := by decide +kernel
theorem dX10_appeal_67 : decode cX10_appeal 67 = .ok (.if_icmp .le 10, 3) := by decide +kernel
theorem dX10_appeal_70 : decode cX10_appeal 70 = .ok (.aload_n 0, 1) := by decide +kernel
theorem dX10_appeal_71 : decode cX10_appeal 71 = .ok (.ldc 113, 2) := by decide +kernel
theorem dX10_appeal_73 : decode cX10_appeal 73 = .ok (.invokevirtual 46, 3) := by decide +kernel
theorem dX10_appeal_76 : decode cX10_appeal 76 = .ok (.ireturn, 1) := by decide +kernel
theorem dX10_appeal_77 : decode cX10_appeal 77 = .ok (.aload_n 0, 1) := by decide +kernel
theorem dX10_appeal_78 : decode cX10_appeal 78 = .ok (.iconst 0, 1) := by decide +kernel
theorem dX10_appeal_79 : decode cX10_appeal 79 = .ok (.putfield 79, 3) := by decide +kernel
theorem dX10_appeal_82 : decode cX10_appeal 82 = .ok (.aload_n 0, 1) := by decide +kernel
theorem dX10_appeal_83 : decode cX10_appeal 83 = .ok (.aload_n 0, 1) := by decide +kernel
theorem dX10_appeal_84 : decode cX10_appeal 84 = .ok (.getfield 9, 3) := by decide +kernel
theorem dX10_appeal_87 : decode cX10_appeal 87 = .ok (.sipush 369, 3) := by decide +kernel
theorem dX10_appeal_90 : decode cX10_appeal 90 = .ok (.iload_n 1, 1) := by decide +kernel
theorem dX10_appeal_91 : decode cX10_appeal 91 = .ok (.iadd, 1) := by decide +kernel
theorem dX10_appeal_92 : decode cX10_appeal 92 = .ok (.iaload, 1) := by decide +kernel
theorem dX10_appeal_93 : decode cX10_appeal 93 = .ok (.iload_n 3, 1) := by decide +kernel
theorem dX10_appeal_94 : decode cX10_appeal 94 = .ok (.iload_n 2, 1) := by decide +kernel
theorem dX10_appeal_95 : decode cX10_appeal 95 = .ok (.invokevirtual 95, 3) := by decide +kernel
theorem dX10_appeal_98 : decode cX10_appeal 98 = .ok (.aload_n 0, 1) := by decide +kernel
theorem dX10_appeal_99 : decode cX10_appeal 99 = .ok (.getfield 9, 3) := by decide +kernel
theorem dX10_appeal_102 : decode cX10_appeal 102 = .ok (.sipush 409, 3) := by decide +kernel
theorem dX10_appeal_105 : decode cX10_appeal 105 = .ok (.iload_n 1, 1) := by decide +kernel
theorem dX10_appeal_106 : decode cX10_appeal 106 = .ok (.iadd, 1) := by decide +kernel
theorem dX10_appeal_107 : decode cX10_appeal 107 = .ok (.iaload, 1) := by decide +kernel
theorem dX10_appeal_108 : decode cX10_appeal 108 = .ok (.if_icmp .ne 7, 3) := by decide +kernel
theorem dX10_appeal_111 : decode cX10_appeal 111 = .ok (.iconst 1, 1) := by decide +kernel
theorem dX10_appeal_112 : decode cX10_appeal 112 = .ok (.goto 4, 3) := by decide +kernel
theorem dX10_appeal_115 : decode cX10_appeal 115 = .ok (.iconst 0, 1) := by decide +kernel
theorem dX10_appeal_116 : decode cX10_appeal 116 = .ok (.istore 4, 2) := by decide +kernel
theorem dX10_appeal_118 : decode cX10_appeal 118 = .ok (.aload_n 0, 1) := by decide +kernel
theorem dX10_appeal_119 : decode cX10_appeal 119 = .ok (.getfield 9, 3) := by decide +kernel
theorem dX10_appeal_122 : decode cX10_appeal 122 = .ok (.sipush 469, 3) := by decide +kernel
theorem dX10_appeal_125 : decode cX10_appeal 125 = .ok (.iload_n 1, 1) := by decide +kernel
theorem dX10_appeal_126 : decode cX10_appeal 126 = .ok (.iadd, 1) := by decide +kernel
theorem dX10_appeal_127 : decode cX10_appeal 127 = .ok (.iload 4, 2) := by decide +kernel
theorem dX10_appeal_129 : decode cX10_appeal 129 = .ok (.ifCond .eq 7, 3) := by decide +kernel
theorem dX10_appeal_132 : decode cX10_appeal 132 = .ok (.iconst 1, 1) := by decide +kernel
theorem dX10_appeal_133 : decode cX10_appeal 133 = .ok (.goto 4, 3) := by decide +kernel
theorem dX10_appeal_136 : decode cX10_appeal 136 = .ok (.iconst 2, 1) := by decide +kernel
theorem dX10_appeal_137 : decode cX10_appeal 137 = .ok (.iastore, 1) := by decide +kernel
theorem dX10_appeal_138 : decode cX10_appeal 138 = .ok (.iload 4, 2) := by decide +kernel
theorem dX10_appeal_140 : decode cX10_appeal 140 = .ok (.ifCond .eq 7, 3) := by decide +kernel
theorem dX10_appeal_143 : decode cX10_appeal 143 = .ok (.iconst 0, 1) := by decide +kernel
theorem dX10_appeal_144 : decode cX10_appeal 144 = .ok (.goto 4, 3) := by decide +kernel
theorem dX10_appeal_147 : decode cX10_appeal 147 = .ok (.iconst 1, 1) := by decide +kernel
theorem dX10_appeal_148 : decode cX10_appeal 148 = .ok (.ireturn, 1) := by decide +kernel
theorem dX10_ordered_0 : decode cX10_ordered 0 = .ok (.aload_n 0, 1) := by decide +kernel
theorem dX10_ordered_1 : decode cX10_ordered 1 = .ok (.iload_n 1, 1) := by decide +kernel
theorem dX10_ordered_2 : decode cX10_ordered 2 = .ok (.invokevirtual 110, 3) := by decide +kernel
theorem dX10_ordered_5 : decode cX10_ordered 5 = .ok (.ifCond .eq 30, 3) := by decide +kernel
theorem dX10_ordered_8 : decode cX10_ordered 8 = .ok (.iload_n 2, 1) := by decide +kernel
theorem dX10_ordered_9 : decode cX10_ordered 9 = .ok (.iconst 0, 1) := by decide +kernel
theorem dX10_ordered_10 : decode cX10_ordered 10 = .ok (.iconst 5, 1) := by decide +kernel
theorem dX10_ordered_11 : decode cX10_ordered 11 = .ok (.invokestatic 41, 3) := by decide +kernel
theorem dX10_ordered_14 : decode cX10_ordered 14 = .ok (.ifCond .eq 21, 3) := by decide +kernel
theorem dX10_ordered_17 : decode cX10_ordered 17 = .ok (.aload_n 0, 1) := by decide +kernel
theorem dX10_ordered_18 : decode cX10_ordered 18 = .ok (.getfield 9, 3) := by decide +kernel
theorem dX10_ordered_21 : decode cX10_ordered 21 = .ok (.sipush 369, 3) := by decide +kernel
theorem dX10_ordered_24 : decode cX10_ordered 24 = .ok (.bipush 20, 2) := by decide +kernel
theorem dX10_ordered_26 : decode cX10_ordered 26 = .ok (.iload_n 2, 1) := by decide +kernel
theorem dX10_ordered_27 : decode cX10_ordered 27 = .ok (.imul, 1) := by decide +kernel
theorem dX10_ordered_28 : decode cX10_ordered 28 = .ok (.iadd, 1) := by decide +kernel
theorem dX10_ordered_29 : decode cX10_ordered 29 = .ok (.iload_n 1, 1) := by decide +kernel
theorem dX10_ordered_30 : decode cX10_ordered 30 = .ok (.iadd, 1) := by decide +kernel
theorem dX10_ordered_31 : decode cX10_ordered 31 = .ok (.iaload, 1) := by decide +kernel
theorem dX10_ordered_32 : decode cX10_ordered 32 = .ok (.goto 9, 3) := by decide +kernel
theorem dX10_ordered_35 : decode cX10_ordered 35 = .ok (.aload_n 0, 1) := by decide +kernel
theorem dX10_ordered_36 : decode cX10_ordered 36 = .ok (.ldc 45, 2) := by decide +kernel
theorem dX10_ordered_38 : decode cX10_ordered 38 = .ok (.invokevirtual 46, 3) := by decide +kernel
theorem dX10_ordered_41 : decode cX10_ordered 41 = .ok (.ireturn, 1) := by decide +kernel
theorem dX10_costs_0 : decode cX10_costs 0 = .ok (.aload_n 0, 1) := by decide +kernel
theorem dX10_costs_1 : decode cX10_costs 1 = .ok (.iload_n 1, 1) := by decide +kernel
theorem dX10_costs_2 : decode cX10_costs 2 = .ok (.invokevirtual 51, 3) := by decide +kernel
theorem dX10_costs_5 : decode cX10_costs 5 = .ok (.ifCond .ne 10, 3) := by decide +kernel
theorem dX10_costs_8 : decode cX10_costs 8 = .ok (.aload_n 0, 1) := by decide +kernel
theorem dX10_costs_9 : decode cX10_costs 9 = .ok (.ldc 45, 2) := by decide +kernel
theorem dX10_costs_11 : decode cX10_costs 11 = .ok (.invokevirtual 46, 3) := by decide +kernel
theorem dX10_costs_14 : decode cX10_costs 14 = .ok (.ireturn, 1) := by decide +kernel
theorem dX10_costs_15 : decode cX10_costs 15 = .ok (.iconst 0, 1) := by decide +kernel
theorem dX10_costs_16 : decode cX10_costs 16 = .ok (.istore_n 2, 1) := by decide +kernel
theorem dX10_costs_17 : decode cX10_costs 17 = .ok (.iconst 0, 1) := by decide +kernel
theorem dX10_costs_18 : decode cX10_costs 18 = .ok (.istore_n 3, 1) := by decide +kernel
theorem dX10_costs_19 : decode cX10_costs 19 = .ok (.iload_n 3, 1) := by decide +kernel
theorem dX10_costs_20 : decode cX10_costs 20 = .ok (.aload_n 0, 1) := by decide +kernel
theorem dX10_costs_21 : decode cX10_costs 21 = .ok (.getfield 9, 3) := by decide +kernel
theorem dX10_costs_24 : decode cX10_costs 24 = .ok (.iconst 4, 1) := by decide +kernel
theorem dX10_costs_25 : decode cX10_costs 25 = .ok (.iaload, 1) := by decide +kernel
theorem dX10_costs_26 : decode cX10_costs 26 = .ok (.if_icmp .ge 71, 3) := by decide +kernel
theorem dX10_costs_29 : decode cX10_costs 29 = .ok (.aload_n 0, 1) := by decide +kernel
theorem dX10_costs_30 : decode cX10_costs 30 = .ok (.getfield 9, 3) := by decide +kernel
theorem dX10_costs_33 : decode cX10_costs 33 = .ok (.sipush 469, 3) := by decide +kernel
theorem dX10_costs_36 : decode cX10_costs 36 = .ok (.iload_n 3, 1) := by decide +kernel
theorem dX10_costs_37 : decode cX10_costs 37 = .ok (.iadd, 1) := by decide +kernel
theorem dX10_costs_38 : decode cX10_costs 38 = .ok (.iaload, 1) := by decide +kernel
theorem dX10_costs_39 : decode cX10_costs 39 = .ok (.iconst 2, 1) := by decide +kernel
theorem dX10_costs_40 : decode cX10_costs 40 = .ok (.if_icmp .ne 16, 3) := by decide +kernel
theorem dX10_costs_43 : decode cX10_costs 43 = .ok (.aload_n 0, 1) := by decide +kernel
theorem dX10_costs_44 : decode cX10_costs 44 = .ok (.getfield 9, 3) := by decide +kernel
theorem dX10_costs_47 : decode cX10_costs 47 = .ok (.sipush 389, 3) := by decide +kernel
theorem dX10_costs_50 : decode cX10_costs 50 = .ok (.iload_n 3, 1) := by decide +kernel
theorem dX10_costs_51 : decode cX10_costs 51 = .ok (.iadd, 1) := by decide +kernel
theorem dX10_costs_52 : decode cX10_costs 52 = .ok (.iaload, 1) := by decide +kernel
theorem dX10_costs_53 : decode cX10_costs 53 = .ok (.goto 13, 3) := by decide +kernel
theorem dX10_costs_56 : decode cX10_costs 56 = .ok (.aload_n 0, 1) := by decide +kernel
theorem dX10_costs_57 : decode cX10_costs 57 = .ok (.getfield 9, 3) := by decide +kernel
theorem dX10_costs_60 : decode cX10_costs 60 = .ok (.sipush 409, 3) := by decide +kernel
theorem dX10_costs_63 : decode cX10_costs 63 = .ok (.iload_n 3, 1) := by decide +kernel
theorem dX10_costs_64 : decode cX10_costs 64 = .ok (.iadd, 1) := by decide +kernel
theorem dX10_costs_65 : decode cX10_costs 65 = .ok (.iaload, 1) := by decide +kernel
theorem dX10_costs_66 : decode cX10_costs 66 = .ok (.istore 4, 2) := by decide +kernel
theorem dX10_costs_68 : decode cX10_costs 68 = .ok (.iload_n 2, 1) := by decide +kernel
theorem dX10_costs_69 : decode cX10_costs 69 = .ok (.iload 4, 2) := by decide +kernel
theorem dX10_costs_71 : decode cX10_costs 71 = .ok (.iload_n 1, 1) := by decide +kernel
theorem dX10_costs_72 : decode cX10_costs 72 = .ok (.if_icmp .ne 16, 3) := by decide +kernel
theorem dX10_costs_75 : decode cX10_costs 75 = .ok (.aload_n 0, 1) := by decide +kernel
theorem dX10_costs_76 : decode cX10_costs 76 = .ok (.getfield 9, 3) := by decide +kernel
theorem dX10_costs_79 : decode cX10_costs 79 = .ok (.sipush 449, 3) := by decide +kernel
theorem dX10_costs_82 : decode cX10_costs 82 = .ok (.iload_n 3, 1) := by decide +kernel
theorem dX10_costs_83 : decode cX10_costs 83 = .ok (.iadd, 1) := by decide +kernel
theorem dX10_costs_84 : decode cX10_costs 84 = .ok (.iaload, 1) := by decide +kernel
theorem dX10_costs_85 : decode cX10_costs 85 = .ok (.goto 4, 3) := by decide +kernel
theorem dX10_costs_88 : decode cX10_costs 88 = .ok (.iconst 0, 1) := by decide +kernel
theorem dX10_costs_89 : decode cX10_costs 89 = .ok (.iadd, 1) := by decide +kernel
