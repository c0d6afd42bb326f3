theorem dX9_as_30 : decode cX9_as 30 = .ok (.aload_n 0, 1) := by decide +kernel
theorem dX9_as_31 : decode cX9_as 31 = .ok (.getfield 10, 3) := by decide +kernel
theorem dX9_as_34 : decode cX9_as 34 = .ok (.getfield 77, 3) := by decide +kernel
theorem dX9_as_37 : decode cX9_as 37 = .ok (.iload_n 1, 1) := by decide +kernel
theorem dX9_as_38 : decode cX9_as 38 = .ok (.iload_n 2, 1) := by decide +kernel
theorem dX9_as_39 : decode cX9_as 39 = .ok (.invokevirtual 98, 3) := by decide +kernel
theorem dX9_as_42 : decode cX9_as 42 = .ok (.ifCond .ne 10, 3) := by decide +kernel
theorem dX9_as_45 : decode cX9_as 45 = .ok (.aload_n 0, 1) := by decide +kernel
theorem dX9_as_46 : decode cX9_as 46 = .ok (.ldc 102, 2) := by decide +kernel
theorem dX9_as_48 : decode cX9_as 48 = .ok (.invokevirtual 48, 3) := by decide +kernel
theorem dX9_as_51 : decode cX9_as 51 = .ok (.ireturn, 1) := by decide +kernel
theorem dX9_as_52 : decode cX9_as 52 = .ok (.iload_n 1, 1) := by decide +kernel
theorem dX9_as_53 : decode cX9_as 53 = .ok (.ireturn, 1) := by decide +kernel
theorem dX9_husband_0 : decode cX9_husband 0 = .ok (.iload_n 2, 1) := by decide +kernel
theorem dX9_husband_1 : decode cX9_husband 1 = .ok (.iconst (-1), 1) := by decide +kernel
theorem dX9_husband_2 : decode cX9_husband 2 = .ok (.if_icmp .ne 7, 3) := by decide +kernel
theorem dX9_husband_5 : decode cX9_husband 5 = .ok (.iconst 1, 1) := by decide +kernel
theorem dX9_husband_6 : decode cX9_husband 6 = .ok (.goto 4, 3) := by decide +kernel
theorem dX9_husband_9 : decode cX9_husband 9 = .ok (.iconst 0, 1) := by decide +kernel
theorem dX9_husband_10 : decode cX9_husband 10 = .ok (.istore 4, 2) := by decide +kernel
theorem dX9_husband_12 : decode cX9_husband 12 = .ok (.aload_n 0, 1) := by decide +kernel
theorem dX9_husband_13 : decode cX9_husband 13 = .ok (.getfield 10, 3) := by decide +kernel
theorem dX9_husband_16 : decode cX9_husband 16 = .ok (.getfield 77, 3) := by decide +kernel
theorem dX9_husband_19 : decode cX9_husband 19 = .ok (.iload_n 1, 1) := by decide +kernel
theorem dX9_husband_20 : decode cX9_husband 20 = .ok (.invokevirtual 97, 3) := by decide +kernel
theorem dX9_husband_23 : decode cX9_husband 23 = .ok (.ifCond .eq 29, 3) := by decide +kernel
theorem dX9_husband_26 : decode cX9_husband 26 = .ok (.iload 4, 2) := by decide +kernel
theorem dX9_husband_28 : decode cX9_husband 28 = .ok (.ifCond .ne 31, 3) := by decide +kernel
theorem dX9_husband_31 : decode cX9_husband 31 = .ok (.aload_n 0, 1) := by decide +kernel
theorem dX9_husband_32 : decode cX9_husband 32 = .ok (.getfield 10, 3) := by decide +kernel
theorem dX9_husband_35 : decode cX9_husband 35 = .ok (.getfield 77, 3) := by decide +kernel
theorem dX9_husband_38 : decode cX9_husband 38 = .ok (.iload_n 2, 1) := by decide +kernel
theorem dX9_husband_39 : decode cX9_husband 39 = .ok (.invokevirtual 97, 3) := by decide +kernel
theorem dX9_husband_42 : decode cX9_husband 42 = .ok (.ifCond .eq 10, 3) := by decide +kernel
theorem dX9_husband_45 : decode cX9_husband 45 = .ok (.iload_n 3, 1) := by decide +kernel
theorem dX9_husband_46 : decode cX9_husband 46 = .ok (.invokestatic 74, 3) := by decide +kernel
theorem dX9_husband_49 : decode cX9_husband 49 = .ok (.ifCond .ne 10, 3) := by decide +kernel
theorem dX9_husband_52 : decode cX9_husband 52 = .ok (.aload_n 0, 1) := by decide +kernel
theorem dX9_husband_53 : decode cX9_husband 53 = .ok (.ldc 47, 2) := by decide +kernel
theorem dX9_husband_55 : decode cX9_husband 55 = .ok (.invokevirtual 48, 3) := by decide +kernel
theorem dX9_husband_58 : decode cX9_husband 58 = .ok (.ireturn, 1) := by decide +kernel
theorem dX9_husband_59 : decode cX9_husband 59 = .ok (.aload_n 0, 1) := by decide +kernel
theorem dX9_husband_60 : decode cX9_husband 60 = .ok (.getfield 10, 3) := by decide +kernel
theorem dX9_husband_63 : decode cX9_husband 63 = .ok (.getfield 77, 3) := by decide +kernel
theorem dX9_husband_66 : decode cX9_husband 66 = .ok (.getfield 103, 3) := by decide +kernel
theorem dX9_husband_69 : decode cX9_husband 69 = .ok (.iload_n 1, 1) := by decide +kernel
theorem dX9_husband_70 : decode cX9_husband 70 = .ok (.iaload, 1) := by decide +kernel
theorem dX9_husband_71 : decode cX9_husband 71 = .ok (.iconst 1, 1) := by decide +kernel
theorem dX9_husband_72 : decode cX9_husband 72 = .ok (.if_icmp .eq 10, 3) := by decide +kernel
theorem dX9_husband_75 : decode cX9_husband 75 = .ok (.aload_n 0, 1) := by decide +kernel
theorem dX9_husband_76 : decode cX9_husband 76 = .ok (.ldc 102, 2) := by decide +kernel
theorem dX9_husband_78 : decode cX9_husband 78 = .ok (.invokevirtual 48, 3) := by decide +kernel
theorem dX9_husband_81 : decode cX9_husband 81 = .ok (.ireturn, 1) := by decide +kernel
theorem dX9_husband_82 : decode cX9_husband 82 = .ok (.aload_n 0, 1) := by decide +kernel
theorem dX9_husband_83 : decode cX9_husband 83 = .ok (.getfield 10, 3) := by decide +kernel
theorem dX9_husband_86 : decode cX9_husband 86 = .ok (.getfield 77, 3) := by decide +kernel
theorem dX9_husband_89 : decode cX9_husband 89 = .ok (.iload_n 2, 1) := by decide +kernel
theorem dX9_husband_90 : decode cX9_husband 90 = .ok (.iload_n 1, 1) := by decide +kernel
theorem dX9_husband_91 : decode cX9_husband 91 = .ok (.invokevirtual 107, 3) := by decide +kernel
theorem dX9_husband_94 : decode cX9_husband 94 = .ok (.ifCond .eq 10, 3) := by decide +kernel
theorem dX9_husband_97 : decode cX9_husband 97 = .ok (.aload_n 0, 1) := by decide +kernel
theorem dX9_husband_98 : decode cX9_husband 98 = .ok (.ldc 110, 2) := by decide +kernel
theorem dX9_husband_100 : decode cX9_husband 100 = .ok (.invokevirtual 48, 3) := by decide +kernel
theorem dX9_husband_103 : decode cX9_husband 103 = .ok (.ireturn, 1) := by decide +kernel
theorem dX9_husband_104 : decode cX9_husband 104 = .ok (.aload_n 0, 1) := by decide +kernel
theorem dX9_husband_105 : decode cX9_husband 105 = .ok (.getfield 10, 3) := by decide +kernel
theorem dX9_husband_108 : decode cX9_husband 108 = .ok (.getfield 77, 3) := by decide +kernel
theorem dX9_husband_111 : decode cX9_husband 111 = .ok (.iload_n 1, 1) := by decide +kernel
theorem dX9_husband_112 : decode cX9_husband 112 = .ok (.iload_n 2, 1) := by decide +kernel
theorem dX9_husband_113 : decode cX9_husband 113 = .ok (.iload 4, 2) := by decide +kernel
theorem dX9_husband_115 : decode cX9_husband 115 = .ok (.ifCond .eq 7, 3) := by decide +kernel
theorem dX9_husband_118 : decode cX9_husband 118 = .ok (.iconst 0, 1) := by decide +kernel
theorem dX9_husband_119 : decode cX9_husband 119 = .ok (.goto 4, 3) := by decide +kernel
theorem dX9_husband_122 : decode cX9_husband 122 = .ok (.iload_n 3, 1) := by decide +kernel
theorem dX9_husband_123 : decode cX9_husband 123 = .ok (.invokevirtual 111, 3) := by decide +kernel
theorem dX9_husband_126 : decode cX9_husband 126 = .ok (.ireturn, 1) := by decide +kernel
theorem dX9_father_0 : decode cX9_father 0 = .ok (.aload_n 0, 1) := by decide +kernel
theorem dX9_father_1 : decode cX9_father 1 = .ok (.getfield 10, 3) := by decide +kernel
theorem dX9_father_4 : decode cX9_father 4 = .ok (.getfield 77, 3) := by decide +kernel
theorem dX9_father_7 : decode cX9_father 7 = .ok (.iload_n 1, 1) := by decide +kernel
theorem dX9_father_8 : decode cX9_father 8 = .ok (.invokevirtual 97, 3) := by decide +kernel
theorem dX9_father_11 : decode cX9_father 11 = .ok (.ifCond .eq 22, 3) := by decide +kernel
theorem dX9_father_14 : decode cX9_father 14 = .ok (.iload_n 2, 1) := by decide +kernel
theorem dX9_father_15 : decode cX9_father 15 = .ok (.iconst (-1), 1) := by decide +kernel
theorem dX9_father_16 : decode cX9_father 16 = .ok (.if_icmp .eq 24, 3) := by decide +kernel
theorem dX9_father_19 : decode cX9_father 19 = .ok (.aload_n 0, 1) := by decide +kernel
theorem dX9_father_20 : decode cX9_father 20 = .ok (.getfield 10, 3) := by decide +kernel
theorem dX9_father_23 : decode cX9_father 23 = .ok (.getfield 77, 3) := by decide +kernel
theorem dX9_father_26 : decode cX9_father 26 = .ok (.iload_n 2, 1) := by decide +kernel
theorem dX9_father_27 : decode cX9_father 27 = .ok (.invokevirtual 97, 3) := by decide +kernel
theorem dX9_father_30 : decode cX9_father 30 = .ok (.ifCond .ne 10, 3) := by decide +kernel
theorem dX9_father_33 : decode cX9_father 33 = .ok (.aload_n 0, 1) := by decide +kernel
theorem dX9_father_34 : decode cX9_father 34 = .ok (.ldc 47, 2) := by decide +kernel
theorem dX9_father_36 : decode cX9_father 36 = .ok (.invokevirtual 48, 3) := by decide +kernel
theorem dX9_father_39 : decode cX9_father 39 = .ok (.ireturn, 1) := by decide +kernel
theorem dX9_father_40 : decode cX9_father 40 = .ok (.aload_n 0, 1) := by decide +kernel
theorem dX9_father_41 : decode cX9_father 41 = .ok (.getfield 10, 3) := by decide +kernel
theorem dX9_father_44 : decode cX9_father 44 = .ok (.getfield 77, 3) := by decide +kernel
theorem dX9_father_47 : decode cX9_father 47 = .ok (.getfield 103, 3) := by decide +kernel
theorem dX9_father_50 : decode cX9_father 50 = .ok (.iload_n 1, 1) := by decide +kernel
theorem dX9_father_51 : decode cX9_father 51 = .ok (.iaload, 1) := by decide +kernel
theorem dX9_father_52 : decode cX9_father 52 = .ok (.iconst 2, 1) := by decide +kernel
theorem dX9_father_53 : decode cX9_father 53 = .ok (.if_icmp .eq 10, 3) := by decide +kernel
theorem dX9_father_56 : decode cX9_father 56 = .ok (.aload_n 0, 1) := by decide +kernel
theorem dX9_father_57 : decode cX9_father 57 = .ok (.ldc 102, 2) := by decide +kernel
theorem dX9_father_59 : decode cX9_father 59 = .ok (.invokevirtual 48, 3) := by decide +kernel
theorem dX9_father_62 : decode cX9_father 62 = .ok (.ireturn, 1) := by decide +kernel
theorem dX9_father_63 : decode cX9_father 63 = .ok (.aload_n 0, 1) := by decide +kernel
theorem dX9_father_64 : decode cX9_father 64 = .ok (.getfield 10, 3) := by decide +kernel
theorem dX9_father_67 : decode cX9_father 67 = .ok (.getfield 77, 3) := by decide +kernel
theorem dX9_father_70 : decode cX9_father 70 = .ok (.iload_n 2, 1) := by decide +kernel
theorem dX9_father_71 : decode cX9_father 71 = .ok (.iload_n 1, 1) := by decide +kernel
theorem dX9_father_72 : decode cX9_father 72 = .ok (.invokevirtual 107, 3) := by decide +kernel
theorem dX9_father_75 : decode cX9_father 75 = .ok (.ifCond .eq 10, 3) := by decide +kernel
theorem dX9_father_78 : decode cX9_father 78 = .ok (.aload_n 0, 1) := by decide +kernel
theorem dX9_father_79 : decode cX9_father 79 = .ok (.ldc 110, 2) := by decide +kernel
theorem dX9_father_81 : decode cX9_father 81 = .ok (.invokevirtual 48, 3) := by decide +kernel
theorem dX9_father_84 : decode cX9_father 84 = .ok (.ireturn, 1) := by decide +kernel
theorem dX9_father_85 : decode cX9_father 85 = .ok (.aload_n 0, 1) := by decide +kernel
theorem dX9_father_86 : decode cX9_father 86 = .ok (.getfield 10, 3) := by decide +kernel
theorem dX9_father_89 : decode cX9_father 89 = .ok (.getfield 77, 3) := by decide +kernel
theorem dX9_father_92 : decode cX9_father 92 = .ok (.iload_n 1, 1) := by decide +kernel
theorem dX9_father_93 : decode cX9_father 93 = .ok (.iload_n 2, 1) := by decide +kernel
theorem dX9_father_94 : decode cX9_father 94 = .ok (.iconst 0, 1) := by decide +kernel
theorem dX9_father_95 : decode cX9_father 95 = .ok (.invokevirtual 111, 3) := by decide +kernel
theorem dX9_father_98 : decode cX9_father 98 = .ok (.ireturn, 1) := by decide +kernel
theorem dX9_fact_0 : decode cX9_fact 0 = .ok (.iload_n 1, 1) := by decide +kernel
theorem dX9_fact_1 : decode cX9_fact 1 = .ok (.iconst 0, 1) := by decide +kernel
theorem dX9_fact_2 : decode cX9_fact 2 = .ok (.iconst 1, 1) := by decide +kernel
theorem dX9_fact_3 : decode cX9_fact 3 = .ok (.invokestatic 43, 3) := by decide +kernel
theorem dX9_fact_6 : decode cX9_fact 6 = .ok (.ifCond .eq 71, 3) := by decide +kernel
theorem dX9_fact_9 : decode cX9_fact 9 = .ok (.aload_n 0, 1) := by decide +kernel
theorem dX9_fact_10 : decode cX9_fact 10 = .ok (.getfield 10, 3) := by decide +kernel
theorem dX9_fact_13 : decode cX9_fact 13 = .ok (.getfield 77, 3) := by decide +kernel
theorem dX9_fact_16 : decode cX9_fact 16 = .ok (.iload_n 2, 1) := by decide +kernel
theorem dX9_fact_17 : decode cX9_fact 17 = .ok (.invokevirtual 97, 3) := by decide +kernel
theorem dX9_fact_20 : decode cX9_fact 20 = .ok (.ifCond .eq 57, 3) := by decide +kernel
theorem dX9_fact_23 : decode cX9_fact 23 = .ok (.aload_n 0, 1) := by decide +kernel
theorem dX9_fact_24 : decode cX9_fact 24 = .ok (.getfield 10, 3) := by decide +kernel
theorem dX9_fact_27 : decode cX9_fact 27 = .ok (.getfield 52, 3) := by decide +kernel
theorem dX9_fact_30 : decode cX9_fact 30 = .ok (.iload_n 3, 1) := by decide +kernel
theorem dX9_fact_31 : decode cX9_fact 31 = .ok (.invokevirtual 65, 3) := by decide +kernel
theorem dX9_fact_34 : decode cX9_fact 34 = .ok (.ifCond .eq 43, 3) := by decide +kernel
theorem dX9_fact_37 : decode cX9_fact 37 = .ok (.iload_n 1, 1) := by decide +kernel
theorem dX9_fact_38 : decode cX9_fact 38 = .ok (.iconst 1, 1) := by decide +kernel
theorem dX9_fact_39 : decode cX9_fact 39 = .ok (.if_icmp .ne 14, 3) := by decide +kernel
theorem dX9_fact_42 : decode cX9_fact 42 = .ok (.iload 4, 2) := by decide +kernel
theorem dX9_fact_44 : decode cX9_fact 44 = .ok (.iconst 0, 1) := by decide +kernel
theorem dX9_fact_45 : decode cX9_fact 45 = .ok (.bipush 99, 2) := by decide +kernel
theorem dX9_fact_47 : decode cX9_fact 47 = .ok (.invokestatic 43, 3) := by decide +kernel
theorem dX9_fact_50 : decode cX9_fact 50 = .ok (.ifCond .eq 27, 3) := by decide +kernel
theorem dX9_fact_53 : decode cX9_fact 53 = .ok (.iload 5, 2) := by decide +kernel
theorem dX9_fact_55 : decode cX9_fact 55 = .ok (.invokestatic 74, 3) := by decide +kernel
theorem dX9_fact_58 : decode cX9_fact 58 = .ok (.ifCond .eq 19, 3) := by decide +kernel
theorem dX9_fact_61 : decode cX9_fact 61 = .ok (.iload 6, 2) := by decide +kernel
theorem dX9_fact_63 : decode cX9_fact 63 = .ok (.invokestatic 74, 3) := by decide +kernel
theorem dX9_fact_66 : decode cX9_fact 66 = .ok (.ifCond .eq 11, 3) := by decide +kernel
theorem dX9_fact_69 : decode cX9_fact 69 = .ok (.iload 7, 2) := by decide +kernel
theorem dX9_fact_71 : decode cX9_fact 71 = .ok (.invokestatic 74, 3) := by decide +kernel
theorem dX9_fact_74 : decode cX9_fact 74 = .ok (.ifCond .ne 10, 3) := by decide +kernel
theorem dX9_fact_77 : decode cX9_fact 77 = .ok (.aload_n 0, 1) := by decide +kernel
theorem dX9_fact_78 : decode cX9_fact 78 = .ok (.ldc 47, 2) := by decide +kernel
theorem dX9_fact_80 : decode cX9_fact 80 = .ok (.invokevirtual 48, 3) := by decide +kernel
theorem dX9_fact_83 : decode cX9_fact 83 = .ok (.ireturn, 1) := by decide +kernel
theorem dX9_fact_84 : decode cX9_fact 84 = .ok (.iload 5, 2) := by decide +kernel
theorem dX9_fact_86 : decode cX9_fact 86 = .ok (.iload 6, 2) := by decide +kernel
theorem dX9_fact_88 : decode cX9_fact 88 = .ok (.if_icmp .le 10, 3) := by decide +kernel
theorem dX9_fact_91 : decode cX9_fact 91 = .ok (.aload_n 0, 1) := by decide +kernel
theorem dX9_fact_92 : decode cX9_fact 92 = .ok (.ldc 69, 2) := by decide +kernel
theorem dX9_fact_94 : decode cX9_fact 94 = .ok (.invokevirtual 48, 3) := by decide +kernel
theorem dX9_fact_97 : decode cX9_fact 97 = .ok (.ireturn, 1) := by decide +kernel
theorem dX9_fact_98 : decode cX9_fact 98 = .ok (.aload_n 0, 1) := by decide +kernel
theorem dX9_fact_99 : decode cX9_fact 99 = .ok (.getfield 10, 3) := by decide +kernel
theorem dX9_fact_102 : decode cX9_fact 102 = .ok (.getfield 114, 3) := by decide +kernel
theorem dX9_fact_105 : decode cX9_fact 105 = .ok (.getfield 118, 3) := by decide +kernel
theorem dX9_fact_108 : decode cX9_fact 108 = .ok (.bipush 24, 2) := by decide +kernel
theorem dX9_fact_110 : decode cX9_fact 110 = .ok (.if_icmp .lt 10, 3) := by decide +kernel
theorem dX9_fact_113 : decode cX9_fact 113 = .ok (.aload_n 0, 1) := by decide +kernel
theorem dX9_fact_114 : decode cX9_fact 114 = .ok (.ldc 61, 2) := by decide +kernel
theorem dX9_fact_116 : decode cX9_fact 116 = .ok (.invokevirtual 48, 3) := by decide +kernel
theorem dX9_fact_119 : decode cX9_fact 119 = .ok (.ireturn, 1) := by decide +kernel
theorem dX9_fact_120 : decode cX9_fact 120 = .ok (.aload_n 0, 1) := by decide +kernel
theorem dX9_fact_121 : decode cX9_fact 121 = .ok (.getfield 10, 3) := by decide +kernel
theorem dX9_fact_124 : decode cX9_fact 124 = .ok (.getfield 114, 3) := by decide +kernel
theorem dX9_fact_127 : decode cX9_fact 127 = .ok (.iload_n 1, 1) := by decide +kernel
theorem dX9_fact_128 : decode cX9_fact 128 = .ok (.iload_n 2, 1) := by decide +kernel
theorem dX9_fact_129 : decode cX9_fact 129 = .ok (.iload_n 3, 1) := by decide +kernel
theorem dX9_fact_130 : decode cX9_fact 130 = .ok (.iload 4, 2) := by decide +kernel
theorem dX9_fact_132 : decode cX9_fact 132 = .ok (.iload 5, 2) := by decide +kernel
theorem dX9_fact_134 : decode cX9_fact 134 = .ok (.iload 6, 2) := by decide +kernel
theorem dX9_fact_136 : decode cX9_fact 136 = .ok (.iload 7, 2) := by decide +kernel
theorem dX9_fact_138 : decode cX9_fact 138 = .ok (.invokevirtual 121, 3) := by decide +kernel
theorem dX9_fact_141 : decode cX9_fact 141 = .ok (.ireturn, 1) := by decide +kernel
theorem dX9_doubt_0 : decode cX9_doubt 0 = .ok (.aload_n 0, 1) := by decide +kernel
theorem dX9_doubt_1 : decode cX9_doubt 1 = .ok (.getfield 10, 3) := by decide +kernel
theorem dX9_doubt_4 : decode cX9_doubt 4 = .ok (.getfield 114, 3) := by decide +kernel
theorem dX9_doubt_7 : decode cX9_doubt 7 = .ok (.iload_n 1, 1) := by decide +kernel
theorem dX9_doubt_8 : decode cX9_doubt 8 = .ok (.invokevirtual 124, 3) := by decide +kernel
theorem dX9_doubt_11 : decode cX9_doubt 11 = .ok (.ifCond .ne 10, 3) := by decide +kernel
theorem dX9_doubt_14 : decode cX9_doubt 14 = .ok (.aload_n 0, 1) := by decide +kernel
theorem dX9_doubt_15 : decode cX9_doubt 15 = .ok (.ldc 47, 2) := by decide +kernel
theorem dX9_doubt_17 : decode cX9_doubt 17 = .ok (.invokevirtual 48, 3) := by decide +kernel
theorem dX9_doubt_20 : decode cX9_doubt 20 = .ok (.ireturn, 1) := by decide +kernel
theorem dX9_doubt_21 : decode cX9_doubt 21 = .ok (.aload_n 0, 1) := by decide +kernel
theorem dX9_doubt_22 : decode cX9_doubt 22 = .ok (.getfield 10, 3) := by decide +kernel
theorem dX9_doubt_25 : decode cX9_doubt 25 = .ok (.getfield 114, 3) := by decide +kernel
theorem dX9_doubt_28 : decode cX9_doubt 28 = .ok (.iload_n 1, 1) := by decide +kernel
theorem dX9_doubt_29 : decode cX9_doubt 29 = .ok (.invokevirtual 125, 3) := by decide +kernel
theorem dX9_doubt_32 : decode cX9_doubt 32 = .ok (.iload_n 2, 1) := by decide +kernel
theorem dX9_doubt_33 : decode cX9_doubt 33 = .ok (.if_icmp .ne 5, 3) := by decide +kernel
theorem dX9_doubt_36 : decode cX9_doubt 36 = .ok (.iconst 0, 1) := by decide +kernel
theorem dX9_doubt_37 : decode cX9_doubt 37 = .ok (.ireturn, 1) := by decide +kernel
theorem dX9_doubt_38 : decode cX9_doubt 38 = .ok (.iload_n 2, 1) := by decide +kernel
theorem dX9_doubt_39 : decode cX9_doubt 39 = .ok (.ifCond .eq 25, 3) := by decide +kernel
theorem dX9_doubt_42 : decode cX9_doubt 42 = .ok (.aload_n 0, 1) := by decide +kernel
theorem dX9_doubt_43 : decode cX9_doubt 43 = .ok (.getfield 10, 3) := by decide +kernel
theorem dX9_doubt_46 : decode cX9_doubt 46 = .ok (.getfield 114, 3) := by decide +kernel
theorem dX9_doubt_49 : decode cX9_doubt 49 = .ok (.invokevirtual 128, 3) := by decide +kernel
theorem dX9_doubt_52 : decode cX9_doubt 52 = .ok (.bipush 8, 2) := by decide +kernel
theorem dX9_doubt_54 : decode cX9_doubt 54 = .ok (.if_icmp .lt 10, 3) := by decide +kernel
theorem dX9_doubt_57 : decode cX9_doubt 57 = .ok (.aload_n 0, 1) := by decide +kernel
theorem dX9_doubt_58 : decode cX9_doubt 58 = .ok (.ldc 61, 2) := by decide +kernel
theorem dX9_doubt_60 : decode cX9_doubt 60 = .ok (.invokevirtual 48, 3) := by decide +kernel
theorem dX9_doubt_63 : decode cX9_doubt 63 = .ok (.ireturn, 1) := by decide +kernel
theorem dX9_doubt_64 : decode cX9_doubt 64 = .ok (.aload_n 0, 1) := by decide +kernel
theorem dX9_doubt_65 : decode cX9_doubt 65 = .ok (.getfield 10, 3) := by decide +kernel
theorem dX9_doubt_68 : decode cX9_doubt 68 = .ok (.getfield 114, 3) := by decide +kernel
theorem dX9_doubt_71 : decode cX9_doubt 71 = .ok (.getfield 132, 3) := by decide +kernel
theorem dX9_doubt_74 : decode cX9_doubt 74 = .ok (.iload_n 1, 1) := by decide +kernel
theorem dX9_doubt_75 : decode cX9_doubt 75 = .ok (.iload_n 2, 1) := by decide +kernel
theorem dX9_doubt_76 : decode cX9_doubt 76 = .ok (.ifCond .eq 7, 3) := by decide +kernel
theorem dX9_doubt_79 : decode cX9_doubt 79 = .ok (.iconst 1, 1) := by decide +kernel
theorem dX9_doubt_80 : decode cX9_doubt 80 = .ok (.goto 4, 3) := by decide +kernel
theorem dX9_doubt_83 : decode cX9_doubt 83 = .ok (.iconst 0, 1) := by decide +kernel
theorem dX9_doubt_84 : decode cX9_doubt 84 = .ok (.iastore, 1) := by decide +kernel
theorem dX9_doubt_85 : decode cX9_doubt 85 = .ok (.iconst 1, 1) := by decide +kernel
theorem dX9_doubt_86 : decode cX9_doubt 86 = .ok (.ireturn, 1) := by decide +kernel
theorem dX9_forget_0 : decode cX9_forget 0 = .ok (.aload_n 0, 1) := by decide +kernel
theorem dX9_forget_1 : decode cX9_forget 1 = .ok (.getfield 10, 3) := by decide +kernel
theorem dX9_forget_4 : decode cX9_forget 4 = .ok (.getfield 114, 3) := by decide +kernel
theorem dX9_forget_7 : decode cX9_forget 7 = .ok (.getfield 118, 3) := by decide +kernel
theorem dX9_forget_10 : decode cX9_forget 10 = .ok (.ifCond .gt 10, 3) := by decide +kernel
theorem dX9_forget_13 : decode cX9_forget 13 = .ok (.aload_n 0, 1) := by decide +kernel
theorem dX9_forget_14 : decode cX9_forget 14 = .ok (.ldc 135, 2) := by decide +kernel
theorem dX9_forget_16 : decode cX9_forget 16 = .ok (.invokevirtual 48, 3) := by decide +kernel
theorem dX9_forget_19 : decode cX9_forget 19 = .ok (.ireturn, 1) := by decide +kernel
theorem dX9_forget_20 : decode cX9_forget 20 = .ok (.aload_n 0, 1) := by decide +kernel
theorem dX9_forget_21 : decode cX9_forget 21 = .ok (.getfield 10, 3) := by decide +kernel
theorem dX9_forget_24 : decode cX9_forget 24 = .ok (.getfield 114, 3) := by decide +kernel
theorem dX9_forget_27 : decode cX9_forget 27 = .ok (.dup, 1) := by decide +kernel
theorem dX9_forget_28 : decode cX9_forget 28 = .ok (.getfield 118, 3) := by decide +kernel
theorem dX9_forget_31 : decode cX9_forget 31 = .ok (.iconst 1, 1) := by decide +kernel
theorem dX9_forget_32 : decode cX9_forget 32 = .ok (.isub, 1) := by decide +kernel
theorem dX9_forget_33 : decode cX9_forget 33 = .ok (.putfield 118, 3) := by decide +kernel
theorem dX9_forget_36 : decode cX9_forget 36 = .ok (.aload_n 0, 1) := by decide +kernel
theorem dX9_forget_37 : decode cX9_forget 37 = .ok (.getfield 10, 3) := by decide +kernel
theorem dX9_forget_40 : decode cX9_forget 40 = .ok (.getfield 114, 3) := by decide +kernel
theorem dX9_forget_43 : decode cX9_forget 43 = .ok (.getfield 118, 3) := by decide +kernel
theorem dX9_forget_46 : decode cX9_forget 46 = .ok (.ireturn, 1) := by decide +kernel
theorem dX9_law_0 : decode cX9_law 0 = .ok (.iload_n 1, 1) := by decide +kernel
theorem dX9_law_1 : decode cX9_law 1 = .ok (.iconst 0, 1) := by decide +kernel
theorem dX9_law_2 : decode cX9_law 2 = .ok (.iconst 4, 1) := by decide +kernel
theorem dX9_law_3 : decode cX9_law 3 = .ok (.invokestatic 43, 3) := by decide +kernel
theorem dX9_law_6 : decode cX9_law 6 = .ok (.ifCond .eq 36, 3) := by decide +kernel
theorem dX9_law_9 : decode cX9_law 9 = .ok (.iload_n 3, 1) := by decide +kernel
theorem dX9_law_10 : decode cX9_law 10 = .ok (.invokestatic 74, 3) := by decide +kernel
theorem dX9_law_13 : decode cX9_law 13 = .ok (.ifCond .eq 29, 3) := by decide +kernel
theorem dX9_law_16 : decode cX9_law 16 = .ok (.iload 4, 2) := by decide +kernel
theorem dX9_law_18 : decode cX9_law 18 = .ok (.invokestatic 74, 3) := by decide +kernel
theorem dX9_law_21 : decode cX9_law 21 = .ok (.ifCond .eq 21, 3) := by decide +kernel
theorem dX9_law_24 : decode cX9_law 24 = .ok (.iload_n 1, 1) := by decide +kernel
theorem dX9_law_25 : decode cX9_law 25 = .ok (.invokestatic 136, 3) := by decide +kernel
theorem dX9_law_28 : decode cX9_law 28 = .ok (.ifCond .eq 21, 3) := by decide +kernel
theorem dX9_law_31 : decode cX9_law 31 = .ok (.iload_n 2, 1) := by decide +kernel
theorem dX9_law_32 : decode cX9_law 32 = .ok (.iconst 0, 1) := by decide +kernel
theorem dX9_law_33 : decode cX9_law 33 = .ok (.sipush 9999, 3) := by decide +kernel
theorem dX9_law_36 : decode cX9_law 36 = .ok (.invokestatic 43, 3) := by decide +kernel
theorem dX9_law_39 : decode cX9_law 39 = .ok (.ifCond .ne 10, 3) := by decide +kernel
theorem dX9_law_42 : decode cX9_law 42 = .ok (.aload_n 0, 1) := by decide +kernel
theorem dX9_law_43 : decode cX9_law 43 = .ok (.ldc 47, 2) := by decide +kernel
theorem dX9_law_45 : decode cX9_law 45 = .ok (.invokevirtual 48, 3) := by decide +kernel
theorem dX9_law_48 : decode cX9_law 48 = .ok (.ireturn, 1) := by decide +kernel
theorem dX9_law_49 : decode cX9_law 49 = .ok (.iload_n 3, 1) := by decide +kernel
theorem dX9_law_50 : decode cX9_law 50 = .ok (.iload 4, 2) := by decide +kernel
theorem dX9_law_52 : decode cX9_law 52 = .ok (.if_icmp .le 10, 3) := by decide +kernel
theorem dX9_law_55 : decode cX9_law 55 = .ok (.aload_n 0, 1) := by decide +kernel
theorem dX9_law_56 : decode cX9_law 56 = .ok (.ldc 69, 2) := by decide +kernel
theorem dX9_law_58 : decode cX9_law 58 = .ok (.invokevirtual 48, 3) := by decide +kernel
theorem dX9_law_61 : decode cX9_law 61 = .ok (.ireturn, 1) := by decide +kernel
theorem dX9_law_62 : decode cX9_law 62 = .ok (.aload_n 0, 1) := by decide +kernel
theorem dX9_law_63 : decode cX9_law 63 = .ok (.getfield 10, 3) := by decide +kernel
theorem dX9_law_66 : decode cX9_law 66 = .ok (.getfield 139, 3) := by decide +kernel
theorem dX9_law_69 : decode cX9_law 69 = .ok (.getfield 143, 3) := by decide +kernel
theorem dX9_law_72 : decode cX9_law 72 = .ok (.bipush 12, 2) := by decide +kernel
theorem dX9_law_74 : decode cX9_law 74 = .ok (.if_icmp .lt 10, 3) := by decide +kernel
theorem dX9_law_77 : decode cX9_law 77 = .ok (.aload_n 0, 1) := by decide +kernel
theorem dX9_law_78 : decode cX9_law 78 = .ok (.ldc 61, 2) := by decide +kernel
theorem dX9_law_80 : decode cX9_law 80 = .ok (.invokevirtual 48, 3) := by decide +kernel
theorem dX9_law_83 : decode cX9_law 83 = .ok (.ireturn, 1) := by decide +kernel
theorem dX9_law_84 : decode cX9_law 84 = .ok (.aload_n 0, 1) := by decide +kernel
theorem dX9_law_85 : decode cX9_law 85 = .ok (.getfield 10, 3) := by decide +kernel
theorem dX9_law_88 : decode cX9_law 88 = .ok (.getfield 139, 3) := by decide +kernel
theorem dX9_law_91 : decode cX9_law 91 = .ok (.iload_n 1, 1) := by decide +kernel
theorem dX9_law_92 : decode cX9_law 92 = .ok (.iload_n 2, 1) := by decide +kernel
theorem dX9_law_93 : decode cX9_law 93 = .ok (.iload_n 3, 1) := by decide +kernel
theorem dX9_law_94 : decode cX9_law 94 = .ok (.iload 4, 2) := by decide +kernel
theorem dX9_law_96 : decode cX9_law 96 = .ok (.invokevirtual 146, 3) := by decide +kernel
theorem dX9_law_99 : decode cX9_law 99 = .ok (.ireturn, 1) := by decide +kernel
theorem dX9_ends_0 : decode cX9_ends 0 = .ok (.aload_n 0, 1) := by decide +kernel
theorem dX9_ends_1 : decode cX9_ends 1 = .ok (.getfield 10, 3) := by decide +kernel
theorem dX9_ends_4 : decode cX9_ends 4 = .ok (.getfield 139, 3) := by decide +kernel
theorem dX9_ends_7 : decode cX9_ends 7 = .ok (.iload_n 1, 1) := by decide +kernel
theorem dX9_ends_8 : decode cX9_ends 8 = .ok (.invokevirtual 149, 3) := by decide +kernel
theorem dX9_ends_11 : decode cX9_ends 11 = .ok (.ifCond .eq 10, 3) := by decide +kernel
theorem dX9_ends_14 : decode cX9_ends 14 = .ok (.iload_n 2, 1) := by decide +kernel
theorem dX9_ends_15 : decode cX9_ends 15 = .ok (.invokestatic 74, 3) := by decide +kernel
theorem dX9_ends_18 : decode cX9_ends 18 = .ok (.ifCond .ne 10, 3) := by decide +kernel
theorem dX9_ends_21 : decode cX9_ends 21 = .ok (.aload_n 0, 1) := by decide +kernel
theorem dX9_ends_22 : decode cX9_ends 22 = .ok (.ldc 47, 2) := by decide +kernel
theorem dX9_ends_24 : decode cX9_ends 24 = .ok (.invokevirtual 48, 3) := by decide +kernel
theorem dX9_ends_27 : decode cX9_ends 27 = .ok (.ireturn, 1) := by decide +kernel
theorem dX9_ends_28 : decode cX9_ends 28 = .ok (.iload_n 2, 1) := by decide +kernel
theorem dX9_ends_29 : decode cX9_ends 29 = .ok (.aload_n 0, 1) := by decide +kernel
theorem dX9_ends_30 : decode cX9_ends 30 = .ok (.getfield 10, 3) := by decide +kernel
theorem dX9_ends_33 : decode cX9_ends 33 = .ok (.getfield 139, 3) := by decide +kernel
theorem dX9_ends_36 : decode cX9_ends 36 = .ok (.getfield 150, 3) := by decide +kernel
theorem dX9_ends_39 : decode cX9_ends 39 = .ok (.iload_n 1, 1) := by decide +kernel
theorem dX9_ends_40 : decode cX9_ends 40 = .ok (.iaload, 1) := by decide +kernel
theorem dX9_ends_41 : decode cX9_ends 41 = .ok (.if_icmp .ge 10, 3) := by decide +kernel
theorem dX9_ends_44 : decode cX9_ends 44 = .ok (.aload_n 0, 1) := by decide +kernel
theorem dX9_ends_45 : decode cX9_ends 45 = .ok (.ldc 69, 2) := by decide +kernel
theorem dX9_ends_47 : decode cX9_ends 47 = .ok (.invokevirtual 48, 3) := by decide +kernel
theorem dX9_ends_50 : decode cX9_ends 50 = .ok (.ireturn, 1) := by decide +kernel
theorem dX9_ends_51 : decode cX9_ends 51 = .ok (.aload_n 0, 1) := by decide +kernel
theorem dX9_ends_52 : decode cX9_ends 52 = .ok (.getfield 10, 3) := by decide +kernel
theorem dX9_ends_55 : decode cX9_ends 55 = .ok (.getfield 139, 3) := by decide +kernel
theorem dX9_ends_58 : decode cX9_ends 58 = .ok (.getfield 153, 3) := by decide +kernel
theorem dX9_ends_61 : decode cX9_ends 61 = .ok (.iload_n 1, 1) := by decide +kernel
theorem dX9_ends_62 : decode cX9_ends 62 = .ok (.iaload, 1) := by decide +kernel
theorem dX9_ends_63 : decode cX9_ends 63 = .ok (.istore_n 3, 1) := by decide +kernel
theorem dX9_ends_64 : decode cX9_ends 64 = .ok (.aload_n 0, 1) := by decide +kernel
theorem dX9_ends_65 : decode cX9_ends 65 = .ok (.getfield 10, 3) := by decide +kernel
theorem dX9_ends_68 : decode cX9_ends 68 = .ok (.getfield 139, 3) := by decide +kernel
theorem dX9_ends_71 : decode cX9_ends 71 = .ok (.getfield 153, 3) := by decide +kernel
theorem dX9_ends_74 : decode cX9_ends 74 = .ok (.iload_n 1, 1) := by decide +kernel
theorem dX9_ends_75 : decode cX9_ends 75 = .ok (.iload_n 2, 1) := by decide +kernel
theorem dX9_ends_76 : decode cX9_ends 76 = .ok (.iastore, 1) := by decide +kernel
theorem dX9_ends_77 : decode cX9_ends 77 = .ok (.iload_n 3, 1) := by decide +kernel
theorem dX9_ends_78 : decode cX9_ends 78 = .ok (.ireturn, 1) := by decide +kernel
theorem dX9_own_0 : decode cX9_own 0 = .ok (.aload_n 0, 1) := by decide +kernel
theorem dX9_own_1 : decode cX9_own 1 = .ok (.iload_n 1, 1) := by decide +kernel
theorem dX9_own_2 : decode cX9_own 2 = .ok (.iload_n 2, 1) := by decide +kernel
theorem dX9_own_3 : decode cX9_own 3 = .ok (.iload_n 3, 1) := by decide +kernel
theorem dX9_own_4 : decode cX9_own 4 = .ok (.invokevirtual 156, 3) := by decide +kernel
theorem dX9_own_7 : decode cX9_own 7 = .ok (.ifCond .ne 10, 3) := by decide +kernel
theorem dX9_own_10 : decode cX9_own 10 = .ok (.aload_n 0, 1) := by decide +kernel
theorem dX9_own_11 : decode cX9_own 11 = .ok (.ldc 47, 2) := by decide +kernel
theorem dX9_own_13 : decode cX9_own 13 = .ok (.invokevirtual 48, 3) := by decide +kernel
theorem dX9_own_16 : decode cX9_own 16 = .ok (.ireturn, 1) := by decide +kernel
theorem dX9_own_17 : decode cX9_own 17 = .ok (.aload_n 0, 1) := by decide +kernel
theorem dX9_own_18 : decode cX9_own 18 = .ok (.aload_n 0, 1) := by decide +kernel
theorem dX9_own_19 : decode cX9_own 19 = .ok (.getfield 24, 3) := by decide +kernel
theorem dX9_own_22 : decode cX9_own 22 = .ok (.iload_n 1, 1) := by decide +kernel
theorem dX9_own_23 : decode cX9_own 23 = .ok (.iload_n 2, 1) := by decide +kernel
theorem dX9_own_24 : decode cX9_own 24 = .ok (.iload_n 3, 1) := by decide +kernel
theorem dX9_own_25 : decode cX9_own 25 = .ok (.invokevirtual 159, 3) := by decide +kernel
theorem dX9_own_28 : decode cX9_own 28 = .ok (.invokevirtual 162, 3) := by decide +kernel
theorem dX9_own_31 : decode cX9_own 31 = .ok (.ireturn, 1) := by decide +kernel
theorem dX9_settlement_0 : decode cX9_settlement 0 = .ok (.aload_n 0, 1) := by decide +kernel
theorem dX9_settlement_1 : decode cX9_settlement 1 = .ok (.iload_n 1, 1) := by decide +kernel
theorem dX9_settlement_2 : decode cX9_settlement 2 = .ok (.iload_n 2, 1) := by decide +kernel
theorem dX9_settlement_3 : decode cX9_settlement 3 = .ok (.iload_n 3, 1) := by decide +kernel
theorem dX9_settlement_4 : decode cX9_settlement 4 = .ok (.invokevirtual 156, 3) := by decide +kernel
theorem dX9_settlement_7 : decode cX9_settlement 7 = .ok (.ifCond .ne 10, 3) := by decide +kernel
theorem dX9_settlement_10 : decode cX9_settlement 10 = .ok (.aload_n 0, 1) := by decide +kernel
theorem dX9_settlement_11 : decode cX9_settlement 11 = .ok (.ldc 47, 2) := by decide +kernel
theorem dX9_settlement_13 : decode cX9_settlement 13 = .ok (.invokevirtual 48, 3) := by decide +kernel
theorem dX9_settlement_16 : decode cX9_settlement 16 = .ok (.ireturn, 1) := by decide +kernel
theorem dX9_settlement_17 : decode cX9_settlement 17 = .ok (.aload_n 0, 1) := by decide +kernel
theorem dX9_settlement_18 : decode cX9_settlement 18 = .ok (.aload_n 0, 1) := by decide +kernel
theorem dX9_settlement_19 : decode cX9_settlement 19 = .ok (.getfield 24, 3) := by decide +kernel
theorem dX9_settlement_22 : decode cX9_settlement 22 = .ok (.iload_n 1, 1) := by decide +kernel
theorem dX9_settlement_23 : decode cX9_settlement 23 = .ok (.iload_n 2, 1) := by decide +kernel
theorem dX9_settlement_24 : decode cX9_settlement 24 = .ok (.iload_n 3, 1) := by decide +kernel
theorem dX9_settlement_25 : decode cX9_settlement 25 = .ok (.invokevirtual 165, 3) := by decide +kernel
theorem dX9_settlement_28 : decode cX9_settlement 28 = .ok (.invokevirtual 162, 3) := by decide +kernel
theorem dX9_settlement_31 : decode cX9_settlement 31 = .ok (.ireturn, 1) := by decide +kernel
theorem dX9_through_0 : decode cX9_through 0 = .ok (.aload_n 0, 1) := by decide +kernel
theorem dX9_through_1 : decode cX9_through 1 = .ok (.iload_n 1, 1) := by decide +kernel
theorem dX9_through_2 : decode cX9_through 2 = .ok (.iload_n 2, 1) := by decide +kernel
theorem dX9_through_3 : decode cX9_through 3 = .ok (.iload_n 3, 1) := by decide +kernel
theorem dX9_through_4 : decode cX9_through 4 = .ok (.invokevirtual 156, 3) := by decide +kernel
theorem dX9_through_7 : decode cX9_through 7 = .ok (.ifCond .ne 10, 3) := by decide +kernel
theorem dX9_through_10 : decode cX9_through 10 = .ok (.aload_n 0, 1) := by decide +kernel
theorem dX9_through_11 : decode cX9_through 11 = .ok (.ldc 47, 2) := by decide +kernel
theorem dX9_through_13 : decode cX9_through 13 = .ok (.invokevirtual 48, 3) := by decide +kernel
theorem dX9_through_16 : decode cX9_through 16 = .ok (.ireturn, 1) := by decide +kernel
theorem dX9_through_17 : decode cX9_through 17 = .ok (.aload_n 0, 1) := by decide +kernel
theorem dX9_through_18 : decode cX9_through 18 = .ok (.getfield 24, 3) := by decide +kernel
theorem dX9_through_21 : decode cX9_through 21 = .ok (.iload_n 1, 1) := by decide +kernel
theorem dX9_through_22 : decode cX9_through 22 = .ok (.iload_n 2, 1) := by decide +kernel
theorem dX9_through_23 : decode cX9_through 23 = .ok (.iload_n 3, 1) := by decide +kernel
theorem dX9_through_24 : decode cX9_through 24 = .ok (.invokevirtual 168, 3) := by decide +kernel
theorem dX9_through_27 : decode cX9_through 27 = .ok (.ireturn, 1) := by decide +kernel
theorem dX9_could_0 : decode cX9_could 0 = .ok (.aload_n 0, 1) := by decide +kernel
theorem dX9_could_1 : decode cX9_could 1 = .ok (.iload_n 1, 1) := by decide +kernel
theorem dX9_could_2 : decode cX9_could 2 = .ok (.iload_n 2, 1) := by decide +kernel
theorem dX9_could_3 : decode cX9_could 3 = .ok (.iload_n 3, 1) := by decide +kernel
theorem dX9_could_4 : decode cX9_could 4 = .ok (.invokevirtual 156, 3) := by decide +kernel
theorem dX9_could_7 : decode cX9_could 7 = .ok (.ifCond .ne 10, 3) := by decide +kernel
theorem dX9_could_10 : decode cX9_could 10 = .ok (.aload_n 0, 1) := by decide +kernel
theorem dX9_could_11 : decode cX9_could 11 = .ok (.ldc 47, 2) := by decide +kernel
theorem dX9_could_13 : decode cX9_could 13 = .ok (.invokevirtual 48, 3) := by decide +kernel
theorem dX9_could_16 : decode cX9_could 16 = .ok (.ireturn, 1) := by decide +kernel
theorem dX9_could_17 : decode cX9_could 17 = .ok (.aload_n 0, 1) := by decide +kernel
theorem dX9_could_18 : decode cX9_could 18 = .ok (.getfield 24, 3) := by decide +kernel
theorem dX9_could_21 : decode cX9_could 21 = .ok (.iload_n 1, 1) := by decide +kernel
theorem dX9_could_22 : decode cX9_could 22 = .ok (.iload_n 2, 1) := by decide +kernel
theorem dX9_could_23 : decode cX9_could 23 = .ok (.iload_n 3, 1) := by decide +kernel
theorem dX9_could_24 : decode cX9_could 24 = .ok (.invokevirtual 171, 3) := by decide +kernel
theorem dX9_could_27 : decode cX9_could 27 = .ok (.ireturn, 1) := by decide +kernel
theorem dX9_question_0 : decode cX9_question 0 = .ok (.aload_n 0, 1) := by decide +kernel
theorem dX9_question_1 : decode cX9_question 1 = .ok (.iload_n 1, 1) := by decide +kernel
theorem dX9_question_2 : decode cX9_question 2 = .ok (.iload_n 2, 1) := by decide +kernel
theorem dX9_question_3 : decode cX9_question 3 = .ok (.iload_n 3, 1) := by decide +kernel
theorem dX9_question_4 : decode cX9_question 4 = .ok (.invokevirtual 156, 3) := by decide +kernel
theorem dX9_question_7 : decode cX9_question 7 = .ok (.ifCond .ne 10, 3) := by decide +kernel
theorem dX9_question_10 : decode cX9_question 10 = .ok (.aload_n 0, 1) := by decide +kernel
theorem dX9_question_11 : decode cX9_question 11 = .ok (.ldc 47, 2) := by decide +kernel
theorem dX9_question_13 : decode cX9_question 13 = .ok (.invokevirtual 48, 3) := by decide +kernel
theorem dX9_question_16 : decode cX9_question 16 = .ok (.ireturn, 1) := by decide +kernel
theorem dX9_question_17 : decode cX9_question 17 = .ok (.aload_n 0, 1) := by decide +kernel
theorem dX9_question_18 : decode cX9_question 18 = .ok (.getfield 10, 3) := by decide +kernel
theorem dX9_question_21 : decode cX9_question 21 = .ok (.getfield 114, 3) := by decide +kernel
theorem dX9_question_24 : decode cX9_question 24 = .ok (.invokevirtual 128, 3) := by decide +kernel
theorem dX9_question_27 : decode cX9_question 27 = .ok (.ifCond .ne 10, 3) := by decide +kernel
theorem dX9_question_30 : decode cX9_question 30 = .ok (.aload_n 0, 1) := by decide +kernel
theorem dX9_question_31 : decode cX9_question 31 = .ok (.ldc 135, 2) := by decide +kernel
theorem dX9_question_33 : decode cX9_question 33 = .ok (.invokevirtual 48, 3) := by decide +kernel
theorem dX9_question_36 : decode cX9_question 36 = .ok (.ireturn, 1) := by decide +kernel
theorem dX9_question_37 : decode cX9_question 37 = .ok (.aload_n 0, 1) := by decide +kernel
theorem dX9_question_38 : decode cX9_question 38 = .ok (.getfield 24, 3) := by decide +kernel
theorem dX9_question_41 : decode cX9_question 41 = .ok (.iload_n 1, 1) := by decide +kernel
theorem dX9_question_42 : decode cX9_question 42 = .ok (.iload_n 2, 1) := by decide +kernel
theorem dX9_question_43 : decode cX9_question 43 = .ok (.iload_n 3, 1) := by decide +kernel
theorem dX9_question_44 : decode cX9_question 44 = .ok (.invokevirtual 174, 3) := by decide +kernel
theorem dX9_question_47 : decode cX9_question 47 = .ok (.ireturn, 1) := by decide +kernel
theorem dX9_order_0 : decode cX9_order 0 = .ok (.aload_n 0, 1) := by decide +kernel
theorem dX9_order_1 : decode cX9_order 1 = .ok (.getfield 10, 3) := by decide +kernel
theorem dX9_order_4 : decode cX9_order 4 = .ok (.getfield 77, 3) := by decide +kernel
theorem dX9_order_7 : decode cX9_order 7 = .ok (.iload_n 1, 1) := by decide +kernel
theorem dX9_order_8 : decode cX9_order 8 = .ok (.invokevirtual 97, 3) := by decide +kernel
theorem dX9_order_11 : decode cX9_order 11 = .ok (.ifCond .eq 39, 3) := by decide +kernel
theorem dX9_order_14 : decode cX9_order 14 = .ok (.aload_n 0, 1) := by decide +kernel
theorem dX9_order_15 : decode cX9_order 15 = .ok (.getfield 10, 3) := by decide +kernel
theorem dX9_order_18 : decode cX9_order 18 = .ok (.getfield 52, 3) := by decide +kernel
theorem dX9_order_21 : decode cX9_order 21 = .ok (.iload_n 2, 1) := by decide +kernel
theorem dX9_order_22 : decode cX9_order 22 = .ok (.invokevirtual 65, 3) := by decide +kernel
theorem dX9_order_25 : decode cX9_order 25 = .ok (.ifCond .eq 25, 3) := by decide +kernel
theorem dX9_order_28 : decode cX9_order 28 = .ok (.aload_n 0, 1) := by decide +kernel
theorem dX9_order_29 : decode cX9_order 29 = .ok (.getfield 10, 3) := by decide +kernel
theorem dX9_order_32 : decode cX9_order 32 = .ok (.getfield 52, 3) := by decide +kernel
theorem dX9_order_35 : decode cX9_order 35 = .ok (.iload_n 3, 1) := by decide +kernel
theorem dX9_order_36 : decode cX9_order 36 = .ok (.invokevirtual 65, 3) := by decide +kernel
theorem dX9_order_39 : decode cX9_order 39 = .ok (.ifCond .eq 11, 3) := by decide +kernel
theorem dX9_order_42 : decode cX9_order 42 = .ok (.iload 4, 2) := by decide +kernel
theorem dX9_order_44 : decode cX9_order 44 = .ok (.invokestatic 74, 3) := by decide +kernel
theorem dX9_order_47 : decode cX9_order 47 = .ok (.ifCond .ne 10, 3) := by decide +kernel
theorem dX9_order_50 : decode cX9_order 50 = .ok (.aload_n 0, 1) := by decide +kernel
theorem dX9_order_51 : decode cX9_order 51 = .ok (.ldc 47, 2) := by decide +kernel
theorem dX9_order_53 : decode cX9_order 53 = .ok (.invokevirtual 48, 3) := by decide +kernel
theorem dX9_order_56 : decode cX9_order 56 = .ok (.ireturn, 1) := by decide +kernel
theorem dX9_order_57 : decode cX9_order 57 = .ok (.iload_n 2, 1) := by decide +kernel
theorem dX9_order_58 : decode cX9_order 58 = .ok (.iload_n 3, 1) := by decide +kernel
theorem dX9_order_59 : decode cX9_order 59 = .ok (.if_icmp .ne 10, 3) := by decide +kernel
theorem dX9_order_62 : decode cX9_order 62 = .ok (.aload_n 0, 1) := by decide +kernel
theorem dX9_order_63 : decode cX9_order 63 = .ok (.ldc 69, 2) := by decide +kernel
theorem dX9_order_65 : decode cX9_order 65 = .ok (.invokevirtual 48, 3) := by decide +kernel
theorem dX9_order_68 : decode cX9_order 68 = .ok (.ireturn, 1) := by decide +kernel
theorem dX9_order_69 : decode cX9_order 69 = .ok (.aload_n 0, 1) := by decide +kernel
theorem dX9_order_70 : decode cX9_order 70 = .ok (.getfield 10, 3) := by decide +kernel
theorem dX9_order_73 : decode cX9_order 73 = .ok (.getfield 177, 3) := by decide +kernel
theorem dX9_order_76 : decode cX9_order 76 = .ok (.getfield 181, 3) := by decide +kernel
theorem dX9_order_79 : decode cX9_order 79 = .ok (.bipush 20, 2) := by decide +kernel
theorem dX9_order_81 : decode cX9_order 81 = .ok (.if_icmp .lt 10, 3) := by decide +kernel
theorem dX9_order_84 : decode cX9_order 84 = .ok (.aload_n 0, 1) := by decide +kernel
theorem dX9_order_85 : decode cX9_order 85 = .ok (.ldc 61, 2) := by decide +kernel
theorem dX9_order_87 : decode cX9_order 87 = .ok (.invokevirtual 48, 3) := by decide +kernel
theorem dX9_order_90 : decode cX9_order 90 = .ok (.ireturn, 1) := by decide +kernel
theorem dX9_order_91 : decode cX9_order 91 = .ok (.aload_n 0, 1) := by decide +kernel
theorem dX9_order_92 : decode cX9_order 92 = .ok (.getfield 10, 3) := by decide +kernel
theorem dX9_order_95 : decode cX9_order 95 = .ok (.getfield 177, 3) := by decide +kernel
theorem dX9_order_98 : decode cX9_order 98 = .ok (.iload_n 1, 1) := by decide +kernel
theorem dX9_order_99 : decode cX9_order 99 = .ok (.iload_n 2, 1) := by decide +kernel
theorem dX9_order_100 : decode cX9_order 100 = .ok (.iload_n 3, 1) := by decide +kernel
theorem dX9_order_101 : decode cX9_order 101 = .ok (.iload 4, 2) := by decide +kernel
theorem dX9_order_103 : decode cX9_order 103 = .ok (.iconst 4, 1) := by decide +kernel
theorem dX9_order_104 : decode cX9_order 104 = .ok (.aload_n 0, 1) := by decide +kernel
theorem dX9_order_105 : decode cX9_order 105 = .ok (.getfield 10, 3) := by decide +kernel
theorem dX9_order_108 : decode cX9_order 108 = .ok (.getfield 52, 3) := by decide +kernel
theorem dX9_order_111 : decode cX9_order 111 = .ok (.getfield 70, 3) := by decide +kernel
theorem dX9_order_114 : decode cX9_order 114 = .ok (.iload_n 2, 1) := by decide +kernel
theorem dX9_order_115 : decode cX9_order 115 = .ok (.aaload, 1) := by decide +kernel
theorem dX9_order_116 : decode cX9_order 116 = .ok (.iload_n 3, 1) := by decide +kernel
theorem dX9_order_117 : decode cX9_order 117 = .ok (.iaload, 1) := by decide +kernel
theorem dX9_order_118 : decode cX9_order 118 = .ok (.imul, 1) := by decide +kernel
theorem dX9_order_119 : decode cX9_order 119 = .ok (.invokevirtual 184, 3) := by decide +kernel
theorem dX9_order_122 : decode cX9_order 122 = .ok (.ireturn, 1) := by decide +kernel
theorem dX9_appeal_0 : decode cX9_appeal 0 = .ok (.aload_n 0, 1) := by decide +kernel
theorem dX9_appeal_1 : decode cX9_appeal 1 = .ok (.getfield 10, 3) := by decide +kernel
theorem dX9_appeal_4 : decode cX9_appeal 4 = .ok (.getfield 177, 3) := by decide +kernel
theorem dX9_appeal_7 : decode cX9_appeal 7 = .ok (.iload_n 1, 1) := by decide +kernel
theorem dX9_appeal_8 : decode cX9_appeal 8 = .ok (.invokevirtual 187, 3) := by decide +kernel
theorem dX9_appeal_11 : decode cX9_appeal 11 = .ok (.ifCond .eq 10, 3) := by decide +kernel
theorem dX9_appeal_14 : decode cX9_appeal 14 = .ok (.iload_n 2, 1) := by decide +kernel
theorem dX9_appeal_15 : decode cX9_appeal 15 = .ok (.invokestatic 74, 3) := by decide +kernel
theorem dX9_appeal_18 : decode cX9_appeal 18 = .ok (.ifCond .ne 10, 3) := by decide +kernel
theorem dX9_appeal_21 : decode cX9_appeal 21 = .ok (.aload_n 0, 1) := by decide +kernel
theorem dX9_appeal_22 : decode cX9_appeal 22 = .ok (.ldc 47, 2) := by decide +kernel
theorem dX9_appeal_24 : decode cX9_appeal 24 = .ok (.invokevirtual 48, 3) := by decide +kernel
theorem dX9_appeal_27 : decode cX9_appeal 27 = .ok (.ireturn, 1) := by decide +kernel
theorem dX9_appeal_28 : decode cX9_appeal 28 = .ok (.aload_n 0, 1) := by decide +kernel
theorem dX9_appeal_29 : decode cX9_appeal 29 = .ok (.getfield 10, 3) := by decide +kernel
theorem dX9_appeal_32 : decode cX9_appeal 32 = .ok (.getfield 177, 3) := by decide +kernel
theorem dX9_appeal_35 : decode cX9_appeal 35 = .ok (.getfield 188, 3) := by decide +kernel
theorem dX9_appeal_38 : decode cX9_appeal 38 = .ok (.iload_n 1, 1) := by decide +kernel
theorem dX9_appeal_39 : decode cX9_appeal 39 = .ok (.iaload, 1) := by decide +kernel
theorem dX9_appeal_40 : decode cX9_appeal 40 = .ok (.ifCond .eq 10, 3) := by decide +kernel
theorem dX9_appeal_43 : decode cX9_appeal 43 = .ok (.aload_n 0, 1) := by decide +kernel
theorem dX9_appeal_44 : decode cX9_appeal 44 = .ok (.ldc 102, 2) := by decide +kernel
theorem dX9_appeal_46 : decode cX9_appeal 46 = .ok (.invokevirtual 48, 3) := by decide +kernel
theorem dX9_appeal_49 : decode cX9_appeal 49 = .ok (.ireturn, 1) := by decide +kernel
theorem dX9_appeal_50 : decode cX9_appeal 50 = .ok (.aload_n 0, 1) := by decide +kernel
theorem dX9_appeal_51 : decode cX9_appeal 51 = .ok (.getfield 10, 3) := by decide +kernel
theorem dX9_appeal_54 : decode cX9_appeal 54 = .ok (.getfield 177, 3) := by decide +kernel
theorem dX9_appeal_57 : decode cX9_appeal 57 = .ok (.getfield 191, 3) := by decide +kernel
theorem dX9_appeal_60 : decode cX9_appeal 60 = .ok (.iload_n 1, 1) := by decide +kernel
theorem dX9_appeal_61 : decode cX9_appeal 61 = .ok (.iaload, 1) := by decide +kernel
theorem dX9_appeal_62 : decode cX9_appeal 62 = .ok (.istore_n 3, 1) := by decide +kernel
theorem dX9_appeal_63 : decode cX9_appeal 63 = .ok (.iload_n 2, 1) := by decide +kernel
theorem dX9_appeal_64 : decode cX9_appeal 64 = .ok (.iload_n 3, 1) := by decide +kernel
theorem dX9_appeal_65 : decode cX9_appeal 65 = .ok (.if_icmp .lt 16, 3) := by decide +kernel
theorem dX9_appeal_68 : decode cX9_appeal 68 = .ok (.iload_n 2, 1) := by decide +kernel
theorem dX9_appeal_69 : decode cX9_appeal 69 = .ok (.iload_n 3, 1) := by decide +kernel
theorem dX9_appeal_70 : decode cX9_appeal 70 = .ok (.isub, 1) := by decide +kernel
theorem dX9_appeal_71 : decode cX9_appeal 71 = .ok (.aload_n 0, 1) := by decide +kernel
theorem dX9_appeal_72 : decode cX9_appeal 72 = .ok (.getfield 10, 3) := by decide +kernel
theorem dX9_appeal_75 : decode cX9_appeal 75 = .ok (.getfield 194, 3) := by decide +kernel
theorem dX9_appeal_78 : decode cX9_appeal 78 = .ok (.if_icmp .le 10, 3) := by decide +kernel
theorem dX9_appeal_81 : decode cX9_appeal 81 = .ok (.aload_n 0, 1) := by decide +kernel
theorem dX9_appeal_82 : decode cX9_appeal 82 = .ok (.ldc 197, 2) := by decide +kernel
theorem dX9_appeal_84 : decode cX9_appeal 84 = .ok (.invokevirtual 48, 3) := by decide +kernel
theorem dX9_appeal_87 : decode cX9_appeal 87 = .ok (.ireturn, 1) := by decide +kernel
theorem dX9_appeal_88 : decode cX9_appeal 88 = .ok (.aload_n 0, 1) := by decide +kernel
theorem dX9_appeal_89 : decode cX9_appeal 89 = .ok (.getfield 24, 3) := by decide +kernel
theorem dX9_appeal_92 : decode cX9_appeal 92 = .ok (.aload_n 0, 1) := by decide +kernel
theorem dX9_appeal_93 : decode cX9_appeal 93 = .ok (.getfield 10, 3) := by decide +kernel
theorem dX9_appeal_96 : decode cX9_appeal 96 = .ok (.getfield 177, 3) := by decide +kernel
theorem dX9_appeal_99 : decode cX9_appeal 99 = .ok (.getfield 198, 3) := by decide +kernel
theorem dX9_appeal_102 : decode cX9_appeal 102 = .ok (.iload_n 1, 1) := by decide +kernel
theorem dX9_appeal_103 : decode cX9_appeal 103 = .ok (.iaload, 1) := by decide +kernel
theorem dX9_appeal_104 : decode cX9_appeal 104 = .ok (.iload_n 3, 1) := by decide +kernel
theorem dX9_appeal_105 : decode cX9_appeal 105 = .ok (.iload_n 2, 1) := by decide +kernel
theorem dX9_appeal_106 : decode cX9_appeal 106 = .ok (.invokevirtual 165, 3) := by decide +kernel
theorem dX9_appeal_109 : decode cX9_appeal 109 = .ok (.istore 4, 2) := by decide +kernel
theorem dX9_appeal_111 : decode cX9_appeal 111 = .ok (.iload 4, 2) := by decide +kernel
theorem dX9_appeal_113 : decode cX9_appeal 113 = .ok (.aload_n 0, 1) := by decide +kernel
theorem dX9_appeal_114 : decode cX9_appeal 114 = .ok (.getfield 10, 3) := by decide +kernel
theorem dX9_appeal_117 : decode cX9_appeal 117 = .ok (.getfield 177, 3) := by decide +kernel
theorem dX9_appeal_120 : decode cX9_appeal 120 = .ok (.getfield 201, 3) := by decide +kernel
theorem dX9_appeal_123 : decode cX9_appeal 123 = .ok (.iload_n 1, 1) := by decide +kernel
theorem dX9_appeal_124 : decode cX9_appeal 124 = .ok (.iaload, 1) := by decide +kernel
theorem dX9_appeal_125 : decode cX9_appeal 125 = .ok (.if_icmp .ne 7, 3) := by decide +kernel
theorem dX9_appeal_128 : decode cX9_appeal 128 = .ok (.iconst 1, 1) := by decide +kernel
theorem dX9_appeal_129 : decode cX9_appeal 129 = .ok (.goto 4, 3) := by decide +kernel
theorem dX9_appeal_132 : decode cX9_appeal 132 = .ok (.iconst 0, 1) := by decide +kernel
theorem dX9_appeal_133 : decode cX9_appeal 133 = .ok (.istore 5, 2) := by decide +kernel
theorem dX9_appeal_135 : decode cX9_appeal 135 = .ok (.aload_n 0, 1) := by decide +kernel
theorem dX9_appeal_136 : decode cX9_appeal 136 = .ok (.getfield 10, 3) := by decide +kernel
theorem dX9_appeal_139 : decode cX9_appeal 139 = .ok (.getfield 177, 3) := by decide +kernel
theorem dX9_appeal_142 : decode cX9_appeal 142 = .ok (.getfield 188, 3) := by decide +kernel
theorem dX9_appeal_145 : decode cX9_appeal 145 = .ok (.iload_n 1, 1) := by decide +kernel
theorem dX9_appeal_146 : decode cX9_appeal 146 = .ok (.iload 5, 2) := by decide +kernel
theorem dX9_appeal_148 : decode cX9_appeal 148 = .ok (.ifCond .eq 7, 3) := by decide +kernel
theorem dX9_appeal_151 : decode cX9_appeal 151 = .ok (.iconst 1, 1) := by decide +kernel
theorem dX9_appeal_152 : decode cX9_appeal 152 = .ok (.goto 4, 3) := by decide +kernel
theorem dX9_appeal_155 : decode cX9_appeal 155 = .ok (.iconst 2, 1) := by decide +kernel
theorem dX9_appeal_156 : decode cX9_appeal 156 = .ok (.iastore, 1) := by decide +kernel
theorem dX9_appeal_157 : decode cX9_appeal 157 = .ok (.iload 5, 2) := by decide +kernel
theorem dX9_appeal_159 : decode cX9_appeal 159 = .ok (.ifCond .eq 7, 3) := by decide +kernel
theorem dX9_appeal_162 : decode cX9_appeal 162 = .ok (.iconst 0, 1) := by decide +kernel
theorem dX9_appeal_163 : decode cX9_appeal 163 = .ok (.goto 4, 3) := by decide +kernel
theorem dX9_appeal_166 : decode cX9_appeal 166 = .ok (.iconst 1, 1) := by decide +kernel
theorem dX9_appeal_167 : decode cX9_appeal 167 = .ok (.ireturn, 1) := by decide +kernel
theorem dX9_ordered_0 : decode cX9_ordered 0 = .ok (.aload_n 0, 1) := by decide +kernel
theorem dX9_ordered_1 : decode cX9_ordered 1 = .ok (.getfield 10, 3) := by decide +kernel
theorem dX9_ordered_4 : decode cX9_ordered 4 = .ok (.getfield 177, 3) := by decide +kernel
theorem dX9_ordered_7 : decode cX9_ordered 7 = .ok (.iload_n 1, 1) := by decide +kernel
theorem dX9_ordered_8 : decode cX9_ordered 8 = .ok (.invokevirtual 187, 3) := by decide +kernel
theorem dX9_ordered_11 : decode cX9_ordered 11 = .ok (.ifCond .ne 10, 3) := by decide +kernel
theorem dX9_ordered_14 : decode cX9_ordered 14 = .ok (.aload_n 0, 1) := by decide +kernel
theorem dX9_ordered_15 : decode cX9_ordered 15 = .ok (.ldc 47, 2) := by decide +kernel
theorem dX9_ordered_17 : decode cX9_ordered 17 = .ok (.invokevirtual 48, 3) := by decide +kernel
theorem dX9_ordered_20 : decode cX9_ordered 20 = .ok (.ireturn, 1) := by decide +kernel
theorem dX9_ordered_21 : decode cX9_ordered 21 = .ok (.iload_n 2, 1) := by decide +kernel
theorem dX9_ordered_22 : decode cX9_ordered 22 = .ok (.tableswitch 116 0 5 #[38, 51, 64, 77, 90, 103], 38) := by decide +kernel
theorem dX9_ordered_60 : decode cX9_ordered 60 = .ok (.aload_n 0, 1) := by decide +kernel
theorem dX9_ordered_61 : decode cX9_ordered 61 = .ok (.getfield 10, 3) := by decide +kernel
theorem dX9_ordered_64 : decode cX9_ordered 64 = .ok (.getfield 177, 3) := by decide +kernel
theorem dX9_ordered_67 : decode cX9_ordered 67 = .ok (.getfield 198, 3) := by decide +kernel
theorem dX9_ordered_70 : decode cX9_ordered 70 = .ok (.iload_n 1, 1) := by decide +kernel
theorem dX9_ordered_71 : decode cX9_ordered 71 = .ok (.iaload, 1) := by decide +kernel
theorem dX9_ordered_72 : decode cX9_ordered 72 = .ok (.ireturn, 1) := by decide +kernel
theorem dX9_ordered_73 : decode cX9_ordered 73 = .ok (.aload_n 0, 1) := by decide +kernel
theorem dX9_ordered_74 : decode cX9_ordered 74 = .ok (.getfield 10, 3) := by decide +kernel
theorem dX9_ordered_77 : decode cX9_ordered 77 = .ok (.getfield 177, 3) := by decide +kernel
theorem dX9_ordered_80 : decode cX9_ordered 80 = .ok (.getfield 202, 3) := by decide +kernel
theorem dX9_ordered_83 : decode cX9_ordered 83 = .ok (.iload_n 1, 1) := by decide +kernel
theorem dX9_ordered_84 : decode cX9_ordered 84 = .ok (.iaload, 1) := by decide +kernel
theorem dX9_ordered_85 : decode cX9_ordered 85 = .ok (.ireturn, 1) := by decide +kernel
theorem dX9_ordered_86 : decode cX9_ordered 86 = .ok (.aload_n 0, 1) := by decide +kernel
theorem dX9_ordered_87 : decode cX9_ordered 87 = .ok (.getfield 10, 3) := by decide +kernel
theorem dX9_ordered_90 : decode cX9_ordered 90 = .ok (.getfield 177, 3) := by decide +kernel
theorem dX9_ordered_93 : decode cX9_ordered 93 = .ok (.getfield 201, 3) := by decide +kernel
theorem dX9_ordered_96 : decode cX9_ordered 96 = .ok (.iload_n 1, 1) := by decide +kernel
theorem dX9_ordered_97 : decode cX9_ordered 97 = .ok (.iaload, 1) := by decide +kernel
theorem dX9_ordered_98 : decode cX9_ordered 98 = .ok (.ireturn, 1) := by decide +kernel
theorem dX9_ordered_99 : decode cX9_ordered 99 = .ok (.aload_n 0, 1) := by decide +kernel
theorem dX9_ordered_100 : decode cX9_ordered 100 = .ok (.getfield 10, 3) := by decide +kernel
theorem dX9_ordered_103 : decode cX9_ordered 103 = .ok (.getfield 177, 3) := by decide +kernel
theorem dX9_ordered_106 : decode cX9_ordered 106 = .ok (.getfield 191, 3) := by decide +kernel
theorem dX9_ordered_109 : decode cX9_ordered 109 = .ok (.iload_n 1, 1) := by decide +kernel
theorem dX9_ordered_110 : decode cX9_ordered 110 = .ok (.iaload, 1) := by decide +kernel
theorem dX9_ordered_111 : decode cX9_ordered 111 = .ok (.ireturn, 1) := by decide +kernel
theorem dX9_ordered_112 : decode cX9_ordered 112 = .ok (.aload_n 0, 1) := by decide +kernel
theorem dX9_ordered_113 : decode cX9_ordered 113 = .ok (.getfield 10, 3) := by decide +kernel
theorem dX9_ordered_116 : decode cX9_ordered 116 = .ok (.getfield 177, 3) := by decide +kernel
theorem dX9_ordered_119 : decode cX9_ordered 119 = .ok (.getfield 203, 3) := by decide +kernel
theorem dX9_ordered_122 : decode cX9_ordered 122 = .ok (.iload_n 1, 1) := by decide +kernel
theorem dX9_ordered_123 : decode cX9_ordered 123 = .ok (.iaload, 1) := by decide +kernel
theorem dX9_ordered_124 : decode cX9_ordered 124 = .ok (.ireturn, 1) := by decide +kernel
theorem dX9_ordered_125 : decode cX9_ordered 125 = .ok (.aload_n 0, 1) := by decide +kernel
theorem dX9_ordered_126 : decode cX9_ordered 126 = .ok (.getfield 10, 3) := by decide +kernel
theorem dX9_ordered_129 : decode cX9_ordered 129 = .ok (.getfield 177, 3) := by decide +kernel
theorem dX9_ordered_132 : decode cX9_ordered 132 = .ok (.getfield 188, 3) := by decide +kernel
theorem dX9_ordered_135 : decode cX9_ordered 135 = .ok (.iload_n 1, 1) := by decide +kernel
theorem dX9_ordered_136 : decode cX9_ordered 136 = .ok (.iaload, 1) := by decide +kernel
theorem dX9_ordered_137 : decode cX9_ordered 137 = .ok (.ireturn, 1) := by decide +kernel
theorem dX9_ordered_138 : decode cX9_ordered 138 = .ok (.aload_n 0, 1) := by decide +kernel
theorem dX9_ordered_139 : decode cX9_ordered 139 = .ok (.ldc 47, 2) := by decide +kernel
theorem dX9_ordered_141 : decode cX9_ordered 141 = .ok (.invokevirtual 48, 3) := by decide +kernel
theorem dX9_ordered_144 : decode cX9_ordered 144 = .ok (.ireturn, 1) := by decide +kernel
theorem dX9_costs_0 : decode cX9_costs 0 = .ok (.aload_n 0, 1) := by decide +kernel
theorem dX9_costs_1 : decode cX9_costs 1 = .ok (.getfield 10, 3) := by decide +kernel
theorem dX9_costs_4 : decode cX9_costs 4 = .ok (.getfield 52, 3) := by decide +kernel
theorem dX9_costs_7 : decode cX9_costs 7 = .ok (.iload_n 1, 1) := by decide +kernel
theorem dX9_costs_8 : decode cX9_costs 8 = .ok (.invokevirtual 65, 3) := by decide +kernel
theorem dX9_costs_11 : decode cX9_costs 11 = .ok (.ifCond .ne 10, 3) := by decide +kernel
theorem dX9_costs_14 : decode cX9_costs 14 = .ok (.aload_n 0, 1) := by decide +kernel
theorem dX9_costs_15 : decode cX9_costs 15 = .ok (.ldc 47, 2) := by decide +kernel
theorem dX9_costs_17 : decode cX9_costs 17 = .ok (.invokevirtual 48, 3) := by decide +kernel
theorem dX9_costs_20 : decode cX9_costs 20 = .ok (.ireturn, 1) := by decide +kernel
theorem dX9_costs_21 : decode cX9_costs 21 = .ok (.aload_n 0, 1) := by decide +kernel
theorem dX9_costs_22 : decode cX9_costs 22 = .ok (.getfield 10, 3) := by decide +kernel
theorem dX9_costs_25 : decode cX9_costs 25 = .ok (.getfield 177, 3) := by decide +kernel
theorem dX9_costs_28 : decode cX9_costs 28 = .ok (.iload_n 1, 1) := by decide +kernel
theorem dX9_costs_29 : decode cX9_costs 29 = .ok (.invokevirtual 206, 3) := by decide +kernel
theorem dX9_costs_32 : decode cX9_costs 32 = .ok (.ireturn, 1) := by decide +kernel
theorem dX9_set_0 : decode cX9_set 0 = .ok (.iload_n 1, 1) := by decide +kernel
theorem dX9_set_1 : decode cX9_set 1 = .ok (.ifCond .ne 32, 3) := by decide +kernel
theorem dX9_set_4 : decode cX9_set 4 = .ok (.iload_n 2, 1) := by decide +kernel
theorem dX9_set_5 : decode cX9_set 5 = .ok (.iconst 0, 1) := by decide +kernel
theorem dX9_set_6 : decode cX9_set 6 = .ok (.sipush 999, 3) := by decide +kernel
theorem dX9_set_9 : decode cX9_set 9 = .ok (.invokestatic 43, 3) := by decide +kernel
theorem dX9_set_12 : decode cX9_set 12 = .ok (.ifCond .eq 21, 3) := by decide +kernel
theorem dX9_set_15 : decode cX9_set 15 = .ok (.aload_n 0, 1) := by decide +kernel
theorem dX9_set_16 : decode cX9_set 16 = .ok (.getfield 10, 3) := by decide +kernel
theorem dX9_set_19 : decode cX9_set 19 = .ok (.getfield 194, 3) := by decide +kernel
theorem dX9_set_22 : decode cX9_set 22 = .ok (.istore_n 3, 1) := by decide +kernel
theorem dX9_set_23 : decode cX9_set 23 = .ok (.aload_n 0, 1) := by decide +kernel
theorem dX9_set_24 : decode cX9_set 24 = .ok (.getfield 10, 3) := by decide +kernel
theorem dX9_set_27 : decode cX9_set 27 = .ok (.iload_n 2, 1) := by decide +kernel
theorem dX9_set_28 : decode cX9_set 28 = .ok (.putfield 194, 3) := by decide +kernel
theorem dX9_set_31 : decode cX9_set 31 = .ok (.iload_n 3, 1) := by decide +kernel
theorem dX9_set_32 : decode cX9_set 32 = .ok (.ireturn, 1) := by decide +kernel
theorem dX9_set_33 : decode cX9_set 33 = .ok (.iload_n 1, 1) := by decide +kernel
theorem dX9_set_34 : decode cX9_set 34 = .ok (.iconst 1, 1) := by decide +kernel
theorem dX9_set_35 : decode cX9_set 35 = .ok (.if_icmp .ne 37, 3) := by decide +kernel
theorem dX9_set_38 : decode cX9_set 38 = .ok (.iload_n 2, 1) := by decide +kernel
theorem dX9_set_39 : decode cX9_set 39 = .ok (.iconst 1, 1) := by decide +kernel
theorem dX9_set_40 : decode cX9_set 40 = .ok (.bipush 20, 2) := by decide +kernel
theorem dX9_set_42 : decode cX9_set 42 = .ok (.invokestatic 43, 3) := by decide +kernel
theorem dX9_set_45 : decode cX9_set 45 = .ok (.ifCond .eq 27, 3) := by decide +kernel
theorem dX9_set_48 : decode cX9_set 48 = .ok (.aload_n 0, 1) := by decide +kernel
theorem dX9_set_49 : decode cX9_set 49 = .ok (.getfield 10, 3) := by decide +kernel
theorem dX9_set_52 : decode cX9_set 52 = .ok (.getfield 87, 3) := by decide +kernel
theorem dX9_set_55 : decode cX9_set 55 = .ok (.getfield 209, 3) := by decide +kernel
theorem dX9_set_58 : decode cX9_set 58 = .ok (.istore_n 3, 1) := by decide +kernel
theorem dX9_set_59 : decode cX9_set 59 = .ok (.aload_n 0, 1) := by decide +kernel
theorem dX9_set_60 : decode cX9_set 60 = .ok (.getfield 10, 3) := by decide +kernel
theorem dX9_set_63 : decode cX9_set 63 = .ok (.getfield 87, 3) := by decide +kernel
theorem dX9_set_66 : decode cX9_set 66 = .ok (.iload_n 2, 1) := by decide +kernel
theorem dX9_set_67 : decode cX9_set 67 = .ok (.putfield 209, 3) := by decide +kernel
theorem dX9_set_70 : decode cX9_set 70 = .ok (.iload_n 3, 1) := by decide +kernel
theorem dX9_set_71 : decode cX9_set 71 = .ok (.ireturn, 1) := by decide +kernel
theorem dX9_set_72 : decode cX9_set 72 = .ok (.aload_n 0, 1) := by decide +kernel
theorem dX9_set_73 : decode cX9_set 73 = .ok (.ldc 47, 2) := by decide +kernel
theorem dX9_set_75 : decode cX9_set 75 = .ok (.invokevirtual 48, 3) := by decide +kernel
theorem dX9_set_78 : decode cX9_set 78 = .ok (.ireturn, 1) := by decide +kernel
theorem dX9_list_0 : decode cX9_list 0 = .ok (.iload_n 2, 1) := by decide +kernel
theorem dX9_list_1 : decode cX9_list 1 = .ok (.iconst (-1), 1) := by decide +kernel
theorem dX9_list_2 : decode cX9_list 2 = .ok (.if_icmp .ne 7, 3) := by decide +kernel
theorem dX9_list_5 : decode cX9_list 5 = .ok (.iconst 1, 1) := by decide +kernel
theorem dX9_list_6 : decode cX9_list 6 = .ok (.goto 4, 3) := by decide +kernel
theorem dX9_list_9 : decode cX9_list 9 = .ok (.iconst 0, 1) := by decide +kernel
theorem dX9_list_10 : decode cX9_list 10 = .ok (.istore 4, 2) := by decide +kernel
theorem dX9_list_12 : decode cX9_list 12 = .ok (.aload_n 0, 1) := by decide +kernel
theorem dX9_list_13 : decode cX9_list 13 = .ok (.getfield 10, 3) := by decide +kernel
theorem dX9_list_16 : decode cX9_list 16 = .ok (.getfield 77, 3) := by decide +kernel
theorem dX9_list_19 : decode cX9_list 19 = .ok (.iload_n 1, 1) := by decide +kernel
theorem dX9_list_20 : decode cX9_list 20 = .ok (.invokevirtual 97, 3) := by decide +kernel
theorem dX9_list_23 : decode cX9_list 23 = .ok (.ifCond .eq 29, 3) := by decide +kernel
theorem dX9_list_26 : decode cX9_list 26 = .ok (.iload 4, 2) := by decide +kernel
theorem dX9_list_28 : decode cX9_list 28 = .ok (.ifCond .ne 31, 3) := by decide +kernel
theorem dX9_list_31 : decode cX9_list 31 = .ok (.aload_n 0, 1) := by decide +kernel
theorem dX9_list_32 : decode cX9_list 32 = .ok (.getfield 10, 3) := by decide +kernel
theorem dX9_list_35 : decode cX9_list 35 = .ok (.getfield 52, 3) := by decide +kernel
theorem dX9_list_38 : decode cX9_list 38 = .ok (.iload_n 2, 1) := by decide +kernel
theorem dX9_list_39 : decode cX9_list 39 = .ok (.invokevirtual 65, 3) := by decide +kernel
theorem dX9_list_42 : decode cX9_list 42 = .ok (.ifCond .eq 10, 3) := by decide +kernel
theorem dX9_list_45 : decode cX9_list 45 = .ok (.iload_n 3, 1) := by decide +kernel
theorem dX9_list_46 : decode cX9_list 46 = .ok (.invokestatic 212, 3) := by decide +kernel
theorem dX9_list_49 : decode cX9_list 49 = .ok (.ifCond .ne 10, 3) := by decide +kernel
theorem dX9_list_52 : decode cX9_list 52 = .ok (.aload_n 0, 1) := by decide +kernel
theorem dX9_list_53 : decode cX9_list 53 = .ok (.ldc 47, 2) := by decide +kernel
theorem dX9_list_55 : decode cX9_list 55 = .ok (.invokevirtual 48, 3) := by decide +kernel
theorem dX9_list_58 : decode cX9_list 58 = .ok (.ireturn, 1) := by decide +kernel
theorem dX9_list_59 : decode cX9_list 59 = .ok (.aload_n 0, 1) := by decide +kernel
theorem dX9_list_60 : decode cX9_list 60 = .ok (.getfield 10, 3) := by decide +kernel
theorem dX9_list_63 : decode cX9_list 63 = .ok (.getfield 87, 3) := by decide +kernel
theorem dX9_list_66 : decode cX9_list 66 = .ok (.getfield 215, 3) := by decide +kernel
theorem dX9_list_69 : decode cX9_list 69 = .ok (.iload_n 1, 1) := by decide +kernel
theorem dX9_list_70 : decode cX9_list 70 = .ok (.iaload, 1) := by decide +kernel
theorem dX9_list_71 : decode cX9_list 71 = .ok (.istore 5, 2) := by decide +kernel
theorem dX9_list_73 : decode cX9_list 73 = .ok (.aload_n 0, 1) := by decide +kernel
theorem dX9_list_74 : decode cX9_list 74 = .ok (.getfield 10, 3) := by decide +kernel
theorem dX9_list_77 : decode cX9_list 77 = .ok (.getfield 87, 3) := by decide +kernel
theorem dX9_list_80 : decode cX9_list 80 = .ok (.getfield 215, 3) := by decide +kernel
theorem dX9_list_83 : decode cX9_list 83 = .ok (.iload_n 1, 1) := by decide +kernel
theorem dX9_list_84 : decode cX9_list 84 = .ok (.iload_n 2, 1) := by decide +kernel
theorem dX9_list_85 : decode cX9_list 85 = .ok (.iastore, 1) := by decide +kernel
theorem dX9_list_86 : decode cX9_list 86 = .ok (.aload_n 0, 1) := by decide +kernel
theorem dX9_list_87 : decode cX9_list 87 = .ok (.getfield 10, 3) := by decide +kernel
theorem dX9_list_90 : decode cX9_list 90 = .ok (.getfield 87, 3) := by decide +kernel
theorem dX9_list_93 : decode cX9_list 93 = .ok (.getfield 218, 3) := by decide +kernel
theorem dX9_list_96 : decode cX9_list 96 = .ok (.iload_n 1, 1) := by decide +kernel
theorem dX9_list_97 : decode cX9_list 97 = .ok (.iload 4, 2) := by decide +kernel
theorem dX9_list_99 : decode cX9_list 99 = .ok (.ifCond .eq 7, 3) := by decide +kernel
theorem dX9_list_102 : decode cX9_list 102 = .ok (.iconst 0, 1) := by decide +kernel
theorem dX9_list_103 : decode cX9_list 103 = .ok (.goto 4, 3) := by decide +kernel
theorem dX9_list_106 : decode cX9_list 106 = .ok (.iload_n 3, 1) := by decide +kernel
theorem dX9_list_107 : decode cX9_list 107 = .ok (.iastore, 1) := by decide +kernel
theorem dX9_list_108 : decode cX9_list 108 = .ok (.iload 5, 2) := by decide +kernel
theorem dX9_list_110 : decode cX9_list 110 = .ok (.ireturn, 1) := by decide +kernel
theorem dX9_earns_0 : decode cX9_earns 0 = .ok (.aload_n 0, 1) := by decide +kernel
theorem dX9_earns_1 : decode cX9_earns 1 = .ok (.getfield 10, 3) := by decide +kernel
theorem dX9_earns_4 : decode cX9_earns 4 = .ok (.getfield 77, 3) := by decide +kernel
theorem dX9_earns_7 : decode cX9_earns 7 = .ok (.iload_n 1, 1) := by decide +kernel
theorem dX9_earns_8 : decode cX9_earns 8 = .ok (.invokevirtual 97, 3) := by decide +kernel
theorem dX9_earns_11 : decode cX9_earns 11 = .ok (.ifCond .eq 14, 3) := by decide +kernel
theorem dX9_earns_14 : decode cX9_earns 14 = .ok (.iload_n 2, 1) := by decide +kernel
theorem dX9_earns_15 : decode cX9_earns 15 = .ok (.iconst 0, 1) := by decide +kernel
theorem dX9_earns_16 : decode cX9_earns 16 = .ok (.sipush 999, 3) := by decide +kernel
theorem dX9_earns_19 : decode cX9_earns 19 = .ok (.invokestatic 43, 3) := by decide +kernel
theorem dX9_earns_22 : decode cX9_earns 22 = .ok (.ifCond .ne 10, 3) := by decide +kernel
theorem dX9_earns_25 : decode cX9_earns 25 = .ok (.aload_n 0, 1) := by decide +kernel
theorem dX9_earns_26 : decode cX9_earns 26 = .ok (.ldc 47, 2) := by decide +kernel
theorem dX9_earns_28 : decode cX9_earns 28 = .ok (.invokevirtual 48, 3) := by decide +kernel
theorem dX9_earns_31 : decode cX9_earns 31 = .ok (.ireturn, 1) := by decide +kernel
theorem dX9_earns_32 : decode cX9_earns 32 = .ok (.aload_n 0, 1) := by decide +kernel
theorem dX9_earns_33 : decode cX9_earns 33 = .ok (.getfield 10, 3) := by decide +kernel
theorem dX9_earns_36 : decode cX9_earns 36 = .ok (.getfield 87, 3) := by decide +kernel
theorem dX9_earns_39 : decode cX9_earns 39 = .ok (.getfield 221, 3) := by decide +kernel
theorem dX9_earns_42 : decode cX9_earns 42 = .ok (.iload_n 1, 1) := by decide +kernel
theorem dX9_earns_43 : decode cX9_earns 43 = .ok (.iaload, 1) := by decide +kernel
theorem dX9_earns_44 : decode cX9_earns 44 = .ok (.istore_n 3, 1) := by decide +kernel
theorem dX9_earns_45 : decode cX9_earns 45 = .ok (.aload_n 0, 1) := by decide +kernel
theorem dX9_earns_46 : decode cX9_earns 46 = .ok (.getfield 10, 3) := by decide +kernel
theorem dX9_earns_49 : decode cX9_earns 49 = .ok (.getfield 87, 3) := by decide +kernel
theorem dX9_earns_52 : decode cX9_earns 52 = .ok (.getfield 221, 3) := by decide +kernel
theorem dX9_earns_55 : decode cX9_earns 55 = .ok (.iload_n 1, 1) := by decide +kernel
theorem dX9_earns_56 : decode cX9_earns 56 = .ok (.iload_n 2, 1) := by decide +kernel
theorem dX9_earns_57 : decode cX9_earns 57 = .ok (.iastore, 1) := by decide +kernel
theorem dX9_earns_58 : decode cX9_earns 58 = .ok (.iload_n 3, 1) := by decide +kernel
theorem dX9_earns_59 : decode cX9_earns 59 = .ok (.ireturn, 1) := by decide +kernel
theorem dX9_price_0 : decode cX9_price 0 = .ok (.iload_n 1, 1) := by decide +kernel
theorem dX9_price_1 : decode cX9_price 1 = .ok (.invokestatic 212, 3) := by decide +kernel
theorem dX9_price_4 : decode cX9_price 4 = .ok (.ifCond .eq 13, 3) := by decide +kernel
theorem dX9_price_7 : decode cX9_price 7 = .ok (.iload_n 2, 1) := by decide +kernel
theorem dX9_price_8 : decode cX9_price 8 = .ok (.iconst 0, 1) := by decide +kernel
theorem dX9_price_9 : decode cX9_price 9 = .ok (.bipush 99, 2) := by decide +kernel
theorem dX9_price_11 : decode cX9_price 11 = .ok (.invokestatic 43, 3) := by decide +kernel
theorem dX9_price_14 : decode cX9_price 14 = .ok (.ifCond .ne 10, 3) := by decide +kernel
theorem dX9_price_17 : decode cX9_price 17 = .ok (.aload_n 0, 1) := by decide +kernel
theorem dX9_price_18 : decode cX9_price 18 = .ok (.ldc 47, 2) := by decide +kernel
theorem dX9_price_20 : decode cX9_price 20 = .ok (.invokevirtual 48, 3) := by decide +kernel
theorem dX9_price_23 : decode cX9_price 23 = .ok (.ireturn, 1) := by decide +kernel
theorem dX9_price_24 : decode cX9_price 24 = .ok (.aload_n 0, 1) := by decide +kernel
theorem dX9_price_25 : decode cX9_price 25 = .ok (.getfield 10, 3) := by decide +kernel
theorem dX9_price_28 : decode cX9_price 28 = .ok (.getfield 87, 3) := by decide +kernel
theorem dX9_price_31 : decode cX9_price 31 = .ok (.getfield 224, 3) := by decide +kernel
theorem dX9_price_34 : decode cX9_price 34 = .ok (.iload_n 1, 1) := by decide +kernel
theorem dX9_price_35 : decode cX9_price 35 = .ok (.iaload, 1) := by decide +kernel
theorem dX9_price_36 : decode cX9_price 36 = .ok (.istore_n 3, 1) := by decide +kernel
theorem dX9_price_37 : decode cX9_price 37 = .ok (.aload_n 0, 1) := by decide +kernel
theorem dX9_price_38 : decode cX9_price 38 = .ok (.getfield 10, 3) := by decide +kernel
theorem dX9_price_41 : decode cX9_price 41 = .ok (.getfield 87, 3) := by decide +kernel
theorem dX9_price_44 : decode cX9_price 44 = .ok (.getfield 224, 3) := by decide +kernel
theorem dX9_price_47 : decode cX9_price 47 = .ok (.iload_n 1, 1) := by decide +kernel
theorem dX9_price_48 : decode cX9_price 48 = .ok (.iload_n 2, 1) := by decide +kernel
theorem dX9_price_49 : decode cX9_price 49 = .ok (.iastore, 1) := by decide +kernel
theorem dX9_price_50 : decode cX9_price 50 = .ok (.iload_n 3, 1) := by decide +kernel
theorem dX9_price_51 : decode cX9_price 51 = .ok (.ireturn, 1) := by decide +kernel
theorem dX9_relief_0 : decode cX9_relief 0 = .ok (.aload_n 0, 1) := by decide +kernel
theorem dX9_relief_1 : decode cX9_relief 1 = .ok (.getfield 10, 3) := by decide +kernel
theorem dX9_relief_4 : decode cX9_relief 4 = .ok (.getfield 77, 3) := by decide +kernel
theorem dX9_relief_7 : decode cX9_relief 7 = .ok (.iload_n 1, 1) := by decide +kernel
theorem dX9_relief_8 : decode cX9_relief 8 = .ok (.invokevirtual 97, 3) := by decide +kernel
theorem dX9_relief_11 : decode cX9_relief 11 = .ok (.ifCond .eq 10, 3) := by decide +kernel
theorem dX9_relief_14 : decode cX9_relief 14 = .ok (.iload_n 2, 1) := by decide +kernel
theorem dX9_relief_15 : decode cX9_relief 15 = .ok (.invokestatic 212, 3) := by decide +kernel
theorem dX9_relief_18 : decode cX9_relief 18 = .ok (.ifCond .ne 10, 3) := by decide +kernel
theorem dX9_relief_21 : decode cX9_relief 21 = .ok (.aload_n 0, 1) := by decide +kernel
theorem dX9_relief_22 : decode cX9_relief 22 = .ok (.ldc 47, 2) := by decide +kernel
theorem dX9_relief_24 : decode cX9_relief 24 = .ok (.invokevirtual 48, 3) := by decide +kernel
theorem dX9_relief_27 : decode cX9_relief 27 = .ok (.ireturn, 1) := by decide +kernel
theorem dX9_relief_28 : decode cX9_relief 28 = .ok (.aload_n 0, 1) := by decide +kernel
theorem dX9_relief_29 : decode cX9_relief 29 = .ok (.getfield 10, 3) := by decide +kernel
theorem dX9_relief_32 : decode cX9_relief 32 = .ok (.getfield 87, 3) := by decide +kernel
theorem dX9_relief_35 : decode cX9_relief 35 = .ok (.iload_n 1, 1) := by decide +kernel
theorem dX9_relief_36 : decode cX9_relief 36 = .ok (.iload_n 2, 1) := by decide +kernel
theorem dX9_relief_37 : decode cX9_relief 37 = .ok (.invokevirtual 227, 3) := by decide +kernel
theorem dX9_relief_40 : decode cX9_relief 40 = .ok (.iconst (-1), 1) := by decide +kernel
theorem dX9_relief_41 : decode cX9_relief 41 = .ok (.if_icmp .ne 10, 3) := by decide +kernel
theorem dX9_relief_44 : decode cX9_relief 44 = .ok (.aload_n 0, 1) := by decide +kernel
theorem dX9_relief_45 : decode cX9_relief 45 = .ok (.ldc 135, 2) := by decide +kernel
theorem dX9_relief_47 : decode cX9_relief 47 = .ok (.invokevirtual 48, 3) := by decide +kernel
theorem dX9_relief_50 : decode cX9_relief 50 = .ok (.ireturn, 1) := by decide +kernel
theorem dX9_relief_51 : decode cX9_relief 51 = .ok (.aload_n 0, 1) := by decide +kernel
theorem dX9_relief_52 : decode cX9_relief 52 = .ok (.getfield 10, 3) := by decide +kernel
theorem dX9_relief_55 : decode cX9_relief 55 = .ok (.getfield 87, 3) := by decide +kernel
theorem dX9_relief_58 : decode cX9_relief 58 = .ok (.getfield 224, 3) := by decide +kernel
theorem dX9_relief_61 : decode cX9_relief 61 = .ok (.iload_n 2, 1) := by decide +kernel
theorem dX9_relief_62 : decode cX9_relief 62 = .ok (.iaload, 1) := by decide +kernel
theorem dX9_relief_63 : decode cX9_relief 63 = .ok (.ifCond .ne 10, 3) := by decide +kernel
theorem dX9_relief_66 : decode cX9_relief 66 = .ok (.aload_n 0, 1) := by decide +kernel
theorem dX9_relief_67 : decode cX9_relief 67 = .ok (.ldc 231, 2) := by decide +kernel
theorem dX9_relief_69 : decode cX9_relief 69 = .ok (.invokevirtual 48, 3) := by decide +kernel
theorem dX9_relief_72 : decode cX9_relief 72 = .ok (.ireturn, 1) := by decide +kernel
theorem dX9_relief_73 : decode cX9_relief 73 = .ok (.aload_n 0, 1) := by decide +kernel
theorem dX9_relief_74 : decode cX9_relief 74 = .ok (.getfield 10, 3) := by decide +kernel
theorem dX9_relief_77 : decode cX9_relief 77 = .ok (.getfield 87, 3) := by decide +kernel
theorem dX9_relief_80 : decode cX9_relief 80 = .ok (.aload_n 0, 1) := by decide +kernel
theorem dX9_relief_81 : decode cX9_relief 81 = .ok (.getfield 10, 3) := by decide +kernel
theorem dX9_relief_84 : decode cX9_relief 84 = .ok (.getfield 77, 3) := by decide +kernel
theorem dX9_relief_87 : decode cX9_relief 87 = .ok (.iload_n 1, 1) := by decide +kernel
theorem dX9_relief_88 : decode cX9_relief 88 = .ok (.iload_n 2, 1) := by decide +kernel
theorem dX9_relief_89 : decode cX9_relief 89 = .ok (.invokevirtual 232, 3) := by decide +kernel
theorem dX9_relief_92 : decode cX9_relief 92 = .ok (.ireturn, 1) := by decide +kernel
theorem dX9_week_0 : decode cX9_week 0 = .ok (.aload_n 0, 1) := by decide +kernel
theorem dX9_week_1 : decode cX9_week 1 = .ok (.getfield 10, 3) := by decide +kernel
theorem dX9_week_4 : decode cX9_week 4 = .ok (.getfield 52, 3) := by decide +kernel
theorem dX9_week_7 : decode cX9_week 7 = .ok (.iload_n 1, 1) := by decide +kernel
theorem dX9_week_8 : decode cX9_week 8 = .ok (.invokevirtual 65, 3) := by decide +kernel
theorem dX9_week_11 : decode cX9_week 11 = .ok (.ifCond .eq 10, 3) := by decide +kernel
theorem dX9_week_14 : decode cX9_week 14 = .ok (.iload_n 2, 1) := by decide +kernel
theorem dX9_week_15 : decode cX9_week 15 = .ok (.invokestatic 212, 3) := by decide +kernel
theorem dX9_week_18 : decode cX9_week 18 = .ok (.ifCond .ne 10, 3) := by decide +kernel
theorem dX9_week_21 : decode cX9_week 21 = .ok (.aload_n 0, 1) := by decide +kernel
theorem dX9_week_22 : decode cX9_week 22 = .ok (.ldc 47, 2) := by decide +kernel
theorem dX9_week_24 : decode cX9_week 24 = .ok (.invokevirtual 48, 3) := by decide +kernel
theorem dX9_week_27 : decode cX9_week 27 = .ok (.ireturn, 1) := by decide +kernel
theorem dX9_week_28 : decode cX9_week 28 = .ok (.aload_n 0, 1) := by decide +kernel
theorem dX9_week_29 : decode cX9_week 29 = .ok (.getfield 10, 3) := by decide +kernel
theorem dX9_week_32 : decode cX9_week 32 = .ok (.getfield 87, 3) := by decide +kernel
theorem dX9_week_35 : decode cX9_week 35 = .ok (.getfield 224, 3) := by decide +kernel
theorem dX9_week_38 : decode cX9_week 38 = .ok (.iload_n 2, 1) := by decide +kernel
theorem dX9_week_39 : decode cX9_week 39 = .ok (.iaload, 1) := by decide +kernel
theorem dX9_week_40 : decode cX9_week 40 = .ok (.ifCond .ne 10, 3) := by decide +kernel
theorem dX9_week_43 : decode cX9_week 43 = .ok (.aload_n 0, 1) := by decide +kernel
theorem dX9_week_44 : decode cX9_week 44 = .ok (.ldc 231, 2) := by decide +kernel
theorem dX9_week_46 : decode cX9_week 46 = .ok (.invokevirtual 48, 3) := by decide +kernel
theorem dX9_week_49 : decode cX9_week 49 = .ok (.ireturn, 1) := by decide +kernel
theorem dX9_week_50 : decode cX9_week 50 = .ok (.aload_n 0, 1) := by decide +kernel
theorem dX9_week_51 : decode cX9_week 51 = .ok (.getfield 10, 3) := by decide +kernel
theorem dX9_week_54 : decode cX9_week 54 = .ok (.getfield 87, 3) := by decide +kernel
theorem dX9_week_57 : decode cX9_week 57 = .ok (.aload_n 0, 1) := by decide +kernel
theorem dX9_week_58 : decode cX9_week 58 = .ok (.getfield 10, 3) := by decide +kernel
theorem dX9_week_61 : decode cX9_week 61 = .ok (.getfield 77, 3) := by decide +kernel
theorem dX9_week_64 : decode cX9_week 64 = .ok (.iload_n 1, 1) := by decide +kernel
theorem dX9_week_65 : decode cX9_week 65 = .ok (.iload_n 2, 1) := by decide +kernel
theorem dX9_week_66 : decode cX9_week 66 = .ok (.invokevirtual 236, 3) := by decide +kernel
theorem dX9_week_69 : decode cX9_week 69 = .ok (.ireturn, 1) := by decide +kernel
theorem dX9_rate_0 : decode cX9_rate 0 = .ok (.aload_n 0, 1) := by decide +kernel
theorem dX9_rate_1 : decode cX9_rate 1 = .ok (.getfield 10, 3) := by decide +kernel
theorem dX9_rate_4 : decode cX9_rate 4 = .ok (.getfield 52, 3) := by decide +kernel
theorem dX9_rate_7 : decode cX9_rate 7 = .ok (.iload_n 1, 1) := by decide +kernel
theorem dX9_rate_8 : decode cX9_rate 8 = .ok (.invokevirtual 65, 3) := by decide +kernel
theorem dX9_rate_11 : decode cX9_rate 11 = .ok (.ifCond .eq 14, 3) := by decide +kernel
theorem dX9_rate_14 : decode cX9_rate 14 = .ok (.iload_n 2, 1) := by decide +kernel
theorem dX9_rate_15 : decode cX9_rate 15 = .ok (.iconst 0, 1) := by decide +kernel
theorem dX9_rate_16 : decode cX9_rate 16 = .ok (.sipush 10000, 3) := by decide +kernel
theorem dX9_rate_19 : decode cX9_rate 19 = .ok (.invokestatic 43, 3) := by decide +kernel
theorem dX9_rate_22 : decode cX9_rate 22 = .ok (.ifCond .ne 10, 3) := by decide +kernel
theorem dX9_rate_25 : decode cX9_rate 25 = .ok (.aload_n 0, 1) := by decide +kernel
theorem dX9_rate_26 : decode cX9_rate 26 = .ok (.ldc 47, 2) := by decide +kernel
theorem dX9_rate_28 : decode cX9_rate 28 = .ok (.invokevirtual 48, 3) := by decide +kernel
theorem dX9_rate_31 : decode cX9_rate 31 = .ok (.ireturn, 1) := by decide +kernel
theorem dX9_rate_32 : decode cX9_rate 32 = .ok (.aload_n 0, 1) := by decide +kernel
theorem dX9_rate_33 : decode cX9_rate 33 = .ok (.getfield 10, 3) := by decide +kernel
theorem dX9_rate_36 : decode cX9_rate 36 = .ok (.getfield 52, 3) := by decide +kernel
theorem dX9_rate_39 : decode cX9_rate 39 = .ok (.invokevirtual 239, 3) := by decide +kernel
theorem dX9_rate_42 : decode cX9_rate 42 = .ok (.istore_n 3, 1) := by decide +kernel
theorem dX9_rate_43 : decode cX9_rate 43 = .ok (.iload_n 3, 1) := by decide +kernel
theorem dX9_rate_44 : decode cX9_rate 44 = .ok (.ifCond .gt 10, 3) := by decide +kernel
theorem dX9_rate_47 : decode cX9_rate 47 = .ok (.aload_n 0, 1) := by decide +kernel
theorem dX9_rate_48 : decode cX9_rate 48 = .ok (.ldc 135, 2) := by decide +kernel
theorem dX9_rate_50 : decode cX9_rate 50 = .ok (.invokevirtual 48, 3) := by decide +kernel
theorem dX9_rate_53 : decode cX9_rate 53 = .ok (.ireturn, 1) := by decide +kernel
theorem dX9_rate_54 : decode cX9_rate 54 = .ok (.aload_n 0, 1) := by decide +kernel
theorem dX9_rate_55 : decode cX9_rate 55 = .ok (.getfield 10, 3) := by decide +kernel
theorem dX9_rate_58 : decode cX9_rate 58 = .ok (.getfield 52, 3) := by decide +kernel
theorem dX9_rate_61 : decode cX9_rate 61 = .ok (.iload_n 1, 1) := by decide +kernel
theorem dX9_rate_62 : decode cX9_rate 62 = .ok (.iload_n 2, 1) := by decide +kernel
theorem dX9_rate_63 : decode cX9_rate 63 = .ok (.iload_n 3, 1) := by decide +kernel
theorem dX9_rate_64 : decode cX9_rate 64 = .ok (.invokevirtual 242, 3) := by decide +kernel
theorem dX9_rate_67 : decode cX9_rate 67 = .ok (.ireturn, 1) := by decide +kernel
theorem dX9_sheet_0 : decode cX9_sheet 0 = .ok (.iload_n 1, 1) := by decide +kernel
theorem dX9_sheet_1 : decode cX9_sheet 1 = .ok (.invokestatic 245, 3) := by decide +kernel
theorem dX9_sheet_4 : decode cX9_sheet 4 = .ok (.ifCond .eq 25, 3) := by decide +kernel
theorem dX9_sheet_7 : decode cX9_sheet 7 = .ok (.iload_n 2, 1) := by decide +kernel
theorem dX9_sheet_8 : decode cX9_sheet 8 = .ok (.ifCond .eq 28, 3) := by decide +kernel
theorem dX9_sheet_11 : decode cX9_sheet 11 = .ok (.iload_n 2, 1) := by decide +kernel
theorem dX9_sheet_12 : decode cX9_sheet 12 = .ok (.bipush 8, 2) := by decide +kernel
theorem dX9_sheet_14 : decode cX9_sheet 14 = .ok (.if_icmp .eq 22, 3) := by decide +kernel
theorem dX9_sheet_17 : decode cX9_sheet 17 = .ok (.iload_n 2, 1) := by decide +kernel
theorem dX9_sheet_18 : decode cX9_sheet 18 = .ok (.bipush 16, 2) := by decide +kernel
theorem dX9_sheet_20 : decode cX9_sheet 20 = .ok (.if_icmp .eq 16, 3) := by decide +kernel
theorem dX9_sheet_23 : decode cX9_sheet 23 = .ok (.iload_n 2, 1) := by decide +kernel
theorem dX9_sheet_24 : decode cX9_sheet 24 = .ok (.bipush 32, 2) := by decide +kernel
theorem dX9_sheet_26 : decode cX9_sheet 26 = .ok (.if_icmp .eq 10, 3) := by decide +kernel
theorem dX9_sheet_29 : decode cX9_sheet 29 = .ok (.aload_n 0, 1) := by decide +kernel
theorem dX9_sheet_30 : decode cX9_sheet 30 = .ok (.ldc 47, 2) := by decide +kernel
theorem dX9_sheet_32 : decode cX9_sheet 32 = .ok (.invokevirtual 48, 3) := by decide +kernel
theorem dX9_sheet_35 : decode cX9_sheet 35 = .ok (.ireturn, 1) := by decide +kernel
theorem dX9_sheet_36 : decode cX9_sheet 36 = .ok (.iload_n 3, 1) := by decide +kernel
theorem dX9_sheet_37 : decode cX9_sheet 37 = .ok (.ifCond .ge 10, 3) := by decide +kernel
theorem dX9_sheet_40 : decode cX9_sheet 40 = .ok (.aload_n 0, 1) := by decide +kernel
theorem dX9_sheet_41 : decode cX9_sheet 41 = .ok (.ldc 69, 2) := by decide +kernel
theorem dX9_sheet_43 : decode cX9_sheet 43 = .ok (.invokevirtual 48, 3) := by decide +kernel
theorem dX9_sheet_46 : decode cX9_sheet 46 = .ok (.ireturn, 1) := by decide +kernel
theorem dX9_sheet_47 : decode cX9_sheet 47 = .ok (.iload_n 3, 1) := by decide +kernel
theorem dX9_sheet_48 : decode cX9_sheet 48 = .ok (.bipush 60, 2) := by decide +kernel
theorem dX9_sheet_50 : decode cX9_sheet 50 = .ok (.if_icmp .le 10, 3) := by decide +kernel
theorem dX9_sheet_53 : decode cX9_sheet 53 = .ok (.aload_n 0, 1) := by decide +kernel
theorem dX9_sheet_54 : decode cX9_sheet 54 = .ok (.ldc 47, 2) := by decide +kernel
theorem dX9_sheet_56 : decode cX9_sheet 56 = .ok (.invokevirtual 48, 3) := by decide +kernel
theorem dX9_sheet_59 : decode cX9_sheet 59 = .ok (.ireturn, 1) := by decide +kernel
theorem dX9_sheet_60 : decode cX9_sheet 60 = .ok (.aload_n 0, 1) := by decide +kernel
theorem dX9_sheet_61 : decode cX9_sheet 61 = .ok (.getfield 30, 3) := by decide +kernel
theorem dX9_sheet_64 : decode cX9_sheet 64 = .ok (.iload_n 1, 1) := by decide +kernel
theorem dX9_sheet_65 : decode cX9_sheet 65 = .ok (.aaload, 1) := by decide +kernel
theorem dX9_sheet_66 : decode cX9_sheet 66 = .ok (.iload_n 2, 1) := by decide +kernel
theorem dX9_sheet_67 : decode cX9_sheet 67 = .ok (.iload_n 2, 1) := by decide +kernel
theorem dX9_sheet_68 : decode cX9_sheet 68 = .ok (.ifCond .ne 7, 3) := by decide +kernel
theorem dX9_sheet_71 : decode cX9_sheet 71 = .ok (.iconst 0, 1) := by decide +kernel
theorem dX9_sheet_72 : decode cX9_sheet 72 = .ok (.goto 4, 3) := by decide +kernel
theorem dX9_sheet_75 : decode cX9_sheet 75 = .ok (.iload_n 3, 1) := by decide +kernel
theorem dX9_sheet_76 : decode cX9_sheet 76 = .ok (.invokevirtual 248, 3) := by decide +kernel
theorem dX9_sheet_79 : decode cX9_sheet 79 = .ok (.aload_n 0, 1) := by decide +kernel
theorem dX9_sheet_80 : decode cX9_sheet 80 = .ok (.getfield 30, 3) := by decide +kernel
theorem dX9_sheet_83 : decode cX9_sheet 83 = .ok (.iload_n 1, 1) := by decide +kernel
theorem dX9_sheet_84 : decode cX9_sheet 84 = .ok (.aaload, 1) := by decide +kernel
theorem dX9_sheet_85 : decode cX9_sheet 85 = .ok (.getfield 252, 3) := by decide +kernel
theorem dX9_sheet_88 : decode cX9_sheet 88 = .ok (.ireturn, 1) := by decide +kernel
theorem dX9_put_0 : decode cX9_put 0 = .ok (.iload_n 1, 1) := by decide +kernel
theorem dX9_put_1 : decode cX9_put 1 = .ok (.invokestatic 245, 3) := by decide +kernel
theorem dX9_put_4 : decode cX9_put 4 = .ok (.ifCond .ne 10, 3) := by decide +kernel
theorem dX9_put_7 : decode cX9_put 7 = .ok (.aload_n 0, 1) := by decide +kernel
theorem dX9_put_8 : decode cX9_put 8 = .ok (.ldc 47, 2) := by decide +kernel
theorem dX9_put_10 : decode cX9_put 10 = .ok (.invokevirtual 48, 3) := by decide +kernel
theorem dX9_put_13 : decode cX9_put 13 = .ok (.ireturn, 1) := by decide +kernel
theorem dX9_put_14 : decode cX9_put 14 = .ok (.aload_n 0, 1) := by decide +kernel
theorem dX9_put_15 : decode cX9_put 15 = .ok (.getfield 30, 3) := by decide +kernel
theorem dX9_put_18 : decode cX9_put 18 = .ok (.iload_n 1, 1) := by decide +kernel
theorem dX9_put_19 : decode cX9_put 19 = .ok (.aaload, 1) := by decide +kernel
theorem dX9_put_20 : decode cX9_put 20 = .ok (.invokevirtual 255, 3) := by decide +kernel
theorem dX9_put_23 : decode cX9_put 23 = .ok (.ifCond .eq 10, 3) := by decide +kernel
theorem dX9_put_26 : decode cX9_put 26 = .ok (.aload_n 0, 1) := by decide +kernel
theorem dX9_put_27 : decode cX9_put 27 = .ok (.ldc 231, 2) := by decide +kernel
theorem dX9_put_29 : decode cX9_put 29 = .ok (.invokevirtual 48, 3) := by decide +kernel
theorem dX9_put_32 : decode cX9_put 32 = .ok (.ireturn, 1) := by decide +kernel
theorem dX9_put_33 : decode cX9_put 33 = .ok (.iload_n 2, 1) := by decide +kernel
