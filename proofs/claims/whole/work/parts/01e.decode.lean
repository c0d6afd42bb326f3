theorem dX9_put_34 : decode cX9_put 34 = .ok (.ifCond .lt 16, 3) := by decide +kernel
theorem dX9_put_37 : decode cX9_put 37 = .ok (.iload_n 2, 1) := by decide +kernel
theorem dX9_put_38 : decode cX9_put 38 = .ok (.aload_n 0, 1) := by decide +kernel
theorem dX9_put_39 : decode cX9_put 39 = .ok (.getfield 30, 3) := by decide +kernel
theorem dX9_put_42 : decode cX9_put 42 = .ok (.iload_n 1, 1) := by decide +kernel
theorem dX9_put_43 : decode cX9_put 43 = .ok (.aaload, 1) := by decide +kernel
theorem dX9_put_44 : decode cX9_put 44 = .ok (.getfield 252, 3) := by decide +kernel
theorem dX9_put_47 : decode cX9_put 47 = .ok (.if_icmp .lt 10, 3) := by decide +kernel
theorem dX9_put_50 : decode cX9_put 50 = .ok (.aload_n 0, 1) := by decide +kernel
theorem dX9_put_51 : decode cX9_put 51 = .ok (.ldc 47, 2) := by decide +kernel
theorem dX9_put_53 : decode cX9_put 53 = .ok (.invokevirtual 48, 3) := by decide +kernel
theorem dX9_put_56 : decode cX9_put 56 = .ok (.ireturn, 1) := by decide +kernel
theorem dX9_put_57 : decode cX9_put 57 = .ok (.aload_n 0, 1) := by decide +kernel
theorem dX9_put_58 : decode cX9_put 58 = .ok (.getfield 30, 3) := by decide +kernel
theorem dX9_put_61 : decode cX9_put 61 = .ok (.iload_n 1, 1) := by decide +kernel
theorem dX9_put_62 : decode cX9_put 62 = .ok (.aaload, 1) := by decide +kernel
theorem dX9_put_63 : decode cX9_put 63 = .ok (.iload_n 2, 1) := by decide +kernel
theorem dX9_put_64 : decode cX9_put 64 = .ok (.iload_n 3, 1) := by decide +kernel
theorem dX9_put_65 : decode cX9_put 65 = .ok (.invokevirtual 259, 3) := by decide +kernel
theorem dX9_put_68 : decode cX9_put 68 = .ok (.iconst 0, 1) := by decide +kernel
theorem dX9_put_69 : decode cX9_put 69 = .ok (.ireturn, 1) := by decide +kernel
theorem dX9_copy_0 : decode cX9_copy 0 = .ok (.iload_n 1, 1) := by decide +kernel
theorem dX9_copy_1 : decode cX9_copy 1 = .ok (.invokestatic 245, 3) := by decide +kernel
theorem dX9_copy_4 : decode cX9_copy 4 = .ok (.ifCond .eq 10, 3) := by decide +kernel
theorem dX9_copy_7 : decode cX9_copy 7 = .ok (.iload_n 3, 1) := by decide +kernel
theorem dX9_copy_8 : decode cX9_copy 8 = .ok (.invokestatic 245, 3) := by decide +kernel
theorem dX9_copy_11 : decode cX9_copy 11 = .ok (.ifCond .ne 10, 3) := by decide +kernel
theorem dX9_copy_14 : decode cX9_copy 14 = .ok (.aload_n 0, 1) := by decide +kernel
theorem dX9_copy_15 : decode cX9_copy 15 = .ok (.ldc 47, 2) := by decide +kernel
theorem dX9_copy_17 : decode cX9_copy 17 = .ok (.invokevirtual 48, 3) := by decide +kernel
theorem dX9_copy_20 : decode cX9_copy 20 = .ok (.ireturn, 1) := by decide +kernel
theorem dX9_copy_21 : decode cX9_copy 21 = .ok (.aload_n 0, 1) := by decide +kernel
theorem dX9_copy_22 : decode cX9_copy 22 = .ok (.getfield 30, 3) := by decide +kernel
theorem dX9_copy_25 : decode cX9_copy 25 = .ok (.iload_n 1, 1) := by decide +kernel
theorem dX9_copy_26 : decode cX9_copy 26 = .ok (.aaload, 1) := by decide +kernel
theorem dX9_copy_27 : decode cX9_copy 27 = .ok (.invokevirtual 255, 3) := by decide +kernel
theorem dX9_copy_30 : decode cX9_copy 30 = .ok (.ifCond .ne 15, 3) := by decide +kernel
theorem dX9_copy_33 : decode cX9_copy 33 = .ok (.aload_n 0, 1) := by decide +kernel
theorem dX9_copy_34 : decode cX9_copy 34 = .ok (.getfield 30, 3) := by decide +kernel
theorem dX9_copy_37 : decode cX9_copy 37 = .ok (.iload_n 3, 1) := by decide +kernel
theorem dX9_copy_38 : decode cX9_copy 38 = .ok (.aaload, 1) := by decide +kernel
theorem dX9_copy_39 : decode cX9_copy 39 = .ok (.invokevirtual 255, 3) := by decide +kernel
theorem dX9_copy_42 : decode cX9_copy 42 = .ok (.ifCond .eq 10, 3) := by decide +kernel
theorem dX9_copy_45 : decode cX9_copy 45 = .ok (.aload_n 0, 1) := by decide +kernel
theorem dX9_copy_46 : decode cX9_copy 46 = .ok (.ldc 231, 2) := by decide +kernel
theorem dX9_copy_48 : decode cX9_copy 48 = .ok (.invokevirtual 48, 3) := by decide +kernel
theorem dX9_copy_51 : decode cX9_copy 51 = .ok (.ireturn, 1) := by decide +kernel
theorem dX9_copy_52 : decode cX9_copy 52 = .ok (.aload_n 0, 1) := by decide +kernel
theorem dX9_copy_53 : decode cX9_copy 53 = .ok (.getfield 30, 3) := by decide +kernel
theorem dX9_copy_56 : decode cX9_copy 56 = .ok (.iload_n 1, 1) := by decide +kernel
theorem dX9_copy_57 : decode cX9_copy 57 = .ok (.aaload, 1) := by decide +kernel
theorem dX9_copy_58 : decode cX9_copy 58 = .ok (.getfield 262, 3) := by decide +kernel
theorem dX9_copy_61 : decode cX9_copy 61 = .ok (.aload_n 0, 1) := by decide +kernel
theorem dX9_copy_62 : decode cX9_copy 62 = .ok (.getfield 30, 3) := by decide +kernel
theorem dX9_copy_65 : decode cX9_copy 65 = .ok (.iload_n 3, 1) := by decide +kernel
theorem dX9_copy_66 : decode cX9_copy 66 = .ok (.aaload, 1) := by decide +kernel
theorem dX9_copy_67 : decode cX9_copy 67 = .ok (.getfield 262, 3) := by decide +kernel
theorem dX9_copy_70 : decode cX9_copy 70 = .ok (.if_icmp .eq 10, 3) := by decide +kernel
theorem dX9_copy_73 : decode cX9_copy 73 = .ok (.aload_n 0, 1) := by decide +kernel
theorem dX9_copy_74 : decode cX9_copy 74 = .ok (.ldc 102, 2) := by decide +kernel
theorem dX9_copy_76 : decode cX9_copy 76 = .ok (.invokevirtual 48, 3) := by decide +kernel
theorem dX9_copy_79 : decode cX9_copy 79 = .ok (.ireturn, 1) := by decide +kernel
theorem dX9_copy_80 : decode cX9_copy 80 = .ok (.aload_n 0, 1) := by decide +kernel
theorem dX9_copy_81 : decode cX9_copy 81 = .ok (.getfield 30, 3) := by decide +kernel
theorem dX9_copy_84 : decode cX9_copy 84 = .ok (.iload_n 1, 1) := by decide +kernel
theorem dX9_copy_85 : decode cX9_copy 85 = .ok (.aaload, 1) := by decide +kernel
theorem dX9_copy_86 : decode cX9_copy 86 = .ok (.iload_n 2, 1) := by decide +kernel
theorem dX9_copy_87 : decode cX9_copy 87 = .ok (.iload 5, 2) := by decide +kernel
theorem dX9_copy_89 : decode cX9_copy 89 = .ok (.invokevirtual 265, 3) := by decide +kernel
theorem dX9_copy_92 : decode cX9_copy 92 = .ok (.ifCond .eq 19, 3) := by decide +kernel
theorem dX9_copy_95 : decode cX9_copy 95 = .ok (.aload_n 0, 1) := by decide +kernel
theorem dX9_copy_96 : decode cX9_copy 96 = .ok (.getfield 30, 3) := by decide +kernel
theorem dX9_copy_99 : decode cX9_copy 99 = .ok (.iload_n 3, 1) := by decide +kernel
theorem dX9_copy_100 : decode cX9_copy 100 = .ok (.aaload, 1) := by decide +kernel
theorem dX9_copy_101 : decode cX9_copy 101 = .ok (.iload 4, 2) := by decide +kernel
theorem dX9_copy_103 : decode cX9_copy 103 = .ok (.iload 5, 2) := by decide +kernel
theorem dX9_copy_105 : decode cX9_copy 105 = .ok (.invokevirtual 265, 3) := by decide +kernel
theorem dX9_copy_108 : decode cX9_copy 108 = .ok (.ifCond .ne 10, 3) := by decide +kernel
theorem dX9_copy_111 : decode cX9_copy 111 = .ok (.aload_n 0, 1) := by decide +kernel
theorem dX9_copy_112 : decode cX9_copy 112 = .ok (.ldc 47, 2) := by decide +kernel
theorem dX9_copy_114 : decode cX9_copy 114 = .ok (.invokevirtual 48, 3) := by decide +kernel
theorem dX9_copy_117 : decode cX9_copy 117 = .ok (.ireturn, 1) := by decide +kernel
theorem dX9_copy_118 : decode cX9_copy 118 = .ok (.aload_n 0, 1) := by decide +kernel
theorem dX9_copy_119 : decode cX9_copy 119 = .ok (.getfield 30, 3) := by decide +kernel
theorem dX9_copy_122 : decode cX9_copy 122 = .ok (.iload_n 1, 1) := by decide +kernel
theorem dX9_copy_123 : decode cX9_copy 123 = .ok (.aaload, 1) := by decide +kernel
theorem dX9_copy_124 : decode cX9_copy 124 = .ok (.getfield 268, 3) := by decide +kernel
theorem dX9_copy_127 : decode cX9_copy 127 = .ok (.iload_n 2, 1) := by decide +kernel
theorem dX9_copy_128 : decode cX9_copy 128 = .ok (.aload_n 0, 1) := by decide +kernel
theorem dX9_copy_129 : decode cX9_copy 129 = .ok (.getfield 30, 3) := by decide +kernel
theorem dX9_copy_132 : decode cX9_copy 132 = .ok (.iload_n 3, 1) := by decide +kernel
theorem dX9_copy_133 : decode cX9_copy 133 = .ok (.aaload, 1) := by decide +kernel
theorem dX9_copy_134 : decode cX9_copy 134 = .ok (.getfield 268, 3) := by decide +kernel
theorem dX9_copy_137 : decode cX9_copy 137 = .ok (.iload 4, 2) := by decide +kernel
theorem dX9_copy_139 : decode cX9_copy 139 = .ok (.iload 5, 2) := by decide +kernel
theorem dX9_copy_141 : decode cX9_copy 141 = .ok (.invokestatic 271, 3) := by decide +kernel
theorem dX9_copy_144 : decode cX9_copy 144 = .ok (.iload 5, 2) := by decide +kernel
theorem dX9_copy_146 : decode cX9_copy 146 = .ok (.ireturn, 1) := by decide +kernel
theorem dX9_read_0 : decode cX9_read 0 = .ok (.iload_n 1, 1) := by decide +kernel
theorem dX9_read_1 : decode cX9_read 1 = .ok (.invokestatic 245, 3) := by decide +kernel
theorem dX9_read_4 : decode cX9_read 4 = .ok (.ifCond .ne 10, 3) := by decide +kernel
theorem dX9_read_7 : decode cX9_read 7 = .ok (.aload_n 0, 1) := by decide +kernel
theorem dX9_read_8 : decode cX9_read 8 = .ok (.ldc 47, 2) := by decide +kernel
theorem dX9_read_10 : decode cX9_read 10 = .ok (.invokevirtual 48, 3) := by decide +kernel
theorem dX9_read_13 : decode cX9_read 13 = .ok (.ireturn, 1) := by decide +kernel
theorem dX9_read_14 : decode cX9_read 14 = .ok (.aload_n 0, 1) := by decide +kernel
theorem dX9_read_15 : decode cX9_read 15 = .ok (.getfield 30, 3) := by decide +kernel
theorem dX9_read_18 : decode cX9_read 18 = .ok (.iload_n 1, 1) := by decide +kernel
theorem dX9_read_19 : decode cX9_read 19 = .ok (.aaload, 1) := by decide +kernel
theorem dX9_read_20 : decode cX9_read 20 = .ok (.invokevirtual 255, 3) := by decide +kernel
theorem dX9_read_23 : decode cX9_read 23 = .ok (.ifCond .eq 10, 3) := by decide +kernel
theorem dX9_read_26 : decode cX9_read 26 = .ok (.aload_n 0, 1) := by decide +kernel
theorem dX9_read_27 : decode cX9_read 27 = .ok (.ldc 231, 2) := by decide +kernel
theorem dX9_read_29 : decode cX9_read 29 = .ok (.invokevirtual 48, 3) := by decide +kernel
theorem dX9_read_32 : decode cX9_read 32 = .ok (.ireturn, 1) := by decide +kernel
theorem dX9_read_33 : decode cX9_read 33 = .ok (.aload_n 0, 1) := by decide +kernel
theorem dX9_read_34 : decode cX9_read 34 = .ok (.getfield 10, 3) := by decide +kernel
theorem dX9_read_37 : decode cX9_read 37 = .ok (.getfield 87, 3) := by decide +kernel
theorem dX9_read_40 : decode cX9_read 40 = .ok (.aload_n 0, 1) := by decide +kernel
theorem dX9_read_41 : decode cX9_read 41 = .ok (.getfield 30, 3) := by decide +kernel
theorem dX9_read_44 : decode cX9_read 44 = .ok (.iload_n 1, 1) := by decide +kernel
theorem dX9_read_45 : decode cX9_read 45 = .ok (.aaload, 1) := by decide +kernel
theorem dX9_read_46 : decode cX9_read 46 = .ok (.invokevirtual 277, 3) := by decide +kernel
theorem dX9_read_49 : decode cX9_read 49 = .ok (.ireturn, 1) := by decide +kernel
theorem dX9_keep_0 : decode cX9_keep 0 = .ok (.aload_n 0, 1) := by decide +kernel
theorem dX9_keep_1 : decode cX9_keep 1 = .ok (.getfield 16, 3) := by decide +kernel
theorem dX9_keep_4 : decode cX9_keep 4 = .ok (.aload_n 0, 1) := by decide +kernel
theorem dX9_keep_5 : decode cX9_keep 5 = .ok (.getfield 10, 3) := by decide +kernel
theorem dX9_keep_8 : decode cX9_keep 8 = .ok (.invokevirtual 281, 3) := by decide +kernel
theorem dX9_keep_11 : decode cX9_keep 11 = .ok (.aload_n 0, 1) := by decide +kernel
theorem dX9_keep_12 : decode cX9_keep 12 = .ok (.iconst 1, 1) := by decide +kernel
theorem dX9_keep_13 : decode cX9_keep 13 = .ok (.putfield 35, 3) := by decide +kernel
theorem dX9_keep_16 : decode cX9_keep 16 = .ok (.aload_n 0, 1) := by decide +kernel
theorem dX9_keep_17 : decode cX9_keep 17 = .ok (.getfield 10, 3) := by decide +kernel
theorem dX9_keep_20 : decode cX9_keep 20 = .ok (.getfield 77, 3) := by decide +kernel
theorem dX9_keep_23 : decode cX9_keep 23 = .ok (.getfield 81, 3) := by decide +kernel
theorem dX9_keep_26 : decode cX9_keep 26 = .ok (.ireturn, 1) := by decide +kernel
theorem dX9_back_0 : decode cX9_back 0 = .ok (.aload_n 0, 1) := by decide +kernel
theorem dX9_back_1 : decode cX9_back 1 = .ok (.getfield 35, 3) := by decide +kernel
theorem dX9_back_4 : decode cX9_back 4 = .ok (.ifCond .ne 10, 3) := by decide +kernel
theorem dX9_back_7 : decode cX9_back 7 = .ok (.aload_n 0, 1) := by decide +kernel
theorem dX9_back_8 : decode cX9_back 8 = .ok (.ldc 135, 2) := by decide +kernel
theorem dX9_back_10 : decode cX9_back 10 = .ok (.invokevirtual 48, 3) := by decide +kernel
theorem dX9_back_13 : decode cX9_back 13 = .ok (.ireturn, 1) := by decide +kernel
theorem dX9_back_14 : decode cX9_back 14 = .ok (.aload_n 0, 1) := by decide +kernel
theorem dX9_back_15 : decode cX9_back 15 = .ok (.getfield 10, 3) := by decide +kernel
theorem dX9_back_18 : decode cX9_back 18 = .ok (.aload_n 0, 1) := by decide +kernel
theorem dX9_back_19 : decode cX9_back 19 = .ok (.getfield 16, 3) := by decide +kernel
theorem dX9_back_22 : decode cX9_back 22 = .ok (.invokevirtual 281, 3) := by decide +kernel
theorem dX9_back_25 : decode cX9_back 25 = .ok (.aload_n 0, 1) := by decide +kernel
theorem dX9_back_26 : decode cX9_back 26 = .ok (.getfield 10, 3) := by decide +kernel
theorem dX9_back_29 : decode cX9_back 29 = .ok (.getfield 77, 3) := by decide +kernel
theorem dX9_back_32 : decode cX9_back 32 = .ok (.getfield 81, 3) := by decide +kernel
theorem dX9_back_35 : decode cX9_back 35 = .ok (.ireturn, 1) := by decide +kernel
theorem dX9_told_0 : decode cX9_told 0 = .ok (.iload_n 1, 1) := by decide +kernel
theorem dX9_told_1 : decode cX9_told 1 = .ok (.tableswitch 114 0 6 #[43, 54, 65, 76, 87, 98, 103], 43) := by decide +kernel
theorem dX9_told_44 : decode cX9_told 44 = .ok (.aload_n 0, 1) := by decide +kernel
theorem dX9_told_45 : decode cX9_told 45 = .ok (.getfield 10, 3) := by decide +kernel
theorem dX9_told_48 : decode cX9_told 48 = .ok (.getfield 52, 3) := by decide +kernel
theorem dX9_told_51 : decode cX9_told 51 = .ok (.getfield 56, 3) := by decide +kernel
theorem dX9_told_54 : decode cX9_told 54 = .ok (.ireturn, 1) := by decide +kernel
theorem dX9_told_55 : decode cX9_told 55 = .ok (.aload_n 0, 1) := by decide +kernel
theorem dX9_told_56 : decode cX9_told 56 = .ok (.getfield 10, 3) := by decide +kernel
theorem dX9_told_59 : decode cX9_told 59 = .ok (.getfield 77, 3) := by decide +kernel
theorem dX9_told_62 : decode cX9_told 62 = .ok (.getfield 81, 3) := by decide +kernel
theorem dX9_told_65 : decode cX9_told 65 = .ok (.ireturn, 1) := by decide +kernel
theorem dX9_told_66 : decode cX9_told 66 = .ok (.aload_n 0, 1) := by decide +kernel
theorem dX9_told_67 : decode cX9_told 67 = .ok (.getfield 10, 3) := by decide +kernel
theorem dX9_told_70 : decode cX9_told 70 = .ok (.getfield 114, 3) := by decide +kernel
theorem dX9_told_73 : decode cX9_told 73 = .ok (.getfield 118, 3) := by decide +kernel
theorem dX9_told_76 : decode cX9_told 76 = .ok (.ireturn, 1) := by decide +kernel
theorem dX9_told_77 : decode cX9_told 77 = .ok (.aload_n 0, 1) := by decide +kernel
theorem dX9_told_78 : decode cX9_told 78 = .ok (.getfield 10, 3) := by decide +kernel
theorem dX9_told_81 : decode cX9_told 81 = .ok (.getfield 139, 3) := by decide +kernel
theorem dX9_told_84 : decode cX9_told 84 = .ok (.getfield 143, 3) := by decide +kernel
theorem dX9_told_87 : decode cX9_told 87 = .ok (.ireturn, 1) := by decide +kernel
theorem dX9_told_88 : decode cX9_told 88 = .ok (.aload_n 0, 1) := by decide +kernel
theorem dX9_told_89 : decode cX9_told 89 = .ok (.getfield 10, 3) := by decide +kernel
theorem dX9_told_92 : decode cX9_told 92 = .ok (.getfield 177, 3) := by decide +kernel
theorem dX9_told_95 : decode cX9_told 95 = .ok (.getfield 181, 3) := by decide +kernel
theorem dX9_told_98 : decode cX9_told 98 = .ok (.ireturn, 1) := by decide +kernel
theorem dX9_told_99 : decode cX9_told 99 = .ok (.aload_n 0, 1) := by decide +kernel
theorem dX9_told_100 : decode cX9_told 100 = .ok (.getfield 39, 3) := by decide +kernel
theorem dX9_told_103 : decode cX9_told 103 = .ok (.ireturn, 1) := by decide +kernel
theorem dX9_told_104 : decode cX9_told 104 = .ok (.aload_n 0, 1) := by decide +kernel
theorem dX9_told_105 : decode cX9_told 105 = .ok (.getfield 10, 3) := by decide +kernel
theorem dX9_told_108 : decode cX9_told 108 = .ok (.getfield 114, 3) := by decide +kernel
theorem dX9_told_111 : decode cX9_told 111 = .ok (.invokevirtual 128, 3) := by decide +kernel
theorem dX9_told_114 : decode cX9_told 114 = .ok (.ireturn, 1) := by decide +kernel
theorem dX9_told_115 : decode cX9_told 115 = .ok (.aload_n 0, 1) := by decide +kernel
theorem dX9_told_116 : decode cX9_told 116 = .ok (.ldc 47, 2) := by decide +kernel
theorem dX9_told_118 : decode cX9_told 118 = .ok (.invokevirtual 48, 3) := by decide +kernel
theorem dX9_told_121 : decode cX9_told 121 = .ok (.ireturn, 1) := by decide +kernel
theorem dX9_finding_0 : decode cX9_finding 0 = .ok (.aload_n 0, 1) := by decide +kernel
theorem dX9_finding_1 : decode cX9_finding 1 = .ok (.dup, 1) := by decide +kernel
theorem dX9_finding_2 : decode cX9_finding 2 = .ok (.getfield 39, 3) := by decide +kernel
theorem dX9_finding_5 : decode cX9_finding 5 = .ok (.iconst 1, 1) := by decide +kernel
theorem dX9_finding_6 : decode cX9_finding 6 = .ok (.iadd, 1) := by decide +kernel
theorem dX9_finding_7 : decode cX9_finding 7 = .ok (.putfield 39, 3) := by decide +kernel
theorem dX9_finding_10 : decode cX9_finding 10 = .ok (.iload_n 1, 1) := by decide +kernel
theorem dX9_finding_11 : decode cX9_finding 11 = .ok (.ireturn, 1) := by decide +kernel
theorem dX9_parishOrNone_0 : decode cX9_parishOrNone 0 = .ok (.iload_n 1, 1) := by decide +kernel
theorem dX9_parishOrNone_1 : decode cX9_parishOrNone 1 = .ok (.iconst (-1), 1) := by decide +kernel
theorem dX9_parishOrNone_2 : decode cX9_parishOrNone 2 = .ok (.if_icmp .ne 12, 3) := by decide +kernel
theorem dX9_parishOrNone_5 : decode cX9_parishOrNone 5 = .ok (.aload_n 0, 1) := by decide +kernel
theorem dX9_parishOrNone_6 : decode cX9_parishOrNone 6 = .ok (.ldc 135, 2) := by decide +kernel
theorem dX9_parishOrNone_8 : decode cX9_parishOrNone 8 = .ok (.invokevirtual 48, 3) := by decide +kernel
theorem dX9_parishOrNone_11 : decode cX9_parishOrNone 11 = .ok (.goto 4, 3) := by decide +kernel
theorem dX9_parishOrNone_14 : decode cX9_parishOrNone 14 = .ok (.iload_n 1, 1) := by decide +kernel
theorem dX9_parishOrNone_15 : decode cX9_parishOrNone 15 = .ok (.ireturn, 1) := by decide +kernel
theorem dX9_canReckon_0 : decode cX9_canReckon 0 = .ok (.aload_n 0, 1) := by decide +kernel
theorem dX9_canReckon_1 : decode cX9_canReckon 1 = .ok (.getfield 10, 3) := by decide +kernel
theorem dX9_canReckon_4 : decode cX9_canReckon 4 = .ok (.getfield 77, 3) := by decide +kernel
theorem dX9_canReckon_7 : decode cX9_canReckon 7 = .ok (.iload_n 1, 1) := by decide +kernel
theorem dX9_canReckon_8 : decode cX9_canReckon 8 = .ok (.invokevirtual 97, 3) := by decide +kernel
theorem dX9_canReckon_11 : decode cX9_canReckon 11 = .ok (.ifCond .eq 21, 3) := by decide +kernel
theorem dX9_canReckon_14 : decode cX9_canReckon 14 = .ok (.iload_n 2, 1) := by decide +kernel
theorem dX9_canReckon_15 : decode cX9_canReckon 15 = .ok (.invokestatic 74, 3) := by decide +kernel
theorem dX9_canReckon_18 : decode cX9_canReckon 18 = .ok (.ifCond .eq 14, 3) := by decide +kernel
theorem dX9_canReckon_21 : decode cX9_canReckon 21 = .ok (.iload_n 3, 1) := by decide +kernel
theorem dX9_canReckon_22 : decode cX9_canReckon 22 = .ok (.invokestatic 74, 3) := by decide +kernel
theorem dX9_canReckon_25 : decode cX9_canReckon 25 = .ok (.ifCond .eq 7, 3) := by decide +kernel
theorem dX9_canReckon_28 : decode cX9_canReckon 28 = .ok (.iconst 1, 1) := by decide +kernel
theorem dX9_canReckon_29 : decode cX9_canReckon 29 = .ok (.goto 4, 3) := by decide +kernel
theorem dX9_canReckon_32 : decode cX9_canReckon 32 = .ok (.iconst 0, 1) := by decide +kernel
theorem dX9_canReckon_33 : decode cX9_canReckon 33 = .ok (.ireturn, 1) := by decide +kernel
theorem dX9_within_0 : decode cX9_within 0 = .ok (.iload_n 0, 1) := by decide +kernel
theorem dX9_within_1 : decode cX9_within 1 = .ok (.iload_n 1, 1) := by decide +kernel
theorem dX9_within_2 : decode cX9_within 2 = .ok (.if_icmp .lt 12, 3) := by decide +kernel
theorem dX9_within_5 : decode cX9_within 5 = .ok (.iload_n 0, 1) := by decide +kernel
theorem dX9_within_6 : decode cX9_within 6 = .ok (.iload_n 2, 1) := by decide +kernel
theorem dX9_within_7 : decode cX9_within 7 = .ok (.if_icmp .gt 7, 3) := by decide +kernel
theorem dX9_within_10 : decode cX9_within 10 = .ok (.iconst 1, 1) := by decide +kernel
theorem dX9_within_11 : decode cX9_within 11 = .ok (.goto 4, 3) := by decide +kernel
theorem dX9_within_14 : decode cX9_within 14 = .ok (.iconst 0, 1) := by decide +kernel
theorem dX9_within_15 : decode cX9_within 15 = .ok (.ireturn, 1) := by decide +kernel
theorem dX9_isDay_0 : decode cX9_isDay 0 = .ok (.iload_n 0, 1) := by decide +kernel
theorem dX9_isDay_1 : decode cX9_isDay 1 = .ok (.iconst 0, 1) := by decide +kernel
theorem dX9_isDay_2 : decode cX9_isDay 2 = .ok (.sipush 9999, 3) := by decide +kernel
theorem dX9_isDay_5 : decode cX9_isDay 5 = .ok (.invokestatic 43, 3) := by decide +kernel
theorem dX9_isDay_8 : decode cX9_isDay 8 = .ok (.ireturn, 1) := by decide +kernel
theorem dX9_isWeek_0 : decode cX9_isWeek 0 = .ok (.iload_n 0, 1) := by decide +kernel
theorem dX9_isWeek_1 : decode cX9_isWeek 1 = .ok (.iconst 0, 1) := by decide +kernel
theorem dX9_isWeek_2 : decode cX9_isWeek 2 = .ok (.bipush 59, 2) := by decide +kernel
theorem dX9_isWeek_4 : decode cX9_isWeek 4 = .ok (.invokestatic 43, 3) := by decide +kernel
theorem dX9_isWeek_7 : decode cX9_isWeek 7 = .ok (.ireturn, 1) := by decide +kernel
theorem dX9_isSheet_0 : decode cX9_isSheet 0 = .ok (.iload_n 0, 1) := by decide +kernel
theorem dX9_isSheet_1 : decode cX9_isSheet 1 = .ok (.iconst 0, 1) := by decide +kernel
theorem dX9_isSheet_2 : decode cX9_isSheet 2 = .ok (.iconst 3, 1) := by decide +kernel
theorem dX9_isSheet_3 : decode cX9_isSheet 3 = .ok (.invokestatic 43, 3) := by decide +kernel
theorem dX9_isSheet_6 : decode cX9_isSheet 6 = .ok (.ireturn, 1) := by decide +kernel
theorem dX9_hasNumber_0 : decode cX9_hasNumber 0 = .ok (.iload_n 0, 1) := by decide +kernel
theorem dX9_hasNumber_1 : decode cX9_hasNumber 1 = .ok (.ifCond .eq 12, 3) := by decide +kernel
theorem dX9_hasNumber_4 : decode cX9_hasNumber 4 = .ok (.iload_n 0, 1) := by decide +kernel
theorem dX9_hasNumber_5 : decode cX9_hasNumber 5 = .ok (.iconst 3, 1) := by decide +kernel
theorem dX9_hasNumber_6 : decode cX9_hasNumber 6 = .ok (.if_icmp .eq 7, 3) := by decide +kernel
theorem dX9_hasNumber_9 : decode cX9_hasNumber 9 = .ok (.iconst 1, 1) := by decide +kernel
theorem dX9_hasNumber_10 : decode cX9_hasNumber 10 = .ok (.goto 4, 3) := by decide +kernel
theorem dX9_hasNumber_13 : decode cX9_hasNumber 13 = .ok (.iconst 0, 1) := by decide +kernel
theorem dX9_hasNumber_14 : decode cX9_hasNumber 14 = .ok (.ireturn, 1) := by decide +kernel
theorem dX9_copyRow_0 : decode cX9_copyRow 0 = .ok (.aload_n 0, 1) := by decide +kernel
theorem dX9_copyRow_1 : decode cX9_copyRow 1 = .ok (.iconst 0, 1) := by decide +kernel
theorem dX9_copyRow_2 : decode cX9_copyRow 2 = .ok (.aload_n 1, 1) := by decide +kernel
theorem dX9_copyRow_3 : decode cX9_copyRow 3 = .ok (.iconst 0, 1) := by decide +kernel
theorem dX9_copyRow_4 : decode cX9_copyRow 4 = .ok (.aload_n 0, 1) := by decide +kernel
theorem dX9_copyRow_5 : decode cX9_copyRow 5 = .ok (.arraylength, 1) := by decide +kernel
theorem dX9_copyRow_6 : decode cX9_copyRow 6 = .ok (.aload_n 1, 1) := by decide +kernel
theorem dX9_copyRow_7 : decode cX9_copyRow 7 = .ok (.arraylength, 1) := by decide +kernel
theorem dX9_copyRow_8 : decode cX9_copyRow 8 = .ok (.invokestatic 284, 3) := by decide +kernel
theorem dX9_copyRow_11 : decode cX9_copyRow 11 = .ok (.invokestatic 271, 3) := by decide +kernel
theorem dX9_copyRow_14 : decode cX9_copyRow 14 = .ok (.return_, 1) := by decide +kernel
theorem dX10_init_0 : decode cX10_init 0 = .ok (.aload_n 0, 1) := by decide +kernel
theorem dX10_init_1 : decode cX10_init 1 = .ok (.invokespecial 1, 3) := by decide +kernel
theorem dX10_init_4 : decode cX10_init 4 = .ok (.aload_n 0, 1) := by decide +kernel
theorem dX10_init_5 : decode cX10_init 5 = .ok (.sipush 549, 3) := by decide +kernel
theorem dX10_init_8 : decode cX10_init 8 = .ok (.newarray .int, 2) := by decide +kernel
theorem dX10_init_10 : decode cX10_init 10 = .ok (.putfield 9, 3) := by decide +kernel
theorem dX10_init_13 : decode cX10_init 13 = .ok (.aload_n 0, 1) := by decide +kernel
theorem dX10_init_14 : decode cX10_init 14 = .ok (.sipush 549, 3) := by decide +kernel
theorem dX10_init_17 : decode cX10_init 17 = .ok (.newarray .int, 2) := by decide +kernel
theorem dX10_init_19 : decode cX10_init 19 = .ok (.putfield 13, 3) := by decide +kernel
theorem dX10_init_22 : decode cX10_init 22 = .ok (.aload_n 0, 1) := by decide +kernel
theorem dX10_init_23 : decode cX10_init 23 = .ok (.iconst 4, 1) := by decide +kernel
theorem dX10_init_24 : decode cX10_init 24 = .ok (.newarray .int, 2) := by decide +kernel
theorem dX10_init_26 : decode cX10_init 26 = .ok (.putfield 16, 3) := by decide +kernel
theorem dX10_init_29 : decode cX10_init 29 = .ok (.aload_n 0, 1) := by decide +kernel
theorem dX10_init_30 : decode cX10_init 30 = .ok (.iconst 4, 1) := by decide +kernel
theorem dX10_init_31 : decode cX10_init 31 = .ok (.newarray .int, 2) := by decide +kernel
theorem dX10_init_33 : decode cX10_init 33 = .ok (.putfield 19, 3) := by decide +kernel
theorem dX10_init_36 : decode cX10_init 36 = .ok (.aload_n 0, 1) := by decide +kernel
theorem dX10_init_37 : decode cX10_init 37 = .ok (.sipush 240, 3) := by decide +kernel
theorem dX10_init_40 : decode cX10_init 40 = .ok (.newarray .int, 2) := by decide +kernel
theorem dX10_init_42 : decode cX10_init 42 = .ok (.putfield 22, 3) := by decide +kernel
theorem dX10_init_45 : decode cX10_init 45 = .ok (.aload_n 0, 1) := by decide +kernel
theorem dX10_init_46 : decode cX10_init 46 = .ok (.bipush 10, 2) := by decide +kernel
theorem dX10_init_48 : decode cX10_init 48 = .ok (.newarray .int, 2) := by decide +kernel
theorem dX10_init_50 : decode cX10_init 50 = .ok (.putfield 25, 3) := by decide +kernel
theorem dX10_init_53 : decode cX10_init 53 = .ok (.aload_n 0, 1) := by decide +kernel
theorem dX10_init_54 : decode cX10_init 54 = .ok (.bipush 8, 2) := by decide +kernel
theorem dX10_init_56 : decode cX10_init 56 = .ok (.newarray .int, 2) := by decide +kernel
theorem dX10_init_58 : decode cX10_init 58 = .ok (.putfield 28, 3) := by decide +kernel
theorem dX10_init_61 : decode cX10_init 61 = .ok (.aload_n 0, 1) := by decide +kernel
theorem dX10_init_62 : decode cX10_init 62 = .ok (.sipush 256, 3) := by decide +kernel
theorem dX10_init_65 : decode cX10_init 65 = .ok (.newarray .int, 2) := by decide +kernel
theorem dX10_init_67 : decode cX10_init 67 = .ok (.putfield 31, 3) := by decide +kernel
theorem dX10_init_70 : decode cX10_init 70 = .ok (.aload_n 0, 1) := by decide +kernel
theorem dX10_init_71 : decode cX10_init 71 = .ok (.bipush 60, 2) := by decide +kernel
theorem dX10_init_73 : decode cX10_init 73 = .ok (.newarray .int, 2) := by decide +kernel
theorem dX10_init_75 : decode cX10_init 75 = .ok (.putfield 34, 3) := by decide +kernel
theorem dX10_init_78 : decode cX10_init 78 = .ok (.aload_n 0, 1) := by decide +kernel
theorem dX10_init_79 : decode cX10_init 79 = .ok (.getfield 9, 3) := by decide +kernel
theorem dX10_init_82 : decode cX10_init 82 = .ok (.iconst 5, 1) := by decide +kernel
theorem dX10_init_83 : decode cX10_init 83 = .ok (.bipush 60, 2) := by decide +kernel
theorem dX10_init_85 : decode cX10_init 85 = .ok (.iastore, 1) := by decide +kernel
theorem dX10_init_86 : decode cX10_init 86 = .ok (.aload_n 0, 1) := by decide +kernel
theorem dX10_init_87 : decode cX10_init 87 = .ok (.getfield 9, 3) := by decide +kernel
theorem dX10_init_90 : decode cX10_init 90 = .ok (.bipush 6, 2) := by decide +kernel
theorem dX10_init_92 : decode cX10_init 92 = .ok (.iconst 3, 1) := by decide +kernel
theorem dX10_init_93 : decode cX10_init 93 = .ok (.iastore, 1) := by decide +kernel
theorem dX10_init_94 : decode cX10_init 94 = .ok (.return_, 1) := by decide +kernel
theorem dX10_finding_0 : decode cX10_finding 0 = .ok (.aload_n 0, 1) := by decide +kernel
theorem dX10_finding_1 : decode cX10_finding 1 = .ok (.dup, 1) := by decide +kernel
theorem dX10_finding_2 : decode cX10_finding 2 = .ok (.getfield 37, 3) := by decide +kernel
theorem dX10_finding_5 : decode cX10_finding 5 = .ok (.iconst 1, 1) := by decide +kernel
theorem dX10_finding_6 : decode cX10_finding 6 = .ok (.iadd, 1) := by decide +kernel
theorem dX10_finding_7 : decode cX10_finding 7 = .ok (.putfield 37, 3) := by decide +kernel
theorem dX10_finding_10 : decode cX10_finding 10 = .ok (.iload_n 1, 1) := by decide +kernel
theorem dX10_finding_11 : decode cX10_finding 11 = .ok (.ireturn, 1) := by decide +kernel
theorem dX10_within_0 : decode cX10_within 0 = .ok (.iload_n 0, 1) := by decide +kernel
theorem dX10_within_1 : decode cX10_within 1 = .ok (.iload_n 1, 1) := by decide +kernel
theorem dX10_within_2 : decode cX10_within 2 = .ok (.if_icmp .lt 12, 3) := by decide +kernel
theorem dX10_within_5 : decode cX10_within 5 = .ok (.iload_n 0, 1) := by decide +kernel
theorem dX10_within_6 : decode cX10_within 6 = .ok (.iload_n 2, 1) := by decide +kernel
theorem dX10_within_7 : decode cX10_within 7 = .ok (.if_icmp .gt 7, 3) := by decide +kernel
theorem dX10_within_10 : decode cX10_within 10 = .ok (.iconst 1, 1) := by decide +kernel
theorem dX10_within_11 : decode cX10_within 11 = .ok (.goto 4, 3) := by decide +kernel
theorem dX10_within_14 : decode cX10_within 14 = .ok (.iconst 0, 1) := by decide +kernel
theorem dX10_within_15 : decode cX10_within 15 = .ok (.ireturn, 1) := by decide +kernel
theorem dX10_isDay_0 : decode cX10_isDay 0 = .ok (.iload_n 0, 1) := by decide +kernel
theorem dX10_isDay_1 : decode cX10_isDay 1 = .ok (.iconst 0, 1) := by decide +kernel
theorem dX10_isDay_2 : decode cX10_isDay 2 = .ok (.sipush 9999, 3) := by decide +kernel
theorem dX10_isDay_5 : decode cX10_isDay 5 = .ok (.invokestatic 41, 3) := by decide +kernel
theorem dX10_isDay_8 : decode cX10_isDay 8 = .ok (.ireturn, 1) := by decide +kernel
theorem dX10_isWeek_0 : decode cX10_isWeek 0 = .ok (.iload_n 0, 1) := by decide +kernel
theorem dX10_isWeek_1 : decode cX10_isWeek 1 = .ok (.iconst 0, 1) := by decide +kernel
theorem dX10_isWeek_2 : decode cX10_isWeek 2 = .ok (.bipush 59, 2) := by decide +kernel
theorem dX10_isWeek_4 : decode cX10_isWeek 4 = .ok (.invokestatic 41, 3) := by decide +kernel
theorem dX10_isWeek_7 : decode cX10_isWeek 7 = .ok (.ireturn, 1) := by decide +kernel
theorem dX10_isParish_0 : decode cX10_isParish 0 = .ok (.iload_n 1, 1) := by decide +kernel
theorem dX10_isParish_1 : decode cX10_isParish 1 = .ok (.iconst 0, 1) := by decide +kernel
theorem dX10_isParish_2 : decode cX10_isParish 2 = .ok (.aload_n 0, 1) := by decide +kernel
theorem dX10_isParish_3 : decode cX10_isParish 3 = .ok (.getfield 9, 3) := by decide +kernel
theorem dX10_isParish_6 : decode cX10_isParish 6 = .ok (.iconst 0, 1) := by decide +kernel
theorem dX10_isParish_7 : decode cX10_isParish 7 = .ok (.iaload, 1) := by decide +kernel
theorem dX10_isParish_8 : decode cX10_isParish 8 = .ok (.iconst 1, 1) := by decide +kernel
theorem dX10_isParish_9 : decode cX10_isParish 9 = .ok (.isub, 1) := by decide +kernel
theorem dX10_isParish_10 : decode cX10_isParish 10 = .ok (.invokestatic 41, 3) := by decide +kernel
theorem dX10_isParish_13 : decode cX10_isParish 13 = .ok (.ireturn, 1) := by decide +kernel
theorem dX10_isPerson_0 : decode cX10_isPerson 0 = .ok (.iload_n 1, 1) := by decide +kernel
theorem dX10_isPerson_1 : decode cX10_isPerson 1 = .ok (.iconst 0, 1) := by decide +kernel
theorem dX10_isPerson_2 : decode cX10_isPerson 2 = .ok (.aload_n 0, 1) := by decide +kernel
theorem dX10_isPerson_3 : decode cX10_isPerson 3 = .ok (.getfield 9, 3) := by decide +kernel
theorem dX10_isPerson_6 : decode cX10_isPerson 6 = .ok (.iconst 1, 1) := by decide +kernel
theorem dX10_isPerson_7 : decode cX10_isPerson 7 = .ok (.iaload, 1) := by decide +kernel
theorem dX10_isPerson_8 : decode cX10_isPerson 8 = .ok (.iconst 1, 1) := by decide +kernel
theorem dX10_isPerson_9 : decode cX10_isPerson 9 = .ok (.isub, 1) := by decide +kernel
theorem dX10_isPerson_10 : decode cX10_isPerson 10 = .ok (.invokestatic 41, 3) := by decide +kernel
theorem dX10_isPerson_13 : decode cX10_isPerson 13 = .ok (.ireturn, 1) := by decide +kernel
theorem dX10_parish_0 : decode cX10_parish 0 = .ok (.iload_n 1, 1) := by decide +kernel
theorem dX10_parish_1 : decode cX10_parish 1 = .ok (.iconst 0, 1) := by decide +kernel
theorem dX10_parish_2 : decode cX10_parish 2 = .ok (.sipush 10000, 3) := by decide +kernel
theorem dX10_parish_5 : decode cX10_parish 5 = .ok (.invokestatic 41, 3) := by decide +kernel
theorem dX10_parish_8 : decode cX10_parish 8 = .ok (.ifCond .ne 10, 3) := by decide +kernel
theorem dX10_parish_11 : decode cX10_parish 11 = .ok (.aload_n 0, 1) := by decide +kernel
theorem dX10_parish_12 : decode cX10_parish 12 = .ok (.ldc 45, 2) := by decide +kernel
theorem dX10_parish_14 : decode cX10_parish 14 = .ok (.invokevirtual 46, 3) := by decide +kernel
theorem dX10_parish_17 : decode cX10_parish 17 = .ok (.ireturn, 1) := by decide +kernel
theorem dX10_parish_18 : decode cX10_parish 18 = .ok (.aload_n 0, 1) := by decide +kernel
theorem dX10_parish_19 : decode cX10_parish 19 = .ok (.getfield 9, 3) := by decide +kernel
theorem dX10_parish_22 : decode cX10_parish 22 = .ok (.iconst 0, 1) := by decide +kernel
theorem dX10_parish_23 : decode cX10_parish 23 = .ok (.iaload, 1) := by decide +kernel
theorem dX10_parish_24 : decode cX10_parish 24 = .ok (.istore_n 2, 1) := by decide +kernel
theorem dX10_parish_25 : decode cX10_parish 25 = .ok (.iload_n 2, 1) := by decide +kernel
theorem dX10_parish_26 : decode cX10_parish 26 = .ok (.bipush 6, 2) := by decide +kernel
theorem dX10_parish_28 : decode cX10_parish 28 = .ok (.if_icmp .ne 10, 3) := by decide +kernel
theorem dX10_parish_31 : decode cX10_parish 31 = .ok (.aload_n 0, 1) := by decide +kernel
theorem dX10_parish_32 : decode cX10_parish 32 = .ok (.ldc 50, 2) := by decide +kernel
theorem dX10_parish_34 : decode cX10_parish 34 = .ok (.invokevirtual 46, 3) := by decide +kernel
theorem dX10_parish_37 : decode cX10_parish 37 = .ok (.ireturn, 1) := by decide +kernel
theorem dX10_parish_38 : decode cX10_parish 38 = .ok (.aload_n 0, 1) := by decide +kernel
theorem dX10_parish_39 : decode cX10_parish 39 = .ok (.getfield 9, 3) := by decide +kernel
theorem dX10_parish_42 : decode cX10_parish 42 = .ok (.bipush 7, 2) := by decide +kernel
theorem dX10_parish_44 : decode cX10_parish 44 = .ok (.iload_n 2, 1) := by decide +kernel
theorem dX10_parish_45 : decode cX10_parish 45 = .ok (.iadd, 1) := by decide +kernel
theorem dX10_parish_46 : decode cX10_parish 46 = .ok (.iload_n 1, 1) := by decide +kernel
theorem dX10_parish_47 : decode cX10_parish 47 = .ok (.iastore, 1) := by decide +kernel
theorem dX10_parish_48 : decode cX10_parish 48 = .ok (.aload_n 0, 1) := by decide +kernel
theorem dX10_parish_49 : decode cX10_parish 49 = .ok (.getfield 9, 3) := by decide +kernel
theorem dX10_parish_52 : decode cX10_parish 52 = .ok (.iconst 0, 1) := by decide +kernel
theorem dX10_parish_53 : decode cX10_parish 53 = .ok (.dup2, 1) := by decide +kernel
theorem dX10_parish_54 : decode cX10_parish 54 = .ok (.iaload, 1) := by decide +kernel
theorem dX10_parish_55 : decode cX10_parish 55 = .ok (.iconst 1, 1) := by decide +kernel
theorem dX10_parish_56 : decode cX10_parish 56 = .ok (.iadd, 1) := by decide +kernel
theorem dX10_parish_57 : decode cX10_parish 57 = .ok (.iastore, 1) := by decide +kernel
theorem dX10_parish_58 : decode cX10_parish 58 = .ok (.iload_n 2, 1) := by decide +kernel
theorem dX10_parish_59 : decode cX10_parish 59 = .ok (.ireturn, 1) := by decide +kernel
theorem dX10_miles_0 : decode cX10_miles 0 = .ok (.aload_n 0, 1) := by decide +kernel
theorem dX10_miles_1 : decode cX10_miles 1 = .ok (.iload_n 1, 1) := by decide +kernel
theorem dX10_miles_2 : decode cX10_miles 2 = .ok (.invokevirtual 51, 3) := by decide +kernel
theorem dX10_miles_5 : decode cX10_miles 5 = .ok (.ifCond .eq 21, 3) := by decide +kernel
theorem dX10_miles_8 : decode cX10_miles 8 = .ok (.aload_n 0, 1) := by decide +kernel
theorem dX10_miles_9 : decode cX10_miles 9 = .ok (.iload_n 2, 1) := by decide +kernel
theorem dX10_miles_10 : decode cX10_miles 10 = .ok (.invokevirtual 51, 3) := by decide +kernel
theorem dX10_miles_13 : decode cX10_miles 13 = .ok (.ifCond .eq 13, 3) := by decide +kernel
theorem dX10_miles_16 : decode cX10_miles 16 = .ok (.iload_n 3, 1) := by decide +kernel
theorem dX10_miles_17 : decode cX10_miles 17 = .ok (.iconst 0, 1) := by decide +kernel
theorem dX10_miles_18 : decode cX10_miles 18 = .ok (.bipush 99, 2) := by decide +kernel
theorem dX10_miles_20 : decode cX10_miles 20 = .ok (.invokestatic 41, 3) := by decide +kernel
theorem dX10_miles_23 : decode cX10_miles 23 = .ok (.ifCond .ne 10, 3) := by decide +kernel
theorem dX10_miles_26 : decode cX10_miles 26 = .ok (.aload_n 0, 1) := by decide +kernel
theorem dX10_miles_27 : decode cX10_miles 27 = .ok (.ldc 45, 2) := by decide +kernel
theorem dX10_miles_29 : decode cX10_miles 29 = .ok (.invokevirtual 46, 3) := by decide +kernel
theorem dX10_miles_32 : decode cX10_miles 32 = .ok (.ireturn, 1) := by decide +kernel
theorem dX10_miles_33 : decode cX10_miles 33 = .ok (.iload_n 1, 1) := by decide +kernel
theorem dX10_miles_34 : decode cX10_miles 34 = .ok (.iload_n 2, 1) := by decide +kernel
theorem dX10_miles_35 : decode cX10_miles 35 = .ok (.if_icmp .ne 10, 3) := by decide +kernel
theorem dX10_miles_38 : decode cX10_miles 38 = .ok (.aload_n 0, 1) := by decide +kernel
theorem dX10_miles_39 : decode cX10_miles 39 = .ok (.ldc 55, 2) := by decide +kernel
theorem dX10_miles_41 : decode cX10_miles 41 = .ok (.invokevirtual 46, 3) := by decide +kernel
theorem dX10_miles_44 : decode cX10_miles 44 = .ok (.ireturn, 1) := by decide +kernel
theorem dX10_miles_45 : decode cX10_miles 45 = .ok (.aload_n 0, 1) := by decide +kernel
theorem dX10_miles_46 : decode cX10_miles 46 = .ok (.getfield 9, 3) := by decide +kernel
theorem dX10_miles_49 : decode cX10_miles 49 = .ok (.bipush 13, 2) := by decide +kernel
theorem dX10_miles_51 : decode cX10_miles 51 = .ok (.bipush 6, 2) := by decide +kernel
theorem dX10_miles_53 : decode cX10_miles 53 = .ok (.iload_n 1, 1) := by decide +kernel
theorem dX10_miles_54 : decode cX10_miles 54 = .ok (.imul, 1) := by decide +kernel
theorem dX10_miles_55 : decode cX10_miles 55 = .ok (.iadd, 1) := by decide +kernel
theorem dX10_miles_56 : decode cX10_miles 56 = .ok (.iload_n 2, 1) := by decide +kernel
theorem dX10_miles_57 : decode cX10_miles 57 = .ok (.iadd, 1) := by decide +kernel
theorem dX10_miles_58 : decode cX10_miles 58 = .ok (.iaload, 1) := by decide +kernel
theorem dX10_miles_59 : decode cX10_miles 59 = .ok (.istore 4, 2) := by decide +kernel
theorem dX10_miles_61 : decode cX10_miles 61 = .ok (.aload_n 0, 1) := by decide +kernel
theorem dX10_miles_62 : decode cX10_miles 62 = .ok (.getfield 9, 3) := by decide +kernel
theorem dX10_miles_65 : decode cX10_miles 65 = .ok (.bipush 13, 2) := by decide +kernel
theorem dX10_miles_67 : decode cX10_miles 67 = .ok (.bipush 6, 2) := by decide +kernel
theorem dX10_miles_69 : decode cX10_miles 69 = .ok (.iload_n 1, 1) := by decide +kernel
theorem dX10_miles_70 : decode cX10_miles 70 = .ok (.imul, 1) := by decide +kernel
theorem dX10_miles_71 : decode cX10_miles 71 = .ok (.iadd, 1) := by decide +kernel
theorem dX10_miles_72 : decode cX10_miles 72 = .ok (.iload_n 2, 1) := by decide +kernel
theorem dX10_miles_73 : decode cX10_miles 73 = .ok (.iadd, 1) := by decide +kernel
theorem dX10_miles_74 : decode cX10_miles 74 = .ok (.iload_n 3, 1) := by decide +kernel
theorem dX10_miles_75 : decode cX10_miles 75 = .ok (.iastore, 1) := by decide +kernel
theorem dX10_miles_76 : decode cX10_miles 76 = .ok (.aload_n 0, 1) := by decide +kernel
theorem dX10_miles_77 : decode cX10_miles 77 = .ok (.getfield 9, 3) := by decide +kernel
theorem dX10_miles_80 : decode cX10_miles 80 = .ok (.bipush 13, 2) := by decide +kernel
theorem dX10_miles_82 : decode cX10_miles 82 = .ok (.bipush 6, 2) := by decide +kernel
theorem dX10_miles_84 : decode cX10_miles 84 = .ok (.iload_n 2, 1) := by decide +kernel
theorem dX10_miles_85 : decode cX10_miles 85 = .ok (.imul, 1) := by decide +kernel
theorem dX10_miles_86 : decode cX10_miles 86 = .ok (.iadd, 1) := by decide +kernel
theorem dX10_miles_87 : decode cX10_miles 87 = .ok (.iload_n 1, 1) := by decide +kernel
theorem dX10_miles_88 : decode cX10_miles 88 = .ok (.iadd, 1) := by decide +kernel
theorem dX10_miles_89 : decode cX10_miles 89 = .ok (.iload_n 3, 1) := by decide +kernel
theorem dX10_miles_90 : decode cX10_miles 90 = .ok (.iastore, 1) := by decide +kernel
theorem dX10_miles_91 : decode cX10_miles 91 = .ok (.iload 4, 2) := by decide +kernel
theorem dX10_miles_93 : decode cX10_miles 93 = .ok (.ireturn, 1) := by decide +kernel
theorem dX10_person_0 : decode cX10_person 0 = .ok (.iload_n 1, 1) := by decide +kernel
theorem dX10_person_1 : decode cX10_person 1 = .ok (.iconst 0, 1) := by decide +kernel
theorem dX10_person_2 : decode cX10_person 2 = .ok (.iconst 3, 1) := by decide +kernel
theorem dX10_person_3 : decode cX10_person 3 = .ok (.invokestatic 41, 3) := by decide +kernel
theorem dX10_person_6 : decode cX10_person 6 = .ok (.ifCond .eq 18, 3) := by decide +kernel
theorem dX10_person_9 : decode cX10_person 9 = .ok (.aload_n 0, 1) := by decide +kernel
theorem dX10_person_10 : decode cX10_person 10 = .ok (.iload_n 2, 1) := by decide +kernel
theorem dX10_person_11 : decode cX10_person 11 = .ok (.invokevirtual 51, 3) := by decide +kernel
theorem dX10_person_14 : decode cX10_person 14 = .ok (.ifCond .eq 10, 3) := by decide +kernel
theorem dX10_person_17 : decode cX10_person 17 = .ok (.iload_n 3, 1) := by decide +kernel
theorem dX10_person_18 : decode cX10_person 18 = .ok (.invokestatic 56, 3) := by decide +kernel
theorem dX10_person_21 : decode cX10_person 21 = .ok (.ifCond .ne 10, 3) := by decide +kernel
theorem dX10_person_24 : decode cX10_person 24 = .ok (.aload_n 0, 1) := by decide +kernel
theorem dX10_person_25 : decode cX10_person 25 = .ok (.ldc 45, 2) := by decide +kernel
theorem dX10_person_27 : decode cX10_person 27 = .ok (.invokevirtual 46, 3) := by decide +kernel
theorem dX10_person_30 : decode cX10_person 30 = .ok (.ireturn, 1) := by decide +kernel
theorem dX10_person_31 : decode cX10_person 31 = .ok (.aload_n 0, 1) := by decide +kernel
theorem dX10_person_32 : decode cX10_person 32 = .ok (.getfield 9, 3) := by decide +kernel
theorem dX10_person_35 : decode cX10_person 35 = .ok (.iconst 1, 1) := by decide +kernel
theorem dX10_person_36 : decode cX10_person 36 = .ok (.iaload, 1) := by decide +kernel
theorem dX10_person_37 : decode cX10_person 37 = .ok (.istore 4, 2) := by decide +kernel
theorem dX10_person_39 : decode cX10_person 39 = .ok (.iload 4, 2) := by decide +kernel
theorem dX10_person_41 : decode cX10_person 41 = .ok (.bipush 10, 2) := by decide +kernel
theorem dX10_person_43 : decode cX10_person 43 = .ok (.if_icmp .ne 10, 3) := by decide +kernel
theorem dX10_person_46 : decode cX10_person 46 = .ok (.aload_n 0, 1) := by decide +kernel
theorem dX10_person_47 : decode cX10_person 47 = .ok (.ldc 50, 2) := by decide +kernel
theorem dX10_person_49 : decode cX10_person 49 = .ok (.invokevirtual 46, 3) := by decide +kernel
theorem dX10_person_52 : decode cX10_person 52 = .ok (.ireturn, 1) := by decide +kernel
theorem dX10_person_53 : decode cX10_person 53 = .ok (.aload_n 0, 1) := by decide +kernel
theorem dX10_person_54 : decode cX10_person 54 = .ok (.getfield 9, 3) := by decide +kernel
theorem dX10_person_57 : decode cX10_person 57 = .ok (.bipush 49, 2) := by decide +kernel
theorem dX10_person_59 : decode cX10_person 59 = .ok (.iload 4, 2) := by decide +kernel
theorem dX10_person_61 : decode cX10_person 61 = .ok (.iadd, 1) := by decide +kernel
theorem dX10_person_62 : decode cX10_person 62 = .ok (.iload_n 1, 1) := by decide +kernel
theorem dX10_person_63 : decode cX10_person 63 = .ok (.iastore, 1) := by decide +kernel
theorem dX10_person_64 : decode cX10_person 64 = .ok (.aload_n 0, 1) := by decide +kernel
theorem dX10_person_65 : decode cX10_person 65 = .ok (.getfield 9, 3) := by decide +kernel
theorem dX10_person_68 : decode cX10_person 68 = .ok (.bipush 59, 2) := by decide +kernel
theorem dX10_person_70 : decode cX10_person 70 = .ok (.iload 4, 2) := by decide +kernel
theorem dX10_person_72 : decode cX10_person 72 = .ok (.iadd, 1) := by decide +kernel
theorem dX10_person_73 : decode cX10_person 73 = .ok (.iload_n 2, 1) := by decide +kernel
theorem dX10_person_74 : decode cX10_person 74 = .ok (.iastore, 1) := by decide +kernel
theorem dX10_person_75 : decode cX10_person 75 = .ok (.aload_n 0, 1) := by decide +kernel
theorem dX10_person_76 : decode cX10_person 76 = .ok (.getfield 9, 3) := by decide +kernel
theorem dX10_person_79 : decode cX10_person 79 = .ok (.bipush 69, 2) := by decide +kernel
theorem dX10_person_81 : decode cX10_person 81 = .ok (.iload 4, 2) := by decide +kernel
theorem dX10_person_83 : decode cX10_person 83 = .ok (.iadd, 1) := by decide +kernel
theorem dX10_person_84 : decode cX10_person 84 = .ok (.iload_n 3, 1) := by decide +kernel
theorem dX10_person_85 : decode cX10_person 85 = .ok (.iastore, 1) := by decide +kernel
theorem dX10_person_86 : decode cX10_person 86 = .ok (.aload_n 0, 1) := by decide +kernel
theorem dX10_person_87 : decode cX10_person 87 = .ok (.getfield 9, 3) := by decide +kernel
theorem dX10_person_90 : decode cX10_person 90 = .ok (.bipush 79, 2) := by decide +kernel
theorem dX10_person_92 : decode cX10_person 92 = .ok (.iload 4, 2) := by decide +kernel
theorem dX10_person_94 : decode cX10_person 94 = .ok (.iadd, 1) := by decide +kernel
theorem dX10_person_95 : decode cX10_person 95 = .ok (.iconst (-1), 1) := by decide +kernel
theorem dX10_person_96 : decode cX10_person 96 = .ok (.iastore, 1) := by decide +kernel
theorem dX10_person_97 : decode cX10_person 97 = .ok (.aload_n 0, 1) := by decide +kernel
theorem dX10_person_98 : decode cX10_person 98 = .ok (.getfield 9, 3) := by decide +kernel
theorem dX10_person_101 : decode cX10_person 101 = .ok (.bipush 99, 2) := by decide +kernel
theorem dX10_person_103 : decode cX10_person 103 = .ok (.iload 4, 2) := by decide +kernel
theorem dX10_person_105 : decode cX10_person 105 = .ok (.iadd, 1) := by decide +kernel
theorem dX10_person_106 : decode cX10_person 106 = .ok (.iconst (-1), 1) := by decide +kernel
theorem dX10_person_107 : decode cX10_person 107 = .ok (.iastore, 1) := by decide +kernel
theorem dX10_person_108 : decode cX10_person 108 = .ok (.aload_n 0, 1) := by decide +kernel
theorem dX10_person_109 : decode cX10_person 109 = .ok (.getfield 9, 3) := by decide +kernel
theorem dX10_person_112 : decode cX10_person 112 = .ok (.iconst 1, 1) := by decide +kernel
theorem dX10_person_113 : decode cX10_person 113 = .ok (.dup2, 1) := by decide +kernel
theorem dX10_person_114 : decode cX10_person 114 = .ok (.iaload, 1) := by decide +kernel
theorem dX10_person_115 : decode cX10_person 115 = .ok (.iconst 1, 1) := by decide +kernel
theorem dX10_person_116 : decode cX10_person 116 = .ok (.iadd, 1) := by decide +kernel
theorem dX10_person_117 : decode cX10_person 117 = .ok (.iastore, 1) := by decide +kernel
theorem dX10_person_118 : decode cX10_person 118 = .ok (.iload 4, 2) := by decide +kernel
theorem dX10_person_120 : decode cX10_person 120 = .ok (.ireturn, 1) := by decide +kernel
theorem dX10_as_0 : decode cX10_as 0 = .ok (.aload_n 0, 1) := by decide +kernel
theorem dX10_as_1 : decode cX10_as 1 = .ok (.iload_n 1, 1) := by decide +kernel
theorem dX10_as_2 : decode cX10_as 2 = .ok (.invokevirtual 59, 3) := by decide +kernel
theorem dX10_as_5 : decode cX10_as 5 = .ok (.ifCond .eq 12, 3) := by decide +kernel
theorem dX10_as_8 : decode cX10_as 8 = .ok (.iload_n 2, 1) := by decide +kernel
theorem dX10_as_9 : decode cX10_as 9 = .ok (.iconst 0, 1) := by decide +kernel
theorem dX10_as_10 : decode cX10_as 10 = .ok (.iconst 3, 1) := by decide +kernel
theorem dX10_as_11 : decode cX10_as 11 = .ok (.invokestatic 41, 3) := by decide +kernel
theorem dX10_as_14 : decode cX10_as 14 = .ok (.ifCond .ne 10, 3) := by decide +kernel
theorem dX10_as_17 : decode cX10_as 17 = .ok (.aload_n 0, 1) := by decide +kernel
theorem dX10_as_18 : decode cX10_as 18 = .ok (.ldc 45, 2) := by decide +kernel
theorem dX10_as_20 : decode cX10_as 20 = .ok (.invokevirtual 46, 3) := by decide +kernel
theorem dX10_as_23 : decode cX10_as 23 = .ok (.ireturn, 1) := by decide +kernel
theorem dX10_as_24 : decode cX10_as 24 = .ok (.aload_n 0, 1) := by decide +kernel
theorem dX10_as_25 : decode cX10_as 25 = .ok (.getfield 9, 3) := by decide +kernel
theorem dX10_as_28 : decode cX10_as 28 = .ok (.bipush 49, 2) := by decide +kernel
theorem dX10_as_30 : decode cX10_as 30 = .ok (.iload_n 1, 1) := by decide +kernel
theorem dX10_as_31 : decode cX10_as 31 = .ok (.iadd, 1) := by decide +kernel
theorem dX10_as_32 : decode cX10_as 32 = .ok (.iaload, 1) := by decide +kernel
theorem dX10_as_33 : decode cX10_as 33 = .ok (.istore_n 3, 1) := by decide +kernel
theorem dX10_as_34 : decode cX10_as 34 = .ok (.iload_n 2, 1) := by decide +kernel
theorem dX10_as_35 : decode cX10_as 35 = .ok (.ifCond .eq 18, 3) := by decide +kernel
theorem dX10_as_38 : decode cX10_as 38 = .ok (.iload_n 3, 1) := by decide +kernel
theorem dX10_as_39 : decode cX10_as 39 = .ok (.iload_n 2, 1) := by decide +kernel
theorem dX10_as_40 : decode cX10_as 40 = .ok (.if_icmp .eq 13, 3) := by decide +kernel
theorem dX10_as_43 : decode cX10_as 43 = .ok (.iload_n 2, 1) := by decide +kernel
theorem dX10_as_44 : decode cX10_as 44 = .ok (.iconst 2, 1) := by decide +kernel
theorem dX10_as_45 : decode cX10_as 45 = .ok (.if_icmp .ne 12, 3) := by decide +kernel
theorem dX10_as_48 : decode cX10_as 48 = .ok (.iload_n 3, 1) := by decide +kernel
theorem dX10_as_49 : decode cX10_as 49 = .ok (.iconst 3, 1) := by decide +kernel
theorem dX10_as_50 : decode cX10_as 50 = .ok (.if_icmp .ne 7, 3) := by decide +kernel
theorem dX10_as_53 : decode cX10_as 53 = .ok (.iload_n 1, 1) := by decide +kernel
theorem dX10_as_54 : decode cX10_as 54 = .ok (.goto 9, 3) := by decide +kernel
theorem dX10_as_57 : decode cX10_as 57 = .ok (.aload_n 0, 1) := by decide +kernel
theorem dX10_as_58 : decode cX10_as 58 = .ok (.ldc 62, 2) := by decide +kernel
theorem dX10_as_60 : decode cX10_as 60 = .ok (.invokevirtual 46, 3) := by decide +kernel
theorem dX10_as_63 : decode cX10_as 63 = .ok (.ireturn, 1) := by decide +kernel
theorem dX10_link_0 : decode cX10_link 0 = .ok (.iload_n 2, 1) := by decide +kernel
theorem dX10_link_1 : decode cX10_link 1 = .ok (.istore 4, 2) := by decide +kernel
theorem dX10_link_3 : decode cX10_link 3 = .ok (.iload 4, 2) := by decide +kernel
theorem dX10_link_5 : decode cX10_link 5 = .ok (.ifCond .lt 31, 3) := by decide +kernel
theorem dX10_link_8 : decode cX10_link 8 = .ok (.iload 4, 2) := by decide +kernel
theorem dX10_link_10 : decode cX10_link 10 = .ok (.iload_n 1, 1) := by decide +kernel
theorem dX10_link_11 : decode cX10_link 11 = .ok (.if_icmp .ne 10, 3) := by decide +kernel
theorem dX10_link_14 : decode cX10_link 14 = .ok (.aload_n 0, 1) := by decide +kernel
theorem dX10_link_15 : decode cX10_link 15 = .ok (.ldc 63, 2) := by decide +kernel
theorem dX10_link_17 : decode cX10_link 17 = .ok (.invokevirtual 46, 3) := by decide +kernel
theorem dX10_link_20 : decode cX10_link 20 = .ok (.ireturn, 1) := by decide +kernel
theorem dX10_link_21 : decode cX10_link 21 = .ok (.aload_n 0, 1) := by decide +kernel
theorem dX10_link_22 : decode cX10_link 22 = .ok (.getfield 9, 3) := by decide +kernel
theorem dX10_link_25 : decode cX10_link 25 = .ok (.bipush 79, 2) := by decide +kernel
theorem dX10_link_27 : decode cX10_link 27 = .ok (.iload 4, 2) := by decide +kernel
theorem dX10_link_29 : decode cX10_link 29 = .ok (.iadd, 1) := by decide +kernel
theorem dX10_link_30 : decode cX10_link 30 = .ok (.iaload, 1) := by decide +kernel
theorem dX10_link_31 : decode cX10_link 31 = .ok (.istore 4, 2) := by decide +kernel
theorem dX10_link_33 : decode cX10_link 33 = .ok (.goto (-30), 3) := by decide +kernel
theorem dX10_link_36 : decode cX10_link 36 = .ok (.aload_n 0, 1) := by decide +kernel
theorem dX10_link_37 : decode cX10_link 37 = .ok (.getfield 9, 3) := by decide +kernel
theorem dX10_link_40 : decode cX10_link 40 = .ok (.bipush 79, 2) := by decide +kernel
theorem dX10_link_42 : decode cX10_link 42 = .ok (.iload_n 1, 1) := by decide +kernel
theorem dX10_link_43 : decode cX10_link 43 = .ok (.iadd, 1) := by decide +kernel
theorem dX10_link_44 : decode cX10_link 44 = .ok (.iaload, 1) := by decide +kernel
theorem dX10_link_45 : decode cX10_link 45 = .ok (.istore 4, 2) := by decide +kernel
theorem dX10_link_47 : decode cX10_link 47 = .ok (.aload_n 0, 1) := by decide +kernel
theorem dX10_link_48 : decode cX10_link 48 = .ok (.getfield 9, 3) := by decide +kernel
theorem dX10_link_51 : decode cX10_link 51 = .ok (.bipush 79, 2) := by decide +kernel
theorem dX10_link_53 : decode cX10_link 53 = .ok (.iload_n 1, 1) := by decide +kernel
theorem dX10_link_54 : decode cX10_link 54 = .ok (.iadd, 1) := by decide +kernel
theorem dX10_link_55 : decode cX10_link 55 = .ok (.iload_n 2, 1) := by decide +kernel
theorem dX10_link_56 : decode cX10_link 56 = .ok (.iastore, 1) := by decide +kernel
theorem dX10_link_57 : decode cX10_link 57 = .ok (.aload_n 0, 1) := by decide +kernel
theorem dX10_link_58 : decode cX10_link 58 = .ok (.getfield 9, 3) := by decide +kernel
theorem dX10_link_61 : decode cX10_link 61 = .ok (.bipush 89, 2) := by decide +kernel
theorem dX10_link_63 : decode cX10_link 63 = .ok (.iload_n 1, 1) := by decide +kernel
theorem dX10_link_64 : decode cX10_link 64 = .ok (.iadd, 1) := by decide +kernel
theorem dX10_link_65 : decode cX10_link 65 = .ok (.iload_n 3, 1) := by decide +kernel
theorem dX10_link_66 : decode cX10_link 66 = .ok (.iastore, 1) := by decide +kernel
theorem dX10_link_67 : decode cX10_link 67 = .ok (.iload 4, 2) := by decide +kernel
theorem dX10_link_69 : decode cX10_link 69 = .ok (.ireturn, 1) := by decide +kernel
theorem dX10_husband_0 : decode cX10_husband 0 = .ok (.aload_n 0, 1) := by decide +kernel
theorem dX10_husband_1 : decode cX10_husband 1 = .ok (.iload_n 1, 1) := by decide +kernel
theorem dX10_husband_2 : decode cX10_husband 2 = .ok (.invokevirtual 59, 3) := by decide +kernel
theorem dX10_husband_5 : decode cX10_husband 5 = .ok (.ifCond .eq 23, 3) := by decide +kernel
theorem dX10_husband_8 : decode cX10_husband 8 = .ok (.iload_n 2, 1) := by decide +kernel
theorem dX10_husband_9 : decode cX10_husband 9 = .ok (.iconst (-1), 1) := by decide +kernel
theorem dX10_husband_10 : decode cX10_husband 10 = .ok (.if_icmp .eq 25, 3) := by decide +kernel
theorem dX10_husband_13 : decode cX10_husband 13 = .ok (.aload_n 0, 1) := by decide +kernel
theorem dX10_husband_14 : decode cX10_husband 14 = .ok (.iload_n 2, 1) := by decide +kernel
theorem dX10_husband_15 : decode cX10_husband 15 = .ok (.invokevirtual 59, 3) := by decide +kernel
theorem dX10_husband_18 : decode cX10_husband 18 = .ok (.ifCond .eq 10, 3) := by decide +kernel
theorem dX10_husband_21 : decode cX10_husband 21 = .ok (.iload_n 3, 1) := by decide +kernel
theorem dX10_husband_22 : decode cX10_husband 22 = .ok (.invokestatic 56, 3) := by decide +kernel
theorem dX10_husband_25 : decode cX10_husband 25 = .ok (.ifCond .ne 10, 3) := by decide +kernel
theorem dX10_husband_28 : decode cX10_husband 28 = .ok (.aload_n 0, 1) := by decide +kernel
theorem dX10_husband_29 : decode cX10_husband 29 = .ok (.ldc 45, 2) := by decide +kernel
theorem dX10_husband_31 : decode cX10_husband 31 = .ok (.invokevirtual 46, 3) := by decide +kernel
theorem dX10_husband_34 : decode cX10_husband 34 = .ok (.ireturn, 1) := by decide +kernel
theorem dX10_husband_35 : decode cX10_husband 35 = .ok (.aload_n 0, 1) := by decide +kernel
theorem dX10_husband_36 : decode cX10_husband 36 = .ok (.getfield 9, 3) := by decide +kernel
theorem dX10_husband_39 : decode cX10_husband 39 = .ok (.bipush 49, 2) := by decide +kernel
theorem dX10_husband_41 : decode cX10_husband 41 = .ok (.iload_n 1, 1) := by decide +kernel
theorem dX10_husband_42 : decode cX10_husband 42 = .ok (.iadd, 1) := by decide +kernel
theorem dX10_husband_43 : decode cX10_husband 43 = .ok (.iaload, 1) := by decide +kernel
theorem dX10_husband_44 : decode cX10_husband 44 = .ok (.iconst 1, 1) := by decide +kernel
theorem dX10_husband_45 : decode cX10_husband 45 = .ok (.if_icmp .ne 13, 3) := by decide +kernel
theorem dX10_husband_48 : decode cX10_husband 48 = .ok (.aload_n 0, 1) := by decide +kernel
theorem dX10_husband_49 : decode cX10_husband 49 = .ok (.iload_n 1, 1) := by decide +kernel
theorem dX10_husband_50 : decode cX10_husband 50 = .ok (.iload_n 2, 1) := by decide +kernel
theorem dX10_husband_51 : decode cX10_husband 51 = .ok (.iload_n 3, 1) := by decide +kernel
theorem dX10_husband_52 : decode cX10_husband 52 = .ok (.invokevirtual 64, 3) := by decide +kernel
theorem dX10_husband_55 : decode cX10_husband 55 = .ok (.goto 9, 3) := by decide +kernel
theorem dX10_husband_58 : decode cX10_husband 58 = .ok (.aload_n 0, 1) := by decide +kernel
theorem dX10_husband_59 : decode cX10_husband 59 = .ok (.ldc 62, 2) := by decide +kernel
theorem dX10_husband_61 : decode cX10_husband 61 = .ok (.invokevirtual 46, 3) := by decide +kernel
theorem dX10_husband_64 : decode cX10_husband 64 = .ok (.ireturn, 1) := by decide +kernel
theorem dX10_father_0 : decode cX10_father 0 = .ok (.aload_n 0, 1) := by decide +kernel
theorem dX10_father_1 : decode cX10_father 1 = .ok (.iload_n 1, 1) := by decide +kernel
theorem dX10_father_2 : decode cX10_father 2 = .ok (.invokevirtual 59, 3) := by decide +kernel
theorem dX10_father_5 : decode cX10_father 5 = .ok (.ifCond .eq 16, 3) := by decide +kernel
theorem dX10_father_8 : decode cX10_father 8 = .ok (.iload_n 2, 1) := by decide +kernel
theorem dX10_father_9 : decode cX10_father 9 = .ok (.iconst (-1), 1) := by decide +kernel
theorem dX10_father_10 : decode cX10_father 10 = .ok (.if_icmp .eq 18, 3) := by decide +kernel
theorem dX10_father_13 : decode cX10_father 13 = .ok (.aload_n 0, 1) := by decide +kernel
theorem dX10_father_14 : decode cX10_father 14 = .ok (.iload_n 2, 1) := by decide +kernel
theorem dX10_father_15 : decode cX10_father 15 = .ok (.invokevirtual 59, 3) := by decide +kernel
theorem dX10_father_18 : decode cX10_father 18 = .ok (.ifCond .ne 10, 3) := by decide +kernel
theorem dX10_father_21 : decode cX10_father 21 = .ok (.aload_n 0, 1) := by decide +kernel
theorem dX10_father_22 : decode cX10_father 22 = .ok (.ldc 45, 2) := by decide +kernel
theorem dX10_father_24 : decode cX10_father 24 = .ok (.invokevirtual 46, 3) := by decide +kernel
theorem dX10_father_27 : decode cX10_father 27 = .ok (.ireturn, 1) := by decide +kernel
theorem dX10_father_28 : decode cX10_father 28 = .ok (.aload_n 0, 1) := by decide +kernel
theorem dX10_father_29 : decode cX10_father 29 = .ok (.getfield 9, 3) := by decide +kernel
theorem dX10_father_32 : decode cX10_father 32 = .ok (.bipush 49, 2) := by decide +kernel
theorem dX10_father_34 : decode cX10_father 34 = .ok (.iload_n 1, 1) := by decide +kernel
theorem dX10_father_35 : decode cX10_father 35 = .ok (.iadd, 1) := by decide +kernel
theorem dX10_father_36 : decode cX10_father 36 = .ok (.iaload, 1) := by decide +kernel
theorem dX10_father_37 : decode cX10_father 37 = .ok (.iconst 2, 1) := by decide +kernel
theorem dX10_father_38 : decode cX10_father 38 = .ok (.if_icmp .ne 13, 3) := by decide +kernel
theorem dX10_father_41 : decode cX10_father 41 = .ok (.aload_n 0, 1) := by decide +kernel
theorem dX10_father_42 : decode cX10_father 42 = .ok (.iload_n 1, 1) := by decide +kernel
theorem dX10_father_43 : decode cX10_father 43 = .ok (.iload_n 2, 1) := by decide +kernel
theorem dX10_father_44 : decode cX10_father 44 = .ok (.iconst 0, 1) := by decide +kernel
theorem dX10_father_45 : decode cX10_father 45 = .ok (.invokevirtual 64, 3) := by decide +kernel
theorem dX10_father_48 : decode cX10_father 48 = .ok (.goto 9, 3) := by decide +kernel
theorem dX10_father_51 : decode cX10_father 51 = .ok (.aload_n 0, 1) := by decide +kernel
theorem dX10_father_52 : decode cX10_father 52 = .ok (.ldc 62, 2) := by decide +kernel
theorem dX10_father_54 : decode cX10_father 54 = .ok (.invokevirtual 46, 3) := by decide +kernel
theorem dX10_father_57 : decode cX10_father 57 = .ok (.ireturn, 1) := by decide +kernel
theorem dX10_fact_0 : decode cX10_fact 0 = .ok (.iload_n 1, 1) := by decide +kernel
theorem dX10_fact_1 : decode cX10_fact 1 = .ok (.iconst 0, 1) := by decide +kernel
theorem dX10_fact_2 : decode cX10_fact 2 = .ok (.iconst 1, 1) := by decide +kernel
theorem dX10_fact_3 : decode cX10_fact 3 = .ok (.invokestatic 41, 3) := by decide +kernel
theorem dX10_fact_6 : decode cX10_fact 6 = .ok (.ifCond .eq 38, 3) := by decide +kernel
theorem dX10_fact_9 : decode cX10_fact 9 = .ok (.aload_n 0, 1) := by decide +kernel
theorem dX10_fact_10 : decode cX10_fact 10 = .ok (.iload_n 2, 1) := by decide +kernel
theorem dX10_fact_11 : decode cX10_fact 11 = .ok (.invokevirtual 59, 3) := by decide +kernel
theorem dX10_fact_14 : decode cX10_fact 14 = .ok (.ifCond .eq 30, 3) := by decide +kernel
theorem dX10_fact_17 : decode cX10_fact 17 = .ok (.aload_n 0, 1) := by decide +kernel
theorem dX10_fact_18 : decode cX10_fact 18 = .ok (.iload_n 3, 1) := by decide +kernel
theorem dX10_fact_19 : decode cX10_fact 19 = .ok (.invokevirtual 51, 3) := by decide +kernel
theorem dX10_fact_22 : decode cX10_fact 22 = .ok (.ifCond .eq 22, 3) := by decide +kernel
theorem dX10_fact_25 : decode cX10_fact 25 = .ok (.iload_n 1, 1) := by decide +kernel
theorem dX10_fact_26 : decode cX10_fact 26 = .ok (.ifCond .eq 14, 3) := by decide +kernel
theorem dX10_fact_29 : decode cX10_fact 29 = .ok (.iload 4, 2) := by decide +kernel
theorem dX10_fact_31 : decode cX10_fact 31 = .ok (.iconst 0, 1) := by decide +kernel
theorem dX10_fact_32 : decode cX10_fact 32 = .ok (.bipush 99, 2) := by decide +kernel
theorem dX10_fact_34 : decode cX10_fact 34 = .ok (.invokestatic 41, 3) := by decide +kernel
theorem dX10_fact_37 : decode cX10_fact 37 = .ok (.ifCond .eq 7, 3) := by decide +kernel
theorem dX10_fact_40 : decode cX10_fact 40 = .ok (.iconst 1, 1) := by decide +kernel
theorem dX10_fact_41 : decode cX10_fact 41 = .ok (.goto 4, 3) := by decide +kernel
theorem dX10_fact_44 : decode cX10_fact 44 = .ok (.iconst 0, 1) := by decide +kernel
theorem dX10_fact_45 : decode cX10_fact 45 = .ok (.istore 8, 2) := by decide +kernel
theorem dX10_fact_47 : decode cX10_fact 47 = .ok (.iload 8, 2) := by decide +kernel
theorem dX10_fact_49 : decode cX10_fact 49 = .ok (.ifCond .eq 27, 3) := by decide +kernel
theorem dX10_fact_52 : decode cX10_fact 52 = .ok (.iload 5, 2) := by decide +kernel
theorem dX10_fact_54 : decode cX10_fact 54 = .ok (.invokestatic 56, 3) := by decide +kernel
theorem dX10_fact_57 : decode cX10_fact 57 = .ok (.ifCond .eq 19, 3) := by decide +kernel
theorem dX10_fact_60 : decode cX10_fact 60 = .ok (.iload 6, 2) := by decide +kernel
theorem dX10_fact_62 : decode cX10_fact 62 = .ok (.invokestatic 56, 3) := by decide +kernel
theorem dX10_fact_65 : decode cX10_fact 65 = .ok (.ifCond .eq 11, 3) := by decide +kernel
theorem dX10_fact_68 : decode cX10_fact 68 = .ok (.iload 7, 2) := by decide +kernel
theorem dX10_fact_70 : decode cX10_fact 70 = .ok (.invokestatic 56, 3) := by decide +kernel
theorem dX10_fact_73 : decode cX10_fact 73 = .ok (.ifCond .ne 10, 3) := by decide +kernel
theorem dX10_fact_76 : decode cX10_fact 76 = .ok (.aload_n 0, 1) := by decide +kernel
theorem dX10_fact_77 : decode cX10_fact 77 = .ok (.ldc 45, 2) := by decide +kernel
theorem dX10_fact_79 : decode cX10_fact 79 = .ok (.invokevirtual 46, 3) := by decide +kernel
theorem dX10_fact_82 : decode cX10_fact 82 = .ok (.ireturn, 1) := by decide +kernel
theorem dX10_fact_83 : decode cX10_fact 83 = .ok (.iload 5, 2) := by decide +kernel
theorem dX10_fact_85 : decode cX10_fact 85 = .ok (.iload 6, 2) := by decide +kernel
theorem dX10_fact_87 : decode cX10_fact 87 = .ok (.if_icmp .le 10, 3) := by decide +kernel
theorem dX10_fact_90 : decode cX10_fact 90 = .ok (.aload_n 0, 1) := by decide +kernel
theorem dX10_fact_91 : decode cX10_fact 91 = .ok (.ldc 55, 2) := by decide +kernel
theorem dX10_fact_93 : decode cX10_fact 93 = .ok (.invokevirtual 46, 3) := by decide +kernel
theorem dX10_fact_96 : decode cX10_fact 96 = .ok (.ireturn, 1) := by decide +kernel
theorem dX10_fact_97 : decode cX10_fact 97 = .ok (.aload_n 0, 1) := by decide +kernel
theorem dX10_fact_98 : decode cX10_fact 98 = .ok (.getfield 9, 3) := by decide +kernel
theorem dX10_fact_101 : decode cX10_fact 101 = .ok (.iconst 2, 1) := by decide +kernel
theorem dX10_fact_102 : decode cX10_fact 102 = .ok (.iaload, 1) := by decide +kernel
theorem dX10_fact_103 : decode cX10_fact 103 = .ok (.istore 9, 2) := by decide +kernel
theorem dX10_fact_105 : decode cX10_fact 105 = .ok (.iload 9, 2) := by decide +kernel
theorem dX10_fact_107 : decode cX10_fact 107 = .ok (.bipush 24, 2) := by decide +kernel
theorem dX10_fact_109 : decode cX10_fact 109 = .ok (.if_icmp .ne 10, 3) := by decide +kernel
theorem dX10_fact_112 : decode cX10_fact 112 = .ok (.aload_n 0, 1) := by decide +kernel
theorem dX10_fact_113 : decode cX10_fact 113 = .ok (.ldc 50, 2) := by decide +kernel
theorem dX10_fact_115 : decode cX10_fact 115 = .ok (.invokevirtual 46, 3) := by decide +kernel
theorem dX10_fact_118 : decode cX10_fact 118 = .ok (.ireturn, 1) := by decide +kernel
theorem dX10_fact_119 : decode cX10_fact 119 = .ok (.aload_n 0, 1) := by decide +kernel
theorem dX10_fact_120 : decode cX10_fact 120 = .ok (.getfield 9, 3) := by decide +kernel
theorem dX10_fact_123 : decode cX10_fact 123 = .ok (.sipush 129, 3) := by decide +kernel
theorem dX10_fact_126 : decode cX10_fact 126 = .ok (.iload 9, 2) := by decide +kernel
theorem dX10_fact_128 : decode cX10_fact 128 = .ok (.iadd, 1) := by decide +kernel
theorem dX10_fact_129 : decode cX10_fact 129 = .ok (.iload_n 1, 1) := by decide +kernel
theorem dX10_fact_130 : decode cX10_fact 130 = .ok (.iastore, 1) := by decide +kernel
theorem dX10_fact_131 : decode cX10_fact 131 = .ok (.aload_n 0, 1) := by decide +kernel
theorem dX10_fact_132 : decode cX10_fact 132 = .ok (.getfield 9, 3) := by decide +kernel
theorem dX10_fact_135 : decode cX10_fact 135 = .ok (.sipush 153, 3) := by decide +kernel
theorem dX10_fact_138 : decode cX10_fact 138 = .ok (.iload 9, 2) := by decide +kernel
theorem dX10_fact_140 : decode cX10_fact 140 = .ok (.iadd, 1) := by decide +kernel
theorem dX10_fact_141 : decode cX10_fact 141 = .ok (.iload_n 2, 1) := by decide +kernel
theorem dX10_fact_142 : decode cX10_fact 142 = .ok (.iastore, 1) := by decide +kernel
theorem dX10_fact_143 : decode cX10_fact 143 = .ok (.aload_n 0, 1) := by decide +kernel
theorem dX10_fact_144 : decode cX10_fact 144 = .ok (.getfield 9, 3) := by decide +kernel
theorem dX10_fact_147 : decode cX10_fact 147 = .ok (.sipush 177, 3) := by decide +kernel
theorem dX10_fact_150 : decode cX10_fact 150 = .ok (.iload 9, 2) := by decide +kernel
theorem dX10_fact_152 : decode cX10_fact 152 = .ok (.iadd, 1) := by decide +kernel
theorem dX10_fact_153 : decode cX10_fact 153 = .ok (.iload_n 3, 1) := by decide +kernel
theorem dX10_fact_154 : decode cX10_fact 154 = .ok (.iastore, 1) := by decide +kernel
theorem dX10_fact_155 : decode cX10_fact 155 = .ok (.aload_n 0, 1) := by decide +kernel
theorem dX10_fact_156 : decode cX10_fact 156 = .ok (.getfield 9, 3) := by decide +kernel
theorem dX10_fact_159 : decode cX10_fact 159 = .ok (.sipush 201, 3) := by decide +kernel
theorem dX10_fact_162 : decode cX10_fact 162 = .ok (.iload 9, 2) := by decide +kernel
theorem dX10_fact_164 : decode cX10_fact 164 = .ok (.iadd, 1) := by decide +kernel
theorem dX10_fact_165 : decode cX10_fact 165 = .ok (.iload_n 1, 1) := by decide +kernel
theorem dX10_fact_166 : decode cX10_fact 166 = .ok (.ifCond .ne 7, 3) := by decide +kernel
theorem dX10_fact_169 : decode cX10_fact 169 = .ok (.iconst 0, 1) := by decide +kernel
theorem dX10_fact_170 : decode cX10_fact 170 = .ok (.goto 5, 3) := by decide +kernel
theorem dX10_fact_173 : decode cX10_fact 173 = .ok (.iload 4, 2) := by decide +kernel
theorem dX10_fact_175 : decode cX10_fact 175 = .ok (.iastore, 1) := by decide +kernel
theorem dX10_fact_176 : decode cX10_fact 176 = .ok (.aload_n 0, 1) := by decide +kernel
theorem dX10_fact_177 : decode cX10_fact 177 = .ok (.getfield 9, 3) := by decide +kernel
theorem dX10_fact_180 : decode cX10_fact 180 = .ok (.sipush 225, 3) := by decide +kernel
theorem dX10_fact_183 : decode cX10_fact 183 = .ok (.iload 9, 2) := by decide +kernel
theorem dX10_fact_185 : decode cX10_fact 185 = .ok (.iadd, 1) := by decide +kernel
theorem dX10_fact_186 : decode cX10_fact 186 = .ok (.iload 5, 2) := by decide +kernel
theorem dX10_fact_188 : decode cX10_fact 188 = .ok (.iastore, 1) := by decide +kernel
theorem dX10_fact_189 : decode cX10_fact 189 = .ok (.aload_n 0, 1) := by decide +kernel
theorem dX10_fact_190 : decode cX10_fact 190 = .ok (.getfield 9, 3) := by decide +kernel
theorem dX10_fact_193 : decode cX10_fact 193 = .ok (.sipush 249, 3) := by decide +kernel
theorem dX10_fact_196 : decode cX10_fact 196 = .ok (.iload 9, 2) := by decide +kernel
theorem dX10_fact_198 : decode cX10_fact 198 = .ok (.iadd, 1) := by decide +kernel
theorem dX10_fact_199 : decode cX10_fact 199 = .ok (.iload 6, 2) := by decide +kernel
theorem dX10_fact_201 : decode cX10_fact 201 = .ok (.iastore, 1) := by decide +kernel
theorem dX10_fact_202 : decode cX10_fact 202 = .ok (.aload_n 0, 1) := by decide +kernel
theorem dX10_fact_203 : decode cX10_fact 203 = .ok (.getfield 9, 3) := by decide +kernel
theorem dX10_fact_206 : decode cX10_fact 206 = .ok (.sipush 273, 3) := by decide +kernel
theorem dX10_fact_209 : decode cX10_fact 209 = .ok (.iload 9, 2) := by decide +kernel
theorem dX10_fact_211 : decode cX10_fact 211 = .ok (.iadd, 1) := by decide +kernel
theorem dX10_fact_212 : decode cX10_fact 212 = .ok (.iload 7, 2) := by decide +kernel
theorem dX10_fact_214 : decode cX10_fact 214 = .ok (.iastore, 1) := by decide +kernel
theorem dX10_fact_215 : decode cX10_fact 215 = .ok (.aload_n 0, 1) := by decide +kernel
theorem dX10_fact_216 : decode cX10_fact 216 = .ok (.getfield 9, 3) := by decide +kernel
theorem dX10_fact_219 : decode cX10_fact 219 = .ok (.sipush 297, 3) := by decide +kernel
theorem dX10_fact_222 : decode cX10_fact 222 = .ok (.iload 9, 2) := by decide +kernel
theorem dX10_fact_224 : decode cX10_fact 224 = .ok (.iadd, 1) := by decide +kernel
theorem dX10_fact_225 : decode cX10_fact 225 = .ok (.iconst 0, 1) := by decide +kernel
theorem dX10_fact_226 : decode cX10_fact 226 = .ok (.iastore, 1) := by decide +kernel
theorem dX10_fact_227 : decode cX10_fact 227 = .ok (.aload_n 0, 1) := by decide +kernel
theorem dX10_fact_228 : decode cX10_fact 228 = .ok (.getfield 9, 3) := by decide +kernel
theorem dX10_fact_231 : decode cX10_fact 231 = .ok (.iconst 2, 1) := by decide +kernel
theorem dX10_fact_232 : decode cX10_fact 232 = .ok (.dup2, 1) := by decide +kernel
theorem dX10_fact_233 : decode cX10_fact 233 = .ok (.iaload, 1) := by decide +kernel
theorem dX10_fact_234 : decode cX10_fact 234 = .ok (.iconst 1, 1) := by decide +kernel
theorem dX10_fact_235 : decode cX10_fact 235 = .ok (.iadd, 1) := by decide +kernel
theorem dX10_fact_236 : decode cX10_fact 236 = .ok (.iastore, 1) := by decide +kernel
theorem dX10_fact_237 : decode cX10_fact 237 = .ok (.iload 9, 2) := by decide +kernel
theorem dX10_fact_239 : decode cX10_fact 239 = .ok (.ireturn, 1) := by decide +kernel
theorem dX10_doubts_0 : decode cX10_doubts 0 = .ok (.iconst 0, 1) := by decide +kernel
theorem dX10_doubts_1 : decode cX10_doubts 1 = .ok (.istore_n 1, 1) := by decide +kernel
theorem dX10_doubts_2 : decode cX10_doubts 2 = .ok (.iconst 0, 1) := by decide +kernel
theorem dX10_doubts_3 : decode cX10_doubts 3 = .ok (.istore_n 2, 1) := by decide +kernel
theorem dX10_doubts_4 : decode cX10_doubts 4 = .ok (.iload_n 2, 1) := by decide +kernel
theorem dX10_doubts_5 : decode cX10_doubts 5 = .ok (.aload_n 0, 1) := by decide +kernel
theorem dX10_doubts_6 : decode cX10_doubts 6 = .ok (.getfield 9, 3) := by decide +kernel
theorem dX10_doubts_9 : decode cX10_doubts 9 = .ok (.iconst 2, 1) := by decide +kernel
theorem dX10_doubts_10 : decode cX10_doubts 10 = .ok (.iaload, 1) := by decide +kernel
theorem dX10_doubts_11 : decode cX10_doubts 11 = .ok (.if_icmp .ge 22, 3) := by decide +kernel
theorem dX10_doubts_14 : decode cX10_doubts 14 = .ok (.iload_n 1, 1) := by decide +kernel
theorem dX10_doubts_15 : decode cX10_doubts 15 = .ok (.aload_n 0, 1) := by decide +kernel
theorem dX10_doubts_16 : decode cX10_doubts 16 = .ok (.getfield 9, 3) := by decide +kernel
theorem dX10_doubts_19 : decode cX10_doubts 19 = .ok (.sipush 297, 3) := by decide +kernel
theorem dX10_doubts_22 : decode cX10_doubts 22 = .ok (.iload_n 2, 1) := by decide +kernel
theorem dX10_doubts_23 : decode cX10_doubts 23 = .ok (.iadd, 1) := by decide +kernel
theorem dX10_doubts_24 : decode cX10_doubts 24 = .ok (.iaload, 1) := by decide +kernel
theorem dX10_doubts_25 : decode cX10_doubts 25 = .ok (.iadd, 1) := by decide +kernel
theorem dX10_doubts_26 : decode cX10_doubts 26 = .ok (.istore_n 1, 1) := by decide +kernel
theorem dX10_doubts_27 : decode cX10_doubts 27 = .ok (.iinc 2 1, 3) := by decide +kernel
theorem dX10_doubts_30 : decode cX10_doubts 30 = .ok (.goto (-26), 3) := by decide +kernel
theorem dX10_doubts_33 : decode cX10_doubts 33 = .ok (.iload_n 1, 1) := by decide +kernel
theorem dX10_doubts_34 : decode cX10_doubts 34 = .ok (.ireturn, 1) := by decide +kernel
theorem dX10_doubt_0 : decode cX10_doubt 0 = .ok (.iload_n 1, 1) := by decide +kernel
theorem dX10_doubt_1 : decode cX10_doubt 1 = .ok (.iconst 0, 1) := by decide +kernel
theorem dX10_doubt_2 : decode cX10_doubt 2 = .ok (.aload_n 0, 1) := by decide +kernel
theorem dX10_doubt_3 : decode cX10_doubt 3 = .ok (.getfield 9, 3) := by decide +kernel
theorem dX10_doubt_6 : decode cX10_doubt 6 = .ok (.iconst 2, 1) := by decide +kernel
theorem dX10_doubt_7 : decode cX10_doubt 7 = .ok (.iaload, 1) := by decide +kernel
theorem dX10_doubt_8 : decode cX10_doubt 8 = .ok (.iconst 1, 1) := by decide +kernel
theorem dX10_doubt_9 : decode cX10_doubt 9 = .ok (.isub, 1) := by decide +kernel
theorem dX10_doubt_10 : decode cX10_doubt 10 = .ok (.invokestatic 41, 3) := by decide +kernel
theorem dX10_doubt_13 : decode cX10_doubt 13 = .ok (.ifCond .ne 10, 3) := by decide +kernel
theorem dX10_doubt_16 : decode cX10_doubt 16 = .ok (.aload_n 0, 1) := by decide +kernel
theorem dX10_doubt_17 : decode cX10_doubt 17 = .ok (.ldc 45, 2) := by decide +kernel
theorem dX10_doubt_19 : decode cX10_doubt 19 = .ok (.invokevirtual 46, 3) := by decide +kernel
theorem dX10_doubt_22 : decode cX10_doubt 22 = .ok (.ireturn, 1) := by decide +kernel
theorem dX10_doubt_23 : decode cX10_doubt 23 = .ok (.iload_n 2, 1) := by decide +kernel
theorem dX10_doubt_24 : decode cX10_doubt 24 = .ok (.ifCond .eq 7, 3) := by decide +kernel
theorem dX10_doubt_27 : decode cX10_doubt 27 = .ok (.iconst 1, 1) := by decide +kernel
theorem dX10_doubt_28 : decode cX10_doubt 28 = .ok (.goto 4, 3) := by decide +kernel
theorem dX10_doubt_31 : decode cX10_doubt 31 = .ok (.iconst 0, 1) := by decide +kernel
theorem dX10_doubt_32 : decode cX10_doubt 32 = .ok (.istore_n 3, 1) := by decide +kernel
theorem dX10_doubt_33 : decode cX10_doubt 33 = .ok (.aload_n 0, 1) := by decide +kernel
theorem dX10_doubt_34 : decode cX10_doubt 34 = .ok (.getfield 9, 3) := by decide +kernel
theorem dX10_doubt_37 : decode cX10_doubt 37 = .ok (.sipush 297, 3) := by decide +kernel
theorem dX10_doubt_40 : decode cX10_doubt 40 = .ok (.iload_n 1, 1) := by decide +kernel
theorem dX10_doubt_41 : decode cX10_doubt 41 = .ok (.iadd, 1) := by decide +kernel
theorem dX10_doubt_42 : decode cX10_doubt 42 = .ok (.iaload, 1) := by decide +kernel
theorem dX10_doubt_43 : decode cX10_doubt 43 = .ok (.iload_n 3, 1) := by decide +kernel
theorem dX10_doubt_44 : decode cX10_doubt 44 = .ok (.if_icmp .ne 5, 3) := by decide +kernel
theorem dX10_doubt_47 : decode cX10_doubt 47 = .ok (.iconst 0, 1) := by decide +kernel
theorem dX10_doubt_48 : decode cX10_doubt 48 = .ok (.ireturn, 1) := by decide +kernel
theorem dX10_doubt_49 : decode cX10_doubt 49 = .ok (.iload_n 2, 1) := by decide +kernel
theorem dX10_doubt_50 : decode cX10_doubt 50 = .ok (.ifCond .eq 19, 3) := by decide +kernel
theorem dX10_doubt_53 : decode cX10_doubt 53 = .ok (.aload_n 0, 1) := by decide +kernel
theorem dX10_doubt_54 : decode cX10_doubt 54 = .ok (.invokevirtual 68, 3) := by decide +kernel
theorem dX10_doubt_57 : decode cX10_doubt 57 = .ok (.bipush 8, 2) := by decide +kernel
theorem dX10_doubt_59 : decode cX10_doubt 59 = .ok (.if_icmp .ne 10, 3) := by decide +kernel
theorem dX10_doubt_62 : decode cX10_doubt 62 = .ok (.aload_n 0, 1) := by decide +kernel
theorem dX10_doubt_63 : decode cX10_doubt 63 = .ok (.ldc 50, 2) := by decide +kernel
theorem dX10_doubt_65 : decode cX10_doubt 65 = .ok (.invokevirtual 46, 3) := by decide +kernel
theorem dX10_doubt_68 : decode cX10_doubt 68 = .ok (.ireturn, 1) := by decide +kernel
theorem dX10_doubt_69 : decode cX10_doubt 69 = .ok (.aload_n 0, 1) := by decide +kernel
theorem dX10_doubt_70 : decode cX10_doubt 70 = .ok (.getfield 9, 3) := by decide +kernel
theorem dX10_doubt_73 : decode cX10_doubt 73 = .ok (.sipush 297, 3) := by decide +kernel
theorem dX10_doubt_76 : decode cX10_doubt 76 = .ok (.iload_n 1, 1) := by decide +kernel
theorem dX10_doubt_77 : decode cX10_doubt 77 = .ok (.iadd, 1) := by decide +kernel
theorem dX10_doubt_78 : decode cX10_doubt 78 = .ok (.iload_n 3, 1) := by decide +kernel
theorem dX10_doubt_79 : decode cX10_doubt 79 = .ok (.iastore, 1) := by decide +kernel
theorem dX10_doubt_80 : decode cX10_doubt 80 = .ok (.iconst 1, 1) := by decide +kernel
theorem dX10_doubt_81 : decode cX10_doubt 81 = .ok (.ireturn, 1) := by decide +kernel
theorem dX10_forget_0 : decode cX10_forget 0 = .ok (.aload_n 0, 1) := by decide +kernel
theorem dX10_forget_1 : decode cX10_forget 1 = .ok (.getfield 9, 3) := by decide +kernel
theorem dX10_forget_4 : decode cX10_forget 4 = .ok (.iconst 2, 1) := by decide +kernel
theorem dX10_forget_5 : decode cX10_forget 5 = .ok (.iaload, 1) := by decide +kernel
theorem dX10_forget_6 : decode cX10_forget 6 = .ok (.ifCond .ne 10, 3) := by decide +kernel
theorem dX10_forget_9 : decode cX10_forget 9 = .ok (.aload_n 0, 1) := by decide +kernel
theorem dX10_forget_10 : decode cX10_forget 10 = .ok (.ldc 72, 2) := by decide +kernel
theorem dX10_forget_12 : decode cX10_forget 12 = .ok (.invokevirtual 46, 3) := by decide +kernel
theorem dX10_forget_15 : decode cX10_forget 15 = .ok (.ireturn, 1) := by decide +kernel
theorem dX10_forget_16 : decode cX10_forget 16 = .ok (.aload_n 0, 1) := by decide +kernel
theorem dX10_forget_17 : decode cX10_forget 17 = .ok (.getfield 9, 3) := by decide +kernel
theorem dX10_forget_20 : decode cX10_forget 20 = .ok (.iconst 2, 1) := by decide +kernel
theorem dX10_forget_21 : decode cX10_forget 21 = .ok (.dup2, 1) := by decide +kernel
theorem dX10_forget_22 : decode cX10_forget 22 = .ok (.iaload, 1) := by decide +kernel
theorem dX10_forget_23 : decode cX10_forget 23 = .ok (.iconst 1, 1) := by decide +kernel
theorem dX10_forget_24 : decode cX10_forget 24 = .ok (.isub, 1) := by decide +kernel
theorem dX10_forget_25 : decode cX10_forget 25 = .ok (.iastore, 1) := by decide +kernel
theorem dX10_forget_26 : decode cX10_forget 26 = .ok (.aload_n 0, 1) := by decide +kernel
theorem dX10_forget_27 : decode cX10_forget 27 = .ok (.getfield 9, 3) := by decide +kernel
theorem dX10_forget_30 : decode cX10_forget 30 = .ok (.iconst 2, 1) := by decide +kernel
theorem dX10_forget_31 : decode cX10_forget 31 = .ok (.iaload, 1) := by decide +kernel
theorem dX10_forget_32 : decode cX10_forget 32 = .ok (.ireturn, 1) := by decide +kernel
theorem dX10_law_0 : decode cX10_law 0 = .ok (.iload_n 1, 1) := by decide +kernel
theorem dX10_law_1 : decode cX10_law 1 = .ok (.iconst 1, 1) := by decide +kernel
theorem dX10_law_2 : decode cX10_law 2 = .ok (.if_icmp .eq 13, 3) := by decide +kernel
theorem dX10_law_5 : decode cX10_law 5 = .ok (.iload_n 1, 1) := by decide +kernel
theorem dX10_law_6 : decode cX10_law 6 = .ok (.iconst 2, 1) := by decide +kernel
theorem dX10_law_7 : decode cX10_law 7 = .ok (.if_icmp .eq 8, 3) := by decide +kernel
theorem dX10_law_10 : decode cX10_law 10 = .ok (.iload_n 1, 1) := by decide +kernel
theorem dX10_law_11 : decode cX10_law 11 = .ok (.iconst 4, 1) := by decide +kernel
theorem dX10_law_12 : decode cX10_law 12 = .ok (.if_icmp .ne 7, 3) := by decide +kernel
theorem dX10_law_15 : decode cX10_law 15 = .ok (.iconst 1, 1) := by decide +kernel
theorem dX10_law_16 : decode cX10_law 16 = .ok (.goto 4, 3) := by decide +kernel
theorem dX10_law_19 : decode cX10_law 19 = .ok (.iconst 0, 1) := by decide +kernel
theorem dX10_law_20 : decode cX10_law 20 = .ok (.istore 5, 2) := by decide +kernel
theorem dX10_law_22 : decode cX10_law 22 = .ok (.iload_n 1, 1) := by decide +kernel
theorem dX10_law_23 : decode cX10_law 23 = .ok (.iconst 0, 1) := by decide +kernel
theorem dX10_law_24 : decode cX10_law 24 = .ok (.iconst 4, 1) := by decide +kernel
theorem dX10_law_25 : decode cX10_law 25 = .ok (.invokestatic 41, 3) := by decide +kernel
theorem dX10_law_28 : decode cX10_law 28 = .ok (.ifCond .eq 34, 3) := by decide +kernel
theorem dX10_law_31 : decode cX10_law 31 = .ok (.iload 5, 2) := by decide +kernel
theorem dX10_law_33 : decode cX10_law 33 = .ok (.ifCond .eq 14, 3) := by decide +kernel
theorem dX10_law_36 : decode cX10_law 36 = .ok (.iload_n 2, 1) := by decide +kernel
theorem dX10_law_37 : decode cX10_law 37 = .ok (.iconst 0, 1) := by decide +kernel
theorem dX10_law_38 : decode cX10_law 38 = .ok (.sipush 9999, 3) := by decide +kernel
theorem dX10_law_41 : decode cX10_law 41 = .ok (.invokestatic 41, 3) := by decide +kernel
theorem dX10_law_44 : decode cX10_law 44 = .ok (.ifCond .eq 18, 3) := by decide +kernel
theorem dX10_law_47 : decode cX10_law 47 = .ok (.iload_n 3, 1) := by decide +kernel
theorem dX10_law_48 : decode cX10_law 48 = .ok (.invokestatic 56, 3) := by decide +kernel
theorem dX10_law_51 : decode cX10_law 51 = .ok (.ifCond .eq 11, 3) := by decide +kernel
theorem dX10_law_54 : decode cX10_law 54 = .ok (.iload 4, 2) := by decide +kernel
theorem dX10_law_56 : decode cX10_law 56 = .ok (.invokestatic 56, 3) := by decide +kernel
theorem dX10_law_59 : decode cX10_law 59 = .ok (.ifCond .ne 10, 3) := by decide +kernel
theorem dX10_law_62 : decode cX10_law 62 = .ok (.aload_n 0, 1) := by decide +kernel
theorem dX10_law_63 : decode cX10_law 63 = .ok (.ldc 45, 2) := by decide +kernel
theorem dX10_law_65 : decode cX10_law 65 = .ok (.invokevirtual 46, 3) := by decide +kernel
theorem dX10_law_68 : decode cX10_law 68 = .ok (.ireturn, 1) := by decide +kernel
theorem dX10_law_69 : decode cX10_law 69 = .ok (.iload_n 3, 1) := by decide +kernel
theorem dX10_law_70 : decode cX10_law 70 = .ok (.iload 4, 2) := by decide +kernel
theorem dX10_law_72 : decode cX10_law 72 = .ok (.if_icmp .le 10, 3) := by decide +kernel
theorem dX10_law_75 : decode cX10_law 75 = .ok (.aload_n 0, 1) := by decide +kernel
theorem dX10_law_76 : decode cX10_law 76 = .ok (.ldc 55, 2) := by decide +kernel
theorem dX10_law_78 : decode cX10_law 78 = .ok (.invokevirtual 46, 3) := by decide +kernel
theorem dX10_law_81 : decode cX10_law 81 = .ok (.ireturn, 1) := by decide +kernel
theorem dX10_law_82 : decode cX10_law 82 = .ok (.aload_n 0, 1) := by decide +kernel
theorem dX10_law_83 : decode cX10_law 83 = .ok (.getfield 9, 3) := by decide +kernel
theorem dX10_law_86 : decode cX10_law 86 = .ok (.iconst 3, 1) := by decide +kernel
theorem dX10_law_87 : decode cX10_law 87 = .ok (.iaload, 1) := by decide +kernel
theorem dX10_law_88 : decode cX10_law 88 = .ok (.istore 6, 2) := by decide +kernel
theorem dX10_law_90 : decode cX10_law 90 = .ok (.iload 6, 2) := by decide +kernel
theorem dX10_law_92 : decode cX10_law 92 = .ok (.bipush 12, 2) := by decide +kernel
theorem dX10_law_94 : decode cX10_law 94 = .ok (.if_icmp .ne 10, 3) := by decide +kernel
theorem dX10_law_97 : decode cX10_law 97 = .ok (.aload_n 0, 1) := by decide +kernel
theorem dX10_law_98 : decode cX10_law 98 = .ok (.ldc 50, 2) := by decide +kernel
theorem dX10_law_100 : decode cX10_law 100 = .ok (.invokevirtual 46, 3) := by decide +kernel
theorem dX10_law_103 : decode cX10_law 103 = .ok (.ireturn, 1) := by decide +kernel
theorem dX10_law_104 : decode cX10_law 104 = .ok (.aload_n 0, 1) := by decide +kernel
theorem dX10_law_105 : decode cX10_law 105 = .ok (.getfield 9, 3) := by decide +kernel
theorem dX10_law_108 : decode cX10_law 108 = .ok (.sipush 321, 3) := by decide +kernel
theorem dX10_law_111 : decode cX10_law 111 = .ok (.iload 6, 2) := by decide +kernel
theorem dX10_law_113 : decode cX10_law 113 = .ok (.iadd, 1) := by decide +kernel
theorem dX10_law_114 : decode cX10_law 114 = .ok (.iload_n 1, 1) := by decide +kernel
theorem dX10_law_115 : decode cX10_law 115 = .ok (.iastore, 1) := by decide +kernel
theorem dX10_law_116 : decode cX10_law 116 = .ok (.aload_n 0, 1) := by decide +kernel
theorem dX10_law_117 : decode cX10_law 117 = .ok (.getfield 9, 3) := by decide +kernel
theorem dX10_law_120 : decode cX10_law 120 = .ok (.sipush 333, 3) := by decide +kernel
theorem dX10_law_123 : decode cX10_law 123 = .ok (.iload 6, 2) := by decide +kernel
theorem dX10_law_125 : decode cX10_law 125 = .ok (.iadd, 1) := by decide +kernel
theorem dX10_law_126 : decode cX10_law 126 = .ok (.iload 5, 2) := by decide +kernel
theorem dX10_law_128 : decode cX10_law 128 = .ok (.ifCond .eq 7, 3) := by decide +kernel
theorem dX10_law_131 : decode cX10_law 131 = .ok (.iload_n 2, 1) := by decide +kernel
theorem dX10_law_132 : decode cX10_law 132 = .ok (.goto 4, 3) := by decide +kernel
theorem dX10_law_135 : decode cX10_law 135 = .ok (.iconst 0, 1) := by decide +kernel
theorem dX10_law_136 : decode cX10_law 136 = .ok (.iastore, 1) := by decide +kernel
theorem dX10_law_137 : decode cX10_law 137 = .ok (.aload_n 0, 1) := by decide +kernel
theorem dX10_law_138 : decode cX10_law 138 = .ok (.getfield 9, 3) := by decide +kernel
theorem dX10_law_141 : decode cX10_law 141 = .ok (.sipush 345, 3) := by decide +kernel
theorem dX10_law_144 : decode cX10_law 144 = .ok (.iload 6, 2) := by decide +kernel
theorem dX10_law_146 : decode cX10_law 146 = .ok (.iadd, 1) := by decide +kernel
theorem dX10_law_147 : decode cX10_law 147 = .ok (.iload_n 3, 1) := by decide +kernel
theorem dX10_law_148 : decode cX10_law 148 = .ok (.iastore, 1) := by decide +kernel
theorem dX10_law_149 : decode cX10_law 149 = .ok (.aload_n 0, 1) := by decide +kernel
theorem dX10_law_150 : decode cX10_law 150 = .ok (.getfield 9, 3) := by decide +kernel
theorem dX10_law_153 : decode cX10_law 153 = .ok (.sipush 357, 3) := by decide +kernel
theorem dX10_law_156 : decode cX10_law 156 = .ok (.iload 6, 2) := by decide +kernel
theorem dX10_law_158 : decode cX10_law 158 = .ok (.iadd, 1) := by decide +kernel
theorem dX10_law_159 : decode cX10_law 159 = .ok (.iload 4, 2) := by decide +kernel
theorem dX10_law_161 : decode cX10_law 161 = .ok (.iastore, 1) := by decide +kernel
theorem dX10_law_162 : decode cX10_law 162 = .ok (.aload_n 0, 1) := by decide +kernel
theorem dX10_law_163 : decode cX10_law 163 = .ok (.getfield 9, 3) := by decide +kernel
theorem dX10_law_166 : decode cX10_law 166 = .ok (.iconst 3, 1) := by decide +kernel
theorem dX10_law_167 : decode cX10_law 167 = .ok (.dup2, 1) := by decide +kernel
theorem dX10_law_168 : decode cX10_law 168 = .ok (.iaload, 1) := by decide +kernel
theorem dX10_law_169 : decode cX10_law 169 = .ok (.iconst 1, 1) := by decide +kernel
theorem dX10_law_170 : decode cX10_law 170 = .ok (.iadd, 1) := by decide +kernel
theorem dX10_law_171 : decode cX10_law 171 = .ok (.iastore, 1) := by decide +kernel
theorem dX10_law_172 : decode cX10_law 172 = .ok (.iload 6, 2) := by decide +kernel
