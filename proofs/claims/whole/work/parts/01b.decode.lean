theorem dX0_init_0 : decode cX0_init 0 = .ok (.aload_n 0, 1) := by decide +kernel
theorem dX0_init_1 : decode cX0_init 1 = .ok (.invokespecial 1, 3) := by decide +kernel
theorem dX0_init_4 : decode cX0_init 4 = .ok (.aload_n 0, 1) := by decide +kernel
theorem dX0_init_5 : decode cX0_init 5 = .ok (.new 7, 3) := by decide +kernel
theorem dX0_init_8 : decode cX0_init 8 = .ok (.dup, 1) := by decide +kernel
theorem dX0_init_9 : decode cX0_init 9 = .ok (.invokespecial 9, 3) := by decide +kernel
theorem dX0_init_12 : decode cX0_init 12 = .ok (.putfield 10, 3) := by decide +kernel
theorem dX0_init_15 : decode cX0_init 15 = .ok (.aload_n 0, 1) := by decide +kernel
theorem dX0_init_16 : decode cX0_init 16 = .ok (.new 16, 3) := by decide +kernel
theorem dX0_init_19 : decode cX0_init 19 = .ok (.dup, 1) := by decide +kernel
theorem dX0_init_20 : decode cX0_init 20 = .ok (.invokespecial 18, 3) := by decide +kernel
theorem dX0_init_23 : decode cX0_init 23 = .ok (.putfield 19, 3) := by decide +kernel
theorem dX0_init_26 : decode cX0_init 26 = .ok (.aload_n 0, 1) := by decide +kernel
theorem dX0_init_27 : decode cX0_init 27 = .ok (.new 23, 3) := by decide +kernel
theorem dX0_init_30 : decode cX0_init 30 = .ok (.dup, 1) := by decide +kernel
theorem dX0_init_31 : decode cX0_init 31 = .ok (.invokespecial 25, 3) := by decide +kernel
theorem dX0_init_34 : decode cX0_init 34 = .ok (.putfield 26, 3) := by decide +kernel
theorem dX0_init_37 : decode cX0_init 37 = .ok (.aload_n 0, 1) := by decide +kernel
theorem dX0_init_38 : decode cX0_init 38 = .ok (.new 30, 3) := by decide +kernel
theorem dX0_init_41 : decode cX0_init 41 = .ok (.dup, 1) := by decide +kernel
theorem dX0_init_42 : decode cX0_init 42 = .ok (.invokespecial 32, 3) := by decide +kernel
theorem dX0_init_45 : decode cX0_init 45 = .ok (.putfield 33, 3) := by decide +kernel
theorem dX0_init_48 : decode cX0_init 48 = .ok (.aload_n 0, 1) := by decide +kernel
theorem dX0_init_49 : decode cX0_init 49 = .ok (.new 37, 3) := by decide +kernel
theorem dX0_init_52 : decode cX0_init 52 = .ok (.dup, 1) := by decide +kernel
theorem dX0_init_53 : decode cX0_init 53 = .ok (.invokespecial 39, 3) := by decide +kernel
theorem dX0_init_56 : decode cX0_init 56 = .ok (.putfield 40, 3) := by decide +kernel
theorem dX0_init_59 : decode cX0_init 59 = .ok (.aload_n 0, 1) := by decide +kernel
theorem dX0_init_60 : decode cX0_init 60 = .ok (.new 44, 3) := by decide +kernel
theorem dX0_init_63 : decode cX0_init 63 = .ok (.dup, 1) := by decide +kernel
theorem dX0_init_64 : decode cX0_init 64 = .ok (.invokespecial 46, 3) := by decide +kernel
theorem dX0_init_67 : decode cX0_init 67 = .ok (.putfield 47, 3) := by decide +kernel
theorem dX0_init_70 : decode cX0_init 70 = .ok (.aload_n 0, 1) := by decide +kernel
theorem dX0_init_71 : decode cX0_init 71 = .ok (.bipush 60, 2) := by decide +kernel
theorem dX0_init_73 : decode cX0_init 73 = .ok (.putfield 51, 3) := by decide +kernel
theorem dX0_init_76 : decode cX0_init 76 = .ok (.return_, 1) := by decide +kernel
theorem dX0_become_0 : decode cX0_become 0 = .ok (.aload_n 0, 1) := by decide +kernel
theorem dX0_become_1 : decode cX0_become 1 = .ok (.getfield 10, 3) := by decide +kernel
theorem dX0_become_4 : decode cX0_become 4 = .ok (.aload_n 1, 1) := by decide +kernel
theorem dX0_become_5 : decode cX0_become 5 = .ok (.getfield 10, 3) := by decide +kernel
theorem dX0_become_8 : decode cX0_become 8 = .ok (.invokevirtual 55, 3) := by decide +kernel
theorem dX0_become_11 : decode cX0_become 11 = .ok (.aload_n 0, 1) := by decide +kernel
theorem dX0_become_12 : decode cX0_become 12 = .ok (.getfield 19, 3) := by decide +kernel
theorem dX0_become_15 : decode cX0_become 15 = .ok (.aload_n 1, 1) := by decide +kernel
theorem dX0_become_16 : decode cX0_become 16 = .ok (.getfield 19, 3) := by decide +kernel
theorem dX0_become_19 : decode cX0_become 19 = .ok (.invokevirtual 59, 3) := by decide +kernel
theorem dX0_become_22 : decode cX0_become 22 = .ok (.aload_n 0, 1) := by decide +kernel
theorem dX0_become_23 : decode cX0_become 23 = .ok (.getfield 26, 3) := by decide +kernel
theorem dX0_become_26 : decode cX0_become 26 = .ok (.aload_n 1, 1) := by decide +kernel
theorem dX0_become_27 : decode cX0_become 27 = .ok (.getfield 26, 3) := by decide +kernel
theorem dX0_become_30 : decode cX0_become 30 = .ok (.invokevirtual 62, 3) := by decide +kernel
theorem dX0_become_33 : decode cX0_become 33 = .ok (.aload_n 0, 1) := by decide +kernel
theorem dX0_become_34 : decode cX0_become 34 = .ok (.getfield 33, 3) := by decide +kernel
theorem dX0_become_37 : decode cX0_become 37 = .ok (.aload_n 1, 1) := by decide +kernel
theorem dX0_become_38 : decode cX0_become 38 = .ok (.getfield 33, 3) := by decide +kernel
theorem dX0_become_41 : decode cX0_become 41 = .ok (.invokevirtual 65, 3) := by decide +kernel
theorem dX0_become_44 : decode cX0_become 44 = .ok (.aload_n 0, 1) := by decide +kernel
theorem dX0_become_45 : decode cX0_become 45 = .ok (.getfield 40, 3) := by decide +kernel
theorem dX0_become_48 : decode cX0_become 48 = .ok (.aload_n 1, 1) := by decide +kernel
theorem dX0_become_49 : decode cX0_become 49 = .ok (.getfield 40, 3) := by decide +kernel
theorem dX0_become_52 : decode cX0_become 52 = .ok (.invokevirtual 68, 3) := by decide +kernel
theorem dX0_become_55 : decode cX0_become 55 = .ok (.aload_n 0, 1) := by decide +kernel
theorem dX0_become_56 : decode cX0_become 56 = .ok (.getfield 47, 3) := by decide +kernel
theorem dX0_become_59 : decode cX0_become 59 = .ok (.aload_n 1, 1) := by decide +kernel
theorem dX0_become_60 : decode cX0_become 60 = .ok (.getfield 47, 3) := by decide +kernel
theorem dX0_become_63 : decode cX0_become 63 = .ok (.invokevirtual 71, 3) := by decide +kernel
theorem dX0_become_66 : decode cX0_become 66 = .ok (.aload_n 0, 1) := by decide +kernel
theorem dX0_become_67 : decode cX0_become 67 = .ok (.aload_n 1, 1) := by decide +kernel
theorem dX0_become_68 : decode cX0_become 68 = .ok (.getfield 51, 3) := by decide +kernel
theorem dX0_become_71 : decode cX0_become 71 = .ok (.putfield 51, 3) := by decide +kernel
theorem dX0_become_74 : decode cX0_become 74 = .ok (.return_, 1) := by decide +kernel
theorem dX1_init_0 : decode cX1_init 0 = .ok (.aload_n 0, 1) := by decide +kernel
theorem dX1_init_1 : decode cX1_init 1 = .ok (.invokespecial 3, 3) := by decide +kernel
theorem dX1_init_4 : decode cX1_init 4 = .ok (.aload_n 0, 1) := by decide +kernel
theorem dX1_init_5 : decode cX1_init 5 = .ok (.bipush 24, 2) := by decide +kernel
theorem dX1_init_7 : decode cX1_init 7 = .ok (.newarray .int, 2) := by decide +kernel
theorem dX1_init_9 : decode cX1_init 9 = .ok (.putfield 9, 3) := by decide +kernel
theorem dX1_init_12 : decode cX1_init 12 = .ok (.aload_n 0, 1) := by decide +kernel
theorem dX1_init_13 : decode cX1_init 13 = .ok (.bipush 24, 2) := by decide +kernel
theorem dX1_init_15 : decode cX1_init 15 = .ok (.newarray .int, 2) := by decide +kernel
theorem dX1_init_17 : decode cX1_init 17 = .ok (.putfield 15, 3) := by decide +kernel
theorem dX1_init_20 : decode cX1_init 20 = .ok (.aload_n 0, 1) := by decide +kernel
theorem dX1_init_21 : decode cX1_init 21 = .ok (.bipush 24, 2) := by decide +kernel
theorem dX1_init_23 : decode cX1_init 23 = .ok (.newarray .int, 2) := by decide +kernel
theorem dX1_init_25 : decode cX1_init 25 = .ok (.putfield 18, 3) := by decide +kernel
theorem dX1_init_28 : decode cX1_init 28 = .ok (.aload_n 0, 1) := by decide +kernel
theorem dX1_init_29 : decode cX1_init 29 = .ok (.bipush 24, 2) := by decide +kernel
theorem dX1_init_31 : decode cX1_init 31 = .ok (.newarray .int, 2) := by decide +kernel
theorem dX1_init_33 : decode cX1_init 33 = .ok (.putfield 21, 3) := by decide +kernel
theorem dX1_init_36 : decode cX1_init 36 = .ok (.aload_n 0, 1) := by decide +kernel
theorem dX1_init_37 : decode cX1_init 37 = .ok (.bipush 24, 2) := by decide +kernel
theorem dX1_init_39 : decode cX1_init 39 = .ok (.newarray .int, 2) := by decide +kernel
theorem dX1_init_41 : decode cX1_init 41 = .ok (.putfield 24, 3) := by decide +kernel
theorem dX1_init_44 : decode cX1_init 44 = .ok (.aload_n 0, 1) := by decide +kernel
theorem dX1_init_45 : decode cX1_init 45 = .ok (.bipush 24, 2) := by decide +kernel
theorem dX1_init_47 : decode cX1_init 47 = .ok (.newarray .int, 2) := by decide +kernel
theorem dX1_init_49 : decode cX1_init 49 = .ok (.putfield 27, 3) := by decide +kernel
theorem dX1_init_52 : decode cX1_init 52 = .ok (.aload_n 0, 1) := by decide +kernel
theorem dX1_init_53 : decode cX1_init 53 = .ok (.bipush 24, 2) := by decide +kernel
theorem dX1_init_55 : decode cX1_init 55 = .ok (.newarray .int, 2) := by decide +kernel
theorem dX1_init_57 : decode cX1_init 57 = .ok (.putfield 30, 3) := by decide +kernel
theorem dX1_init_60 : decode cX1_init 60 = .ok (.aload_n 0, 1) := by decide +kernel
theorem dX1_init_61 : decode cX1_init 61 = .ok (.bipush 24, 2) := by decide +kernel
theorem dX1_init_63 : decode cX1_init 63 = .ok (.newarray .int, 2) := by decide +kernel
theorem dX1_init_65 : decode cX1_init 65 = .ok (.putfield 33, 3) := by decide +kernel
theorem dX1_init_68 : decode cX1_init 68 = .ok (.return_, 1) := by decide +kernel
theorem dX1_has_0 : decode cX1_has 0 = .ok (.iload_n 1, 1) := by decide +kernel
theorem dX1_has_1 : decode cX1_has 1 = .ok (.ifCond .lt 15, 3) := by decide +kernel
theorem dX1_has_4 : decode cX1_has 4 = .ok (.iload_n 1, 1) := by decide +kernel
theorem dX1_has_5 : decode cX1_has 5 = .ok (.aload_n 0, 1) := by decide +kernel
theorem dX1_has_6 : decode cX1_has 6 = .ok (.getfield 36, 3) := by decide +kernel
theorem dX1_has_9 : decode cX1_has 9 = .ok (.if_icmp .ge 7, 3) := by decide +kernel
theorem dX1_has_12 : decode cX1_has 12 = .ok (.iconst 1, 1) := by decide +kernel
theorem dX1_has_13 : decode cX1_has 13 = .ok (.goto 4, 3) := by decide +kernel
theorem dX1_has_16 : decode cX1_has 16 = .ok (.iconst 0, 1) := by decide +kernel
theorem dX1_has_17 : decode cX1_has 17 = .ok (.ireturn, 1) := by decide +kernel
theorem dX1_add_0 : decode cX1_add 0 = .ok (.aload_n 0, 1) := by decide +kernel
theorem dX1_add_1 : decode cX1_add 1 = .ok (.getfield 9, 3) := by decide +kernel
theorem dX1_add_4 : decode cX1_add 4 = .ok (.aload_n 0, 1) := by decide +kernel
theorem dX1_add_5 : decode cX1_add 5 = .ok (.getfield 36, 3) := by decide +kernel
theorem dX1_add_8 : decode cX1_add 8 = .ok (.iload_n 1, 1) := by decide +kernel
theorem dX1_add_9 : decode cX1_add 9 = .ok (.iastore, 1) := by decide +kernel
theorem dX1_add_10 : decode cX1_add 10 = .ok (.aload_n 0, 1) := by decide +kernel
theorem dX1_add_11 : decode cX1_add 11 = .ok (.getfield 15, 3) := by decide +kernel
theorem dX1_add_14 : decode cX1_add 14 = .ok (.aload_n 0, 1) := by decide +kernel
theorem dX1_add_15 : decode cX1_add 15 = .ok (.getfield 36, 3) := by decide +kernel
theorem dX1_add_18 : decode cX1_add 18 = .ok (.iload_n 2, 1) := by decide +kernel
theorem dX1_add_19 : decode cX1_add 19 = .ok (.iastore, 1) := by decide +kernel
theorem dX1_add_20 : decode cX1_add 20 = .ok (.aload_n 0, 1) := by decide +kernel
theorem dX1_add_21 : decode cX1_add 21 = .ok (.getfield 18, 3) := by decide +kernel
theorem dX1_add_24 : decode cX1_add 24 = .ok (.aload_n 0, 1) := by decide +kernel
theorem dX1_add_25 : decode cX1_add 25 = .ok (.getfield 36, 3) := by decide +kernel
theorem dX1_add_28 : decode cX1_add 28 = .ok (.iload_n 3, 1) := by decide +kernel
theorem dX1_add_29 : decode cX1_add 29 = .ok (.iastore, 1) := by decide +kernel
theorem dX1_add_30 : decode cX1_add 30 = .ok (.aload_n 0, 1) := by decide +kernel
theorem dX1_add_31 : decode cX1_add 31 = .ok (.getfield 21, 3) := by decide +kernel
theorem dX1_add_34 : decode cX1_add 34 = .ok (.aload_n 0, 1) := by decide +kernel
theorem dX1_add_35 : decode cX1_add 35 = .ok (.getfield 36, 3) := by decide +kernel
theorem dX1_add_38 : decode cX1_add 38 = .ok (.iload 4, 2) := by decide +kernel
theorem dX1_add_40 : decode cX1_add 40 = .ok (.iastore, 1) := by decide +kernel
theorem dX1_add_41 : decode cX1_add 41 = .ok (.aload_n 0, 1) := by decide +kernel
theorem dX1_add_42 : decode cX1_add 42 = .ok (.getfield 24, 3) := by decide +kernel
theorem dX1_add_45 : decode cX1_add 45 = .ok (.aload_n 0, 1) := by decide +kernel
theorem dX1_add_46 : decode cX1_add 46 = .ok (.getfield 36, 3) := by decide +kernel
theorem dX1_add_49 : decode cX1_add 49 = .ok (.iload 5, 2) := by decide +kernel
theorem dX1_add_51 : decode cX1_add 51 = .ok (.iastore, 1) := by decide +kernel
theorem dX1_add_52 : decode cX1_add 52 = .ok (.aload_n 0, 1) := by decide +kernel
theorem dX1_add_53 : decode cX1_add 53 = .ok (.getfield 27, 3) := by decide +kernel
theorem dX1_add_56 : decode cX1_add 56 = .ok (.aload_n 0, 1) := by decide +kernel
theorem dX1_add_57 : decode cX1_add 57 = .ok (.getfield 36, 3) := by decide +kernel
theorem dX1_add_60 : decode cX1_add 60 = .ok (.iload 6, 2) := by decide +kernel
theorem dX1_add_62 : decode cX1_add 62 = .ok (.iastore, 1) := by decide +kernel
theorem dX1_add_63 : decode cX1_add 63 = .ok (.aload_n 0, 1) := by decide +kernel
theorem dX1_add_64 : decode cX1_add 64 = .ok (.getfield 30, 3) := by decide +kernel
theorem dX1_add_67 : decode cX1_add 67 = .ok (.aload_n 0, 1) := by decide +kernel
theorem dX1_add_68 : decode cX1_add 68 = .ok (.getfield 36, 3) := by decide +kernel
theorem dX1_add_71 : decode cX1_add 71 = .ok (.iload 7, 2) := by decide +kernel
theorem dX1_add_73 : decode cX1_add 73 = .ok (.iastore, 1) := by decide +kernel
theorem dX1_add_74 : decode cX1_add 74 = .ok (.aload_n 0, 1) := by decide +kernel
theorem dX1_add_75 : decode cX1_add 75 = .ok (.getfield 33, 3) := by decide +kernel
theorem dX1_add_78 : decode cX1_add 78 = .ok (.aload_n 0, 1) := by decide +kernel
theorem dX1_add_79 : decode cX1_add 79 = .ok (.getfield 36, 3) := by decide +kernel
theorem dX1_add_82 : decode cX1_add 82 = .ok (.iconst 0, 1) := by decide +kernel
theorem dX1_add_83 : decode cX1_add 83 = .ok (.iastore, 1) := by decide +kernel
theorem dX1_add_84 : decode cX1_add 84 = .ok (.aload_n 0, 1) := by decide +kernel
theorem dX1_add_85 : decode cX1_add 85 = .ok (.dup, 1) := by decide +kernel
theorem dX1_add_86 : decode cX1_add 86 = .ok (.getfield 36, 3) := by decide +kernel
theorem dX1_add_89 : decode cX1_add 89 = .ok (.iconst 1, 1) := by decide +kernel
theorem dX1_add_90 : decode cX1_add 90 = .ok (.iadd, 1) := by decide +kernel
theorem dX1_add_91 : decode cX1_add 91 = .ok (.putfield 36, 3) := by decide +kernel
theorem dX1_add_94 : decode cX1_add 94 = .ok (.aload_n 0, 1) := by decide +kernel
theorem dX1_add_95 : decode cX1_add 95 = .ok (.getfield 36, 3) := by decide +kernel
theorem dX1_add_98 : decode cX1_add 98 = .ok (.iconst 1, 1) := by decide +kernel
theorem dX1_add_99 : decode cX1_add 99 = .ok (.isub, 1) := by decide +kernel
theorem dX1_add_100 : decode cX1_add 100 = .ok (.ireturn, 1) := by decide +kernel
theorem dX1_isDoubted_0 : decode cX1_isDoubted 0 = .ok (.aload_n 0, 1) := by decide +kernel
theorem dX1_isDoubted_1 : decode cX1_isDoubted 1 = .ok (.getfield 33, 3) := by decide +kernel
theorem dX1_isDoubted_4 : decode cX1_isDoubted 4 = .ok (.iload_n 1, 1) := by decide +kernel
theorem dX1_isDoubted_5 : decode cX1_isDoubted 5 = .ok (.iaload, 1) := by decide +kernel
theorem dX1_isDoubted_6 : decode cX1_isDoubted 6 = .ok (.iconst 1, 1) := by decide +kernel
theorem dX1_isDoubted_7 : decode cX1_isDoubted 7 = .ok (.if_icmp .ne 7, 3) := by decide +kernel
theorem dX1_isDoubted_10 : decode cX1_isDoubted 10 = .ok (.iconst 1, 1) := by decide +kernel
theorem dX1_isDoubted_11 : decode cX1_isDoubted 11 = .ok (.goto 4, 3) := by decide +kernel
theorem dX1_isDoubted_14 : decode cX1_isDoubted 14 = .ok (.iconst 0, 1) := by decide +kernel
theorem dX1_isDoubted_15 : decode cX1_isDoubted 15 = .ok (.ireturn, 1) := by decide +kernel
theorem dX1_countDoubted_0 : decode cX1_countDoubted 0 = .ok (.iconst 0, 1) := by decide +kernel
theorem dX1_countDoubted_1 : decode cX1_countDoubted 1 = .ok (.istore_n 1, 1) := by decide +kernel
theorem dX1_countDoubted_2 : decode cX1_countDoubted 2 = .ok (.iconst 0, 1) := by decide +kernel
theorem dX1_countDoubted_3 : decode cX1_countDoubted 3 = .ok (.istore_n 2, 1) := by decide +kernel
theorem dX1_countDoubted_4 : decode cX1_countDoubted 4 = .ok (.iload_n 2, 1) := by decide +kernel
theorem dX1_countDoubted_5 : decode cX1_countDoubted 5 = .ok (.aload_n 0, 1) := by decide +kernel
theorem dX1_countDoubted_6 : decode cX1_countDoubted 6 = .ok (.getfield 36, 3) := by decide +kernel
theorem dX1_countDoubted_9 : decode cX1_countDoubted 9 = .ok (.if_icmp .ge 18, 3) := by decide +kernel
theorem dX1_countDoubted_12 : decode cX1_countDoubted 12 = .ok (.iload_n 1, 1) := by decide +kernel
theorem dX1_countDoubted_13 : decode cX1_countDoubted 13 = .ok (.aload_n 0, 1) := by decide +kernel
theorem dX1_countDoubted_14 : decode cX1_countDoubted 14 = .ok (.getfield 33, 3) := by decide +kernel
theorem dX1_countDoubted_17 : decode cX1_countDoubted 17 = .ok (.iload_n 2, 1) := by decide +kernel
theorem dX1_countDoubted_18 : decode cX1_countDoubted 18 = .ok (.iaload, 1) := by decide +kernel
theorem dX1_countDoubted_19 : decode cX1_countDoubted 19 = .ok (.iadd, 1) := by decide +kernel
theorem dX1_countDoubted_20 : decode cX1_countDoubted 20 = .ok (.istore_n 1, 1) := by decide +kernel
theorem dX1_countDoubted_21 : decode cX1_countDoubted 21 = .ok (.iinc 2 1, 3) := by decide +kernel
theorem dX1_countDoubted_24 : decode cX1_countDoubted 24 = .ok (.goto (-20), 3) := by decide +kernel
theorem dX1_countDoubted_27 : decode cX1_countDoubted 27 = .ok (.iload_n 1, 1) := by decide +kernel
theorem dX1_countDoubted_28 : decode cX1_countDoubted 28 = .ok (.ireturn, 1) := by decide +kernel
theorem dX1_become_0 : decode cX1_become 0 = .ok (.aload_n 0, 1) := by decide +kernel
theorem dX1_become_1 : decode cX1_become 1 = .ok (.aload_n 1, 1) := by decide +kernel
theorem dX1_become_2 : decode cX1_become 2 = .ok (.getfield 36, 3) := by decide +kernel
theorem dX1_become_5 : decode cX1_become 5 = .ok (.putfield 36, 3) := by decide +kernel
theorem dX1_become_8 : decode cX1_become 8 = .ok (.aload_n 1, 1) := by decide +kernel
theorem dX1_become_9 : decode cX1_become 9 = .ok (.getfield 9, 3) := by decide +kernel
theorem dX1_become_12 : decode cX1_become 12 = .ok (.aload_n 0, 1) := by decide +kernel
theorem dX1_become_13 : decode cX1_become 13 = .ok (.getfield 9, 3) := by decide +kernel
theorem dX1_become_16 : decode cX1_become 16 = .ok (.invokestatic 40, 3) := by decide +kernel
theorem dX1_become_19 : decode cX1_become 19 = .ok (.aload_n 1, 1) := by decide +kernel
theorem dX1_become_20 : decode cX1_become 20 = .ok (.getfield 15, 3) := by decide +kernel
theorem dX1_become_23 : decode cX1_become 23 = .ok (.aload_n 0, 1) := by decide +kernel
theorem dX1_become_24 : decode cX1_become 24 = .ok (.getfield 15, 3) := by decide +kernel
theorem dX1_become_27 : decode cX1_become 27 = .ok (.invokestatic 40, 3) := by decide +kernel
theorem dX1_become_30 : decode cX1_become 30 = .ok (.aload_n 1, 1) := by decide +kernel
theorem dX1_become_31 : decode cX1_become 31 = .ok (.getfield 18, 3) := by decide +kernel
theorem dX1_become_34 : decode cX1_become 34 = .ok (.aload_n 0, 1) := by decide +kernel
theorem dX1_become_35 : decode cX1_become 35 = .ok (.getfield 18, 3) := by decide +kernel
theorem dX1_become_38 : decode cX1_become 38 = .ok (.invokestatic 40, 3) := by decide +kernel
theorem dX1_become_41 : decode cX1_become 41 = .ok (.aload_n 1, 1) := by decide +kernel
theorem dX1_become_42 : decode cX1_become 42 = .ok (.getfield 21, 3) := by decide +kernel
theorem dX1_become_45 : decode cX1_become 45 = .ok (.aload_n 0, 1) := by decide +kernel
theorem dX1_become_46 : decode cX1_become 46 = .ok (.getfield 21, 3) := by decide +kernel
theorem dX1_become_49 : decode cX1_become 49 = .ok (.invokestatic 40, 3) := by decide +kernel
theorem dX1_become_52 : decode cX1_become 52 = .ok (.aload_n 1, 1) := by decide +kernel
theorem dX1_become_53 : decode cX1_become 53 = .ok (.getfield 24, 3) := by decide +kernel
theorem dX1_become_56 : decode cX1_become 56 = .ok (.aload_n 0, 1) := by decide +kernel
theorem dX1_become_57 : decode cX1_become 57 = .ok (.getfield 24, 3) := by decide +kernel
theorem dX1_become_60 : decode cX1_become 60 = .ok (.invokestatic 40, 3) := by decide +kernel
theorem dX1_become_63 : decode cX1_become 63 = .ok (.aload_n 1, 1) := by decide +kernel
theorem dX1_become_64 : decode cX1_become 64 = .ok (.getfield 27, 3) := by decide +kernel
theorem dX1_become_67 : decode cX1_become 67 = .ok (.aload_n 0, 1) := by decide +kernel
theorem dX1_become_68 : decode cX1_become 68 = .ok (.getfield 27, 3) := by decide +kernel
theorem dX1_become_71 : decode cX1_become 71 = .ok (.invokestatic 40, 3) := by decide +kernel
theorem dX1_become_74 : decode cX1_become 74 = .ok (.aload_n 1, 1) := by decide +kernel
theorem dX1_become_75 : decode cX1_become 75 = .ok (.getfield 30, 3) := by decide +kernel
theorem dX1_become_78 : decode cX1_become 78 = .ok (.aload_n 0, 1) := by decide +kernel
theorem dX1_become_79 : decode cX1_become 79 = .ok (.getfield 30, 3) := by decide +kernel
theorem dX1_become_82 : decode cX1_become 82 = .ok (.invokestatic 40, 3) := by decide +kernel
theorem dX1_become_85 : decode cX1_become 85 = .ok (.aload_n 1, 1) := by decide +kernel
theorem dX1_become_86 : decode cX1_become 86 = .ok (.getfield 33, 3) := by decide +kernel
theorem dX1_become_89 : decode cX1_become 89 = .ok (.aload_n 0, 1) := by decide +kernel
theorem dX1_become_90 : decode cX1_become 90 = .ok (.getfield 33, 3) := by decide +kernel
theorem dX1_become_93 : decode cX1_become 93 = .ok (.invokestatic 40, 3) := by decide +kernel
theorem dX1_become_96 : decode cX1_become 96 = .ok (.return_, 1) := by decide +kernel
theorem dX2_init_0 : decode cX2_init 0 = .ok (.aload_n 0, 1) := by decide +kernel
theorem dX2_init_1 : decode cX2_init 1 = .ok (.invokespecial 3, 3) := by decide +kernel
theorem dX2_init_4 : decode cX2_init 4 = .ok (.aload_n 0, 1) := by decide +kernel
theorem dX2_init_5 : decode cX2_init 5 = .ok (.bipush 12, 2) := by decide +kernel
theorem dX2_init_7 : decode cX2_init 7 = .ok (.newarray .int, 2) := by decide +kernel
theorem dX2_init_9 : decode cX2_init 9 = .ok (.putfield 9, 3) := by decide +kernel
theorem dX2_init_12 : decode cX2_init 12 = .ok (.aload_n 0, 1) := by decide +kernel
theorem dX2_init_13 : decode cX2_init 13 = .ok (.bipush 12, 2) := by decide +kernel
theorem dX2_init_15 : decode cX2_init 15 = .ok (.newarray .int, 2) := by decide +kernel
theorem dX2_init_17 : decode cX2_init 17 = .ok (.putfield 15, 3) := by decide +kernel
theorem dX2_init_20 : decode cX2_init 20 = .ok (.aload_n 0, 1) := by decide +kernel
theorem dX2_init_21 : decode cX2_init 21 = .ok (.bipush 12, 2) := by decide +kernel
theorem dX2_init_23 : decode cX2_init 23 = .ok (.newarray .int, 2) := by decide +kernel
theorem dX2_init_25 : decode cX2_init 25 = .ok (.putfield 18, 3) := by decide +kernel
theorem dX2_init_28 : decode cX2_init 28 = .ok (.aload_n 0, 1) := by decide +kernel
theorem dX2_init_29 : decode cX2_init 29 = .ok (.bipush 12, 2) := by decide +kernel
theorem dX2_init_31 : decode cX2_init 31 = .ok (.newarray .int, 2) := by decide +kernel
theorem dX2_init_33 : decode cX2_init 33 = .ok (.putfield 21, 3) := by decide +kernel
theorem dX2_init_36 : decode cX2_init 36 = .ok (.return_, 1) := by decide +kernel
theorem dX2_has_0 : decode cX2_has 0 = .ok (.iload_n 1, 1) := by decide +kernel
theorem dX2_has_1 : decode cX2_has 1 = .ok (.ifCond .lt 15, 3) := by decide +kernel
theorem dX2_has_4 : decode cX2_has 4 = .ok (.iload_n 1, 1) := by decide +kernel
theorem dX2_has_5 : decode cX2_has 5 = .ok (.aload_n 0, 1) := by decide +kernel
theorem dX2_has_6 : decode cX2_has 6 = .ok (.getfield 24, 3) := by decide +kernel
theorem dX2_has_9 : decode cX2_has 9 = .ok (.if_icmp .ge 7, 3) := by decide +kernel
theorem dX2_has_12 : decode cX2_has 12 = .ok (.iconst 1, 1) := by decide +kernel
theorem dX2_has_13 : decode cX2_has 13 = .ok (.goto 4, 3) := by decide +kernel
theorem dX2_has_16 : decode cX2_has 16 = .ok (.iconst 0, 1) := by decide +kernel
theorem dX2_has_17 : decode cX2_has 17 = .ok (.ireturn, 1) := by decide +kernel
theorem dX2_add_0 : decode cX2_add 0 = .ok (.aload_n 0, 1) := by decide +kernel
theorem dX2_add_1 : decode cX2_add 1 = .ok (.getfield 9, 3) := by decide +kernel
theorem dX2_add_4 : decode cX2_add 4 = .ok (.aload_n 0, 1) := by decide +kernel
theorem dX2_add_5 : decode cX2_add 5 = .ok (.getfield 24, 3) := by decide +kernel
theorem dX2_add_8 : decode cX2_add 8 = .ok (.iload_n 1, 1) := by decide +kernel
theorem dX2_add_9 : decode cX2_add 9 = .ok (.iastore, 1) := by decide +kernel
theorem dX2_add_10 : decode cX2_add 10 = .ok (.aload_n 0, 1) := by decide +kernel
theorem dX2_add_11 : decode cX2_add 11 = .ok (.getfield 15, 3) := by decide +kernel
theorem dX2_add_14 : decode cX2_add 14 = .ok (.aload_n 0, 1) := by decide +kernel
theorem dX2_add_15 : decode cX2_add 15 = .ok (.getfield 24, 3) := by decide +kernel
theorem dX2_add_18 : decode cX2_add 18 = .ok (.iload_n 2, 1) := by decide +kernel
theorem dX2_add_19 : decode cX2_add 19 = .ok (.iastore, 1) := by decide +kernel
theorem dX2_add_20 : decode cX2_add 20 = .ok (.aload_n 0, 1) := by decide +kernel
theorem dX2_add_21 : decode cX2_add 21 = .ok (.getfield 18, 3) := by decide +kernel
theorem dX2_add_24 : decode cX2_add 24 = .ok (.aload_n 0, 1) := by decide +kernel
theorem dX2_add_25 : decode cX2_add 25 = .ok (.getfield 24, 3) := by decide +kernel
theorem dX2_add_28 : decode cX2_add 28 = .ok (.iload_n 3, 1) := by decide +kernel
theorem dX2_add_29 : decode cX2_add 29 = .ok (.iastore, 1) := by decide +kernel
theorem dX2_add_30 : decode cX2_add 30 = .ok (.aload_n 0, 1) := by decide +kernel
theorem dX2_add_31 : decode cX2_add 31 = .ok (.getfield 21, 3) := by decide +kernel
theorem dX2_add_34 : decode cX2_add 34 = .ok (.aload_n 0, 1) := by decide +kernel
theorem dX2_add_35 : decode cX2_add 35 = .ok (.getfield 24, 3) := by decide +kernel
theorem dX2_add_38 : decode cX2_add 38 = .ok (.iload 4, 2) := by decide +kernel
theorem dX2_add_40 : decode cX2_add 40 = .ok (.iastore, 1) := by decide +kernel
theorem dX2_add_41 : decode cX2_add 41 = .ok (.aload_n 0, 1) := by decide +kernel
theorem dX2_add_42 : decode cX2_add 42 = .ok (.dup, 1) := by decide +kernel
theorem dX2_add_43 : decode cX2_add 43 = .ok (.getfield 24, 3) := by decide +kernel
theorem dX2_add_46 : decode cX2_add 46 = .ok (.iconst 1, 1) := by decide +kernel
theorem dX2_add_47 : decode cX2_add 47 = .ok (.iadd, 1) := by decide +kernel
theorem dX2_add_48 : decode cX2_add 48 = .ok (.putfield 24, 3) := by decide +kernel
theorem dX2_add_51 : decode cX2_add 51 = .ok (.aload_n 0, 1) := by decide +kernel
theorem dX2_add_52 : decode cX2_add 52 = .ok (.getfield 24, 3) := by decide +kernel
theorem dX2_add_55 : decode cX2_add 55 = .ok (.iconst 1, 1) := by decide +kernel
theorem dX2_add_56 : decode cX2_add 56 = .ok (.isub, 1) := by decide +kernel
theorem dX2_add_57 : decode cX2_add 57 = .ok (.ireturn, 1) := by decide +kernel
theorem dX2_rules_0 : decode cX2_rules 0 = .ok (.aload_n 0, 1) := by decide +kernel
theorem dX2_rules_1 : decode cX2_rules 1 = .ok (.getfield 9, 3) := by decide +kernel
theorem dX2_rules_4 : decode cX2_rules 4 = .ok (.iload_n 1, 1) := by decide +kernel
theorem dX2_rules_5 : decode cX2_rules 5 = .ok (.iaload, 1) := by decide +kernel
theorem dX2_rules_6 : decode cX2_rules 6 = .ok (.iload_n 2, 1) := by decide +kernel
theorem dX2_rules_7 : decode cX2_rules 7 = .ok (.if_icmp .ne 27, 3) := by decide +kernel
theorem dX2_rules_10 : decode cX2_rules 10 = .ok (.aload_n 0, 1) := by decide +kernel
theorem dX2_rules_11 : decode cX2_rules 11 = .ok (.getfield 18, 3) := by decide +kernel
theorem dX2_rules_14 : decode cX2_rules 14 = .ok (.iload_n 1, 1) := by decide +kernel
theorem dX2_rules_15 : decode cX2_rules 15 = .ok (.iaload, 1) := by decide +kernel
theorem dX2_rules_16 : decode cX2_rules 16 = .ok (.iload_n 3, 1) := by decide +kernel
theorem dX2_rules_17 : decode cX2_rules 17 = .ok (.if_icmp .gt 17, 3) := by decide +kernel
theorem dX2_rules_20 : decode cX2_rules 20 = .ok (.iload_n 3, 1) := by decide +kernel
theorem dX2_rules_21 : decode cX2_rules 21 = .ok (.aload_n 0, 1) := by decide +kernel
theorem dX2_rules_22 : decode cX2_rules 22 = .ok (.getfield 21, 3) := by decide +kernel
theorem dX2_rules_25 : decode cX2_rules 25 = .ok (.iload_n 1, 1) := by decide +kernel
theorem dX2_rules_26 : decode cX2_rules 26 = .ok (.iaload, 1) := by decide +kernel
theorem dX2_rules_27 : decode cX2_rules 27 = .ok (.if_icmp .gt 7, 3) := by decide +kernel
theorem dX2_rules_30 : decode cX2_rules 30 = .ok (.iconst 1, 1) := by decide +kernel
theorem dX2_rules_31 : decode cX2_rules 31 = .ok (.goto 4, 3) := by decide +kernel
theorem dX2_rules_34 : decode cX2_rules 34 = .ok (.iconst 0, 1) := by decide +kernel
theorem dX2_rules_35 : decode cX2_rules 35 = .ok (.ireturn, 1) := by decide +kernel
theorem dX2_anyRules_0 : decode cX2_anyRules 0 = .ok (.iconst 0, 1) := by decide +kernel
theorem dX2_anyRules_1 : decode cX2_anyRules 1 = .ok (.istore_n 3, 1) := by decide +kernel
theorem dX2_anyRules_2 : decode cX2_anyRules 2 = .ok (.iload_n 3, 1) := by decide +kernel
theorem dX2_anyRules_3 : decode cX2_anyRules 3 = .ok (.aload_n 0, 1) := by decide +kernel
theorem dX2_anyRules_4 : decode cX2_anyRules 4 = .ok (.getfield 24, 3) := by decide +kernel
theorem dX2_anyRules_7 : decode cX2_anyRules 7 = .ok (.if_icmp .ge 21, 3) := by decide +kernel
theorem dX2_anyRules_10 : decode cX2_anyRules 10 = .ok (.aload_n 0, 1) := by decide +kernel
theorem dX2_anyRules_11 : decode cX2_anyRules 11 = .ok (.iload_n 3, 1) := by decide +kernel
theorem dX2_anyRules_12 : decode cX2_anyRules 12 = .ok (.iload_n 1, 1) := by decide +kernel
theorem dX2_anyRules_13 : decode cX2_anyRules 13 = .ok (.iload_n 2, 1) := by decide +kernel
theorem dX2_anyRules_14 : decode cX2_anyRules 14 = .ok (.invokevirtual 28, 3) := by decide +kernel
theorem dX2_anyRules_17 : decode cX2_anyRules 17 = .ok (.ifCond .eq 5, 3) := by decide +kernel
theorem dX2_anyRules_20 : decode cX2_anyRules 20 = .ok (.iconst 1, 1) := by decide +kernel
theorem dX2_anyRules_21 : decode cX2_anyRules 21 = .ok (.ireturn, 1) := by decide +kernel
theorem dX2_anyRules_22 : decode cX2_anyRules 22 = .ok (.iinc 3 1, 3) := by decide +kernel
theorem dX2_anyRules_25 : decode cX2_anyRules 25 = .ok (.goto (-23), 3) := by decide +kernel
theorem dX2_anyRules_28 : decode cX2_anyRules 28 = .ok (.iconst 0, 1) := by decide +kernel
theorem dX2_anyRules_29 : decode cX2_anyRules 29 = .ok (.ireturn, 1) := by decide +kernel
theorem dX2_anyAtMost_0 : decode cX2_anyAtMost 0 = .ok (.iconst 0, 1) := by decide +kernel
theorem dX2_anyAtMost_1 : decode cX2_anyAtMost 1 = .ok (.istore 4, 2) := by decide +kernel
theorem dX2_anyAtMost_3 : decode cX2_anyAtMost 3 = .ok (.iload 4, 2) := by decide +kernel
theorem dX2_anyAtMost_5 : decode cX2_anyAtMost 5 = .ok (.aload_n 0, 1) := by decide +kernel
theorem dX2_anyAtMost_6 : decode cX2_anyAtMost 6 = .ok (.getfield 24, 3) := by decide +kernel
theorem dX2_anyAtMost_9 : decode cX2_anyAtMost 9 = .ok (.if_icmp .ge 33, 3) := by decide +kernel
theorem dX2_anyAtMost_12 : decode cX2_anyAtMost 12 = .ok (.aload_n 0, 1) := by decide +kernel
theorem dX2_anyAtMost_13 : decode cX2_anyAtMost 13 = .ok (.iload 4, 2) := by decide +kernel
theorem dX2_anyAtMost_15 : decode cX2_anyAtMost 15 = .ok (.iload_n 1, 1) := by decide +kernel
theorem dX2_anyAtMost_16 : decode cX2_anyAtMost 16 = .ok (.iload_n 2, 1) := by decide +kernel
theorem dX2_anyAtMost_17 : decode cX2_anyAtMost 17 = .ok (.invokevirtual 28, 3) := by decide +kernel
theorem dX2_anyAtMost_20 : decode cX2_anyAtMost 20 = .ok (.ifCond .eq 16, 3) := by decide +kernel
theorem dX2_anyAtMost_23 : decode cX2_anyAtMost 23 = .ok (.aload_n 0, 1) := by decide +kernel
theorem dX2_anyAtMost_24 : decode cX2_anyAtMost 24 = .ok (.getfield 15, 3) := by decide +kernel
theorem dX2_anyAtMost_27 : decode cX2_anyAtMost 27 = .ok (.iload 4, 2) := by decide +kernel
theorem dX2_anyAtMost_29 : decode cX2_anyAtMost 29 = .ok (.iaload, 1) := by decide +kernel
theorem dX2_anyAtMost_30 : decode cX2_anyAtMost 30 = .ok (.iload_n 3, 1) := by decide +kernel
theorem dX2_anyAtMost_31 : decode cX2_anyAtMost 31 = .ok (.if_icmp .gt 5, 3) := by decide +kernel
theorem dX2_anyAtMost_34 : decode cX2_anyAtMost 34 = .ok (.iconst 1, 1) := by decide +kernel
theorem dX2_anyAtMost_35 : decode cX2_anyAtMost 35 = .ok (.ireturn, 1) := by decide +kernel
theorem dX2_anyAtMost_36 : decode cX2_anyAtMost 36 = .ok (.iinc 4 1, 3) := by decide +kernel
theorem dX2_anyAtMost_39 : decode cX2_anyAtMost 39 = .ok (.goto (-36), 3) := by decide +kernel
theorem dX2_anyAtMost_42 : decode cX2_anyAtMost 42 = .ok (.iconst 0, 1) := by decide +kernel
theorem dX2_anyAtMost_43 : decode cX2_anyAtMost 43 = .ok (.ireturn, 1) := by decide +kernel
theorem dX2_anyAbove_0 : decode cX2_anyAbove 0 = .ok (.iconst 0, 1) := by decide +kernel
theorem dX2_anyAbove_1 : decode cX2_anyAbove 1 = .ok (.istore 4, 2) := by decide +kernel
theorem dX2_anyAbove_3 : decode cX2_anyAbove 3 = .ok (.iload 4, 2) := by decide +kernel
theorem dX2_anyAbove_5 : decode cX2_anyAbove 5 = .ok (.aload_n 0, 1) := by decide +kernel
theorem dX2_anyAbove_6 : decode cX2_anyAbove 6 = .ok (.getfield 24, 3) := by decide +kernel
theorem dX2_anyAbove_9 : decode cX2_anyAbove 9 = .ok (.if_icmp .ge 33, 3) := by decide +kernel
theorem dX2_anyAbove_12 : decode cX2_anyAbove 12 = .ok (.aload_n 0, 1) := by decide +kernel
theorem dX2_anyAbove_13 : decode cX2_anyAbove 13 = .ok (.iload 4, 2) := by decide +kernel
theorem dX2_anyAbove_15 : decode cX2_anyAbove 15 = .ok (.iload_n 1, 1) := by decide +kernel
theorem dX2_anyAbove_16 : decode cX2_anyAbove 16 = .ok (.iload_n 2, 1) := by decide +kernel
theorem dX2_anyAbove_17 : decode cX2_anyAbove 17 = .ok (.invokevirtual 28, 3) := by decide +kernel
theorem dX2_anyAbove_20 : decode cX2_anyAbove 20 = .ok (.ifCond .eq 16, 3) := by decide +kernel
theorem dX2_anyAbove_23 : decode cX2_anyAbove 23 = .ok (.aload_n 0, 1) := by decide +kernel
theorem dX2_anyAbove_24 : decode cX2_anyAbove 24 = .ok (.getfield 15, 3) := by decide +kernel
theorem dX2_anyAbove_27 : decode cX2_anyAbove 27 = .ok (.iload 4, 2) := by decide +kernel
theorem dX2_anyAbove_29 : decode cX2_anyAbove 29 = .ok (.iaload, 1) := by decide +kernel
theorem dX2_anyAbove_30 : decode cX2_anyAbove 30 = .ok (.iload_n 3, 1) := by decide +kernel
theorem dX2_anyAbove_31 : decode cX2_anyAbove 31 = .ok (.if_icmp .le 5, 3) := by decide +kernel
theorem dX2_anyAbove_34 : decode cX2_anyAbove 34 = .ok (.iconst 1, 1) := by decide +kernel
theorem dX2_anyAbove_35 : decode cX2_anyAbove 35 = .ok (.ireturn, 1) := by decide +kernel
theorem dX2_anyAbove_36 : decode cX2_anyAbove 36 = .ok (.iinc 4 1, 3) := by decide +kernel
theorem dX2_anyAbove_39 : decode cX2_anyAbove 39 = .ok (.goto (-36), 3) := by decide +kernel
theorem dX2_anyAbove_42 : decode cX2_anyAbove 42 = .ok (.iconst 0, 1) := by decide +kernel
theorem dX2_anyAbove_43 : decode cX2_anyAbove 43 = .ok (.ireturn, 1) := by decide +kernel
theorem dX2_become_0 : decode cX2_become 0 = .ok (.aload_n 0, 1) := by decide +kernel
theorem dX2_become_1 : decode cX2_become 1 = .ok (.aload_n 1, 1) := by decide +kernel
theorem dX2_become_2 : decode cX2_become 2 = .ok (.getfield 24, 3) := by decide +kernel
theorem dX2_become_5 : decode cX2_become 5 = .ok (.putfield 24, 3) := by decide +kernel
theorem dX2_become_8 : decode cX2_become 8 = .ok (.aload_n 1, 1) := by decide +kernel
theorem dX2_become_9 : decode cX2_become 9 = .ok (.getfield 9, 3) := by decide +kernel
theorem dX2_become_12 : decode cX2_become 12 = .ok (.aload_n 0, 1) := by decide +kernel
theorem dX2_become_13 : decode cX2_become 13 = .ok (.getfield 9, 3) := by decide +kernel
theorem dX2_become_16 : decode cX2_become 16 = .ok (.invokestatic 32, 3) := by decide +kernel
theorem dX2_become_19 : decode cX2_become 19 = .ok (.aload_n 1, 1) := by decide +kernel
theorem dX2_become_20 : decode cX2_become 20 = .ok (.getfield 15, 3) := by decide +kernel
theorem dX2_become_23 : decode cX2_become 23 = .ok (.aload_n 0, 1) := by decide +kernel
theorem dX2_become_24 : decode cX2_become 24 = .ok (.getfield 15, 3) := by decide +kernel
theorem dX2_become_27 : decode cX2_become 27 = .ok (.invokestatic 32, 3) := by decide +kernel
theorem dX2_become_30 : decode cX2_become 30 = .ok (.aload_n 1, 1) := by decide +kernel
theorem dX2_become_31 : decode cX2_become 31 = .ok (.getfield 18, 3) := by decide +kernel
theorem dX2_become_34 : decode cX2_become 34 = .ok (.aload_n 0, 1) := by decide +kernel
theorem dX2_become_35 : decode cX2_become 35 = .ok (.getfield 18, 3) := by decide +kernel
theorem dX2_become_38 : decode cX2_become 38 = .ok (.invokestatic 32, 3) := by decide +kernel
theorem dX2_become_41 : decode cX2_become 41 = .ok (.aload_n 1, 1) := by decide +kernel
theorem dX2_become_42 : decode cX2_become 42 = .ok (.getfield 21, 3) := by decide +kernel
theorem dX2_become_45 : decode cX2_become 45 = .ok (.aload_n 0, 1) := by decide +kernel
theorem dX2_become_46 : decode cX2_become 46 = .ok (.getfield 21, 3) := by decide +kernel
theorem dX2_become_49 : decode cX2_become 49 = .ok (.invokestatic 32, 3) := by decide +kernel
theorem dX2_become_52 : decode cX2_become 52 = .ok (.return_, 1) := by decide +kernel
theorem dX3_init_0 : decode cX3_init 0 = .ok (.aload_n 0, 1) := by decide +kernel
theorem dX3_init_1 : decode cX3_init 1 = .ok (.invokespecial 3, 3) := by decide +kernel
theorem dX3_init_4 : decode cX3_init 4 = .ok (.aload_n 0, 1) := by decide +kernel
theorem dX3_init_5 : decode cX3_init 5 = .ok (.bipush 20, 2) := by decide +kernel
theorem dX3_init_7 : decode cX3_init 7 = .ok (.newarray .int, 2) := by decide +kernel
theorem dX3_init_9 : decode cX3_init 9 = .ok (.putfield 9, 3) := by decide +kernel
theorem dX3_init_12 : decode cX3_init 12 = .ok (.aload_n 0, 1) := by decide +kernel
theorem dX3_init_13 : decode cX3_init 13 = .ok (.bipush 20, 2) := by decide +kernel
theorem dX3_init_15 : decode cX3_init 15 = .ok (.newarray .int, 2) := by decide +kernel
theorem dX3_init_17 : decode cX3_init 17 = .ok (.putfield 15, 3) := by decide +kernel
theorem dX3_init_20 : decode cX3_init 20 = .ok (.aload_n 0, 1) := by decide +kernel
theorem dX3_init_21 : decode cX3_init 21 = .ok (.bipush 20, 2) := by decide +kernel
theorem dX3_init_23 : decode cX3_init 23 = .ok (.newarray .int, 2) := by decide +kernel
theorem dX3_init_25 : decode cX3_init 25 = .ok (.putfield 18, 3) := by decide +kernel
theorem dX3_init_28 : decode cX3_init 28 = .ok (.aload_n 0, 1) := by decide +kernel
theorem dX3_init_29 : decode cX3_init 29 = .ok (.bipush 20, 2) := by decide +kernel
theorem dX3_init_31 : decode cX3_init 31 = .ok (.newarray .int, 2) := by decide +kernel
theorem dX3_init_33 : decode cX3_init 33 = .ok (.putfield 21, 3) := by decide +kernel
theorem dX3_init_36 : decode cX3_init 36 = .ok (.aload_n 0, 1) := by decide +kernel
theorem dX3_init_37 : decode cX3_init 37 = .ok (.bipush 20, 2) := by decide +kernel
theorem dX3_init_39 : decode cX3_init 39 = .ok (.newarray .int, 2) := by decide +kernel
theorem dX3_init_41 : decode cX3_init 41 = .ok (.putfield 24, 3) := by decide +kernel
theorem dX3_init_44 : decode cX3_init 44 = .ok (.aload_n 0, 1) := by decide +kernel
theorem dX3_init_45 : decode cX3_init 45 = .ok (.bipush 20, 2) := by decide +kernel
theorem dX3_init_47 : decode cX3_init 47 = .ok (.newarray .int, 2) := by decide +kernel
theorem dX3_init_49 : decode cX3_init 49 = .ok (.putfield 27, 3) := by decide +kernel
theorem dX3_init_52 : decode cX3_init 52 = .ok (.return_, 1) := by decide +kernel
theorem dX3_has_0 : decode cX3_has 0 = .ok (.iload_n 1, 1) := by decide +kernel
theorem dX3_has_1 : decode cX3_has 1 = .ok (.ifCond .lt 15, 3) := by decide +kernel
theorem dX3_has_4 : decode cX3_has 4 = .ok (.iload_n 1, 1) := by decide +kernel
theorem dX3_has_5 : decode cX3_has 5 = .ok (.aload_n 0, 1) := by decide +kernel
theorem dX3_has_6 : decode cX3_has 6 = .ok (.getfield 30, 3) := by decide +kernel
theorem dX3_has_9 : decode cX3_has 9 = .ok (.if_icmp .ge 7, 3) := by decide +kernel
theorem dX3_has_12 : decode cX3_has 12 = .ok (.iconst 1, 1) := by decide +kernel
theorem dX3_has_13 : decode cX3_has 13 = .ok (.goto 4, 3) := by decide +kernel
theorem dX3_has_16 : decode cX3_has 16 = .ok (.iconst 0, 1) := by decide +kernel
theorem dX3_has_17 : decode cX3_has 17 = .ok (.ireturn, 1) := by decide +kernel
theorem dX3_add_0 : decode cX3_add 0 = .ok (.aload_n 0, 1) := by decide +kernel
theorem dX3_add_1 : decode cX3_add 1 = .ok (.getfield 9, 3) := by decide +kernel
theorem dX3_add_4 : decode cX3_add 4 = .ok (.aload_n 0, 1) := by decide +kernel
theorem dX3_add_5 : decode cX3_add 5 = .ok (.getfield 30, 3) := by decide +kernel
theorem dX3_add_8 : decode cX3_add 8 = .ok (.iload_n 1, 1) := by decide +kernel
theorem dX3_add_9 : decode cX3_add 9 = .ok (.iastore, 1) := by decide +kernel
theorem dX3_add_10 : decode cX3_add 10 = .ok (.aload_n 0, 1) := by decide +kernel
theorem dX3_add_11 : decode cX3_add 11 = .ok (.getfield 15, 3) := by decide +kernel
theorem dX3_add_14 : decode cX3_add 14 = .ok (.aload_n 0, 1) := by decide +kernel
theorem dX3_add_15 : decode cX3_add 15 = .ok (.getfield 30, 3) := by decide +kernel
theorem dX3_add_18 : decode cX3_add 18 = .ok (.iload_n 2, 1) := by decide +kernel
theorem dX3_add_19 : decode cX3_add 19 = .ok (.iastore, 1) := by decide +kernel
theorem dX3_add_20 : decode cX3_add 20 = .ok (.aload_n 0, 1) := by decide +kernel
theorem dX3_add_21 : decode cX3_add 21 = .ok (.getfield 18, 3) := by decide +kernel
theorem dX3_add_24 : decode cX3_add 24 = .ok (.aload_n 0, 1) := by decide +kernel
theorem dX3_add_25 : decode cX3_add 25 = .ok (.getfield 30, 3) := by decide +kernel
theorem dX3_add_28 : decode cX3_add 28 = .ok (.iload_n 3, 1) := by decide +kernel
theorem dX3_add_29 : decode cX3_add 29 = .ok (.iastore, 1) := by decide +kernel
theorem dX3_add_30 : decode cX3_add 30 = .ok (.aload_n 0, 1) := by decide +kernel
theorem dX3_add_31 : decode cX3_add 31 = .ok (.getfield 21, 3) := by decide +kernel
theorem dX3_add_34 : decode cX3_add 34 = .ok (.aload_n 0, 1) := by decide +kernel
theorem dX3_add_35 : decode cX3_add 35 = .ok (.getfield 30, 3) := by decide +kernel
theorem dX3_add_38 : decode cX3_add 38 = .ok (.iload 4, 2) := by decide +kernel
theorem dX3_add_40 : decode cX3_add 40 = .ok (.iastore, 1) := by decide +kernel
theorem dX3_add_41 : decode cX3_add 41 = .ok (.aload_n 0, 1) := by decide +kernel
theorem dX3_add_42 : decode cX3_add 42 = .ok (.getfield 24, 3) := by decide +kernel
theorem dX3_add_45 : decode cX3_add 45 = .ok (.aload_n 0, 1) := by decide +kernel
theorem dX3_add_46 : decode cX3_add 46 = .ok (.getfield 30, 3) := by decide +kernel
theorem dX3_add_49 : decode cX3_add 49 = .ok (.iload 5, 2) := by decide +kernel
theorem dX3_add_51 : decode cX3_add 51 = .ok (.iastore, 1) := by decide +kernel
theorem dX3_add_52 : decode cX3_add 52 = .ok (.aload_n 0, 1) := by decide +kernel
theorem dX3_add_53 : decode cX3_add 53 = .ok (.getfield 27, 3) := by decide +kernel
theorem dX3_add_56 : decode cX3_add 56 = .ok (.aload_n 0, 1) := by decide +kernel
theorem dX3_add_57 : decode cX3_add 57 = .ok (.getfield 30, 3) := by decide +kernel
theorem dX3_add_60 : decode cX3_add 60 = .ok (.iconst 0, 1) := by decide +kernel
theorem dX3_add_61 : decode cX3_add 61 = .ok (.iastore, 1) := by decide +kernel
theorem dX3_add_62 : decode cX3_add 62 = .ok (.aload_n 0, 1) := by decide +kernel
theorem dX3_add_63 : decode cX3_add 63 = .ok (.dup, 1) := by decide +kernel
theorem dX3_add_64 : decode cX3_add 64 = .ok (.getfield 30, 3) := by decide +kernel
theorem dX3_add_67 : decode cX3_add 67 = .ok (.iconst 1, 1) := by decide +kernel
theorem dX3_add_68 : decode cX3_add 68 = .ok (.iadd, 1) := by decide +kernel
theorem dX3_add_69 : decode cX3_add 69 = .ok (.putfield 30, 3) := by decide +kernel
theorem dX3_add_72 : decode cX3_add 72 = .ok (.aload_n 0, 1) := by decide +kernel
theorem dX3_add_73 : decode cX3_add 73 = .ok (.getfield 30, 3) := by decide +kernel
theorem dX3_add_76 : decode cX3_add 76 = .ok (.iconst 1, 1) := by decide +kernel
theorem dX3_add_77 : decode cX3_add 77 = .ok (.isub, 1) := by decide +kernel
theorem dX3_add_78 : decode cX3_add 78 = .ok (.ireturn, 1) := by decide +kernel
theorem dX3_borneBy_0 : decode cX3_borneBy 0 = .ok (.iconst 0, 1) := by decide +kernel
theorem dX3_borneBy_1 : decode cX3_borneBy 1 = .ok (.istore_n 2, 1) := by decide +kernel
theorem dX3_borneBy_2 : decode cX3_borneBy 2 = .ok (.iconst 0, 1) := by decide +kernel
theorem dX3_borneBy_3 : decode cX3_borneBy 3 = .ok (.istore_n 3, 1) := by decide +kernel
theorem dX3_borneBy_4 : decode cX3_borneBy 4 = .ok (.iload_n 3, 1) := by decide +kernel
theorem dX3_borneBy_5 : decode cX3_borneBy 5 = .ok (.aload_n 0, 1) := by decide +kernel
theorem dX3_borneBy_6 : decode cX3_borneBy 6 = .ok (.getfield 30, 3) := by decide +kernel
theorem dX3_borneBy_9 : decode cX3_borneBy 9 = .ok (.if_icmp .ge 51, 3) := by decide +kernel
theorem dX3_borneBy_12 : decode cX3_borneBy 12 = .ok (.aload_n 0, 1) := by decide +kernel
theorem dX3_borneBy_13 : decode cX3_borneBy 13 = .ok (.getfield 27, 3) := by decide +kernel
theorem dX3_borneBy_16 : decode cX3_borneBy 16 = .ok (.iload_n 3, 1) := by decide +kernel
theorem dX3_borneBy_17 : decode cX3_borneBy 17 = .ok (.iaload, 1) := by decide +kernel
theorem dX3_borneBy_18 : decode cX3_borneBy 18 = .ok (.iconst 2, 1) := by decide +kernel
theorem dX3_borneBy_19 : decode cX3_borneBy 19 = .ok (.if_icmp .ne 12, 3) := by decide +kernel
theorem dX3_borneBy_22 : decode cX3_borneBy 22 = .ok (.aload_n 0, 1) := by decide +kernel
theorem dX3_borneBy_23 : decode cX3_borneBy 23 = .ok (.getfield 15, 3) := by decide +kernel
theorem dX3_borneBy_26 : decode cX3_borneBy 26 = .ok (.iload_n 3, 1) := by decide +kernel
theorem dX3_borneBy_27 : decode cX3_borneBy 27 = .ok (.iaload, 1) := by decide +kernel
theorem dX3_borneBy_28 : decode cX3_borneBy 28 = .ok (.goto 9, 3) := by decide +kernel
theorem dX3_borneBy_31 : decode cX3_borneBy 31 = .ok (.aload_n 0, 1) := by decide +kernel
theorem dX3_borneBy_32 : decode cX3_borneBy 32 = .ok (.getfield 18, 3) := by decide +kernel
theorem dX3_borneBy_35 : decode cX3_borneBy 35 = .ok (.iload_n 3, 1) := by decide +kernel
theorem dX3_borneBy_36 : decode cX3_borneBy 36 = .ok (.iaload, 1) := by decide +kernel
theorem dX3_borneBy_37 : decode cX3_borneBy 37 = .ok (.istore 4, 2) := by decide +kernel
theorem dX3_borneBy_39 : decode cX3_borneBy 39 = .ok (.iload 4, 2) := by decide +kernel
theorem dX3_borneBy_41 : decode cX3_borneBy 41 = .ok (.iload_n 1, 1) := by decide +kernel
theorem dX3_borneBy_42 : decode cX3_borneBy 42 = .ok (.if_icmp .ne 12, 3) := by decide +kernel
theorem dX3_borneBy_45 : decode cX3_borneBy 45 = .ok (.iload_n 2, 1) := by decide +kernel
theorem dX3_borneBy_46 : decode cX3_borneBy 46 = .ok (.aload_n 0, 1) := by decide +kernel
theorem dX3_borneBy_47 : decode cX3_borneBy 47 = .ok (.getfield 24, 3) := by decide +kernel
theorem dX3_borneBy_50 : decode cX3_borneBy 50 = .ok (.iload_n 3, 1) := by decide +kernel
theorem dX3_borneBy_51 : decode cX3_borneBy 51 = .ok (.iaload, 1) := by decide +kernel
theorem dX3_borneBy_52 : decode cX3_borneBy 52 = .ok (.iadd, 1) := by decide +kernel
theorem dX3_borneBy_53 : decode cX3_borneBy 53 = .ok (.istore_n 2, 1) := by decide +kernel
theorem dX3_borneBy_54 : decode cX3_borneBy 54 = .ok (.iinc 3 1, 3) := by decide +kernel
theorem dX3_borneBy_57 : decode cX3_borneBy 57 = .ok (.goto (-53), 3) := by decide +kernel
theorem dX3_borneBy_60 : decode cX3_borneBy 60 = .ok (.iload_n 2, 1) := by decide +kernel
theorem dX3_borneBy_61 : decode cX3_borneBy 61 = .ok (.ireturn, 1) := by decide +kernel
theorem dX3_become_0 : decode cX3_become 0 = .ok (.aload_n 0, 1) := by decide +kernel
theorem dX3_become_1 : decode cX3_become 1 = .ok (.aload_n 1, 1) := by decide +kernel
theorem dX3_become_2 : decode cX3_become 2 = .ok (.getfield 30, 3) := by decide +kernel
theorem dX3_become_5 : decode cX3_become 5 = .ok (.putfield 30, 3) := by decide +kernel
theorem dX3_become_8 : decode cX3_become 8 = .ok (.aload_n 1, 1) := by decide +kernel
theorem dX3_become_9 : decode cX3_become 9 = .ok (.getfield 9, 3) := by decide +kernel
theorem dX3_become_12 : decode cX3_become 12 = .ok (.aload_n 0, 1) := by decide +kernel
theorem dX3_become_13 : decode cX3_become 13 = .ok (.getfield 9, 3) := by decide +kernel
theorem dX3_become_16 : decode cX3_become 16 = .ok (.invokestatic 34, 3) := by decide +kernel
theorem dX3_become_19 : decode cX3_become 19 = .ok (.aload_n 1, 1) := by decide +kernel
theorem dX3_become_20 : decode cX3_become 20 = .ok (.getfield 15, 3) := by decide +kernel
theorem dX3_become_23 : decode cX3_become 23 = .ok (.aload_n 0, 1) := by decide +kernel
theorem dX3_become_24 : decode cX3_become 24 = .ok (.getfield 15, 3) := by decide +kernel
theorem dX3_become_27 : decode cX3_become 27 = .ok (.invokestatic 34, 3) := by decide +kernel
theorem dX3_become_30 : decode cX3_become 30 = .ok (.aload_n 1, 1) := by decide +kernel
theorem dX3_become_31 : decode cX3_become 31 = .ok (.getfield 18, 3) := by decide +kernel
theorem dX3_become_34 : decode cX3_become 34 = .ok (.aload_n 0, 1) := by decide +kernel
theorem dX3_become_35 : decode cX3_become 35 = .ok (.getfield 18, 3) := by decide +kernel
theorem dX3_become_38 : decode cX3_become 38 = .ok (.invokestatic 34, 3) := by decide +kernel
theorem dX3_become_41 : decode cX3_become 41 = .ok (.aload_n 1, 1) := by decide +kernel
theorem dX3_become_42 : decode cX3_become 42 = .ok (.getfield 21, 3) := by decide +kernel
theorem dX3_become_45 : decode cX3_become 45 = .ok (.aload_n 0, 1) := by decide +kernel
theorem dX3_become_46 : decode cX3_become 46 = .ok (.getfield 21, 3) := by decide +kernel
theorem dX3_become_49 : decode cX3_become 49 = .ok (.invokestatic 34, 3) := by decide +kernel
theorem dX3_become_52 : decode cX3_become 52 = .ok (.aload_n 1, 1) := by decide +kernel
theorem dX3_become_53 : decode cX3_become 53 = .ok (.getfield 24, 3) := by decide +kernel
theorem dX3_become_56 : decode cX3_become 56 = .ok (.aload_n 0, 1) := by decide +kernel
theorem dX3_become_57 : decode cX3_become 57 = .ok (.getfield 24, 3) := by decide +kernel
theorem dX3_become_60 : decode cX3_become 60 = .ok (.invokestatic 34, 3) := by decide +kernel
theorem dX3_become_63 : decode cX3_become 63 = .ok (.aload_n 1, 1) := by decide +kernel
theorem dX3_become_64 : decode cX3_become 64 = .ok (.getfield 27, 3) := by decide +kernel
theorem dX3_become_67 : decode cX3_become 67 = .ok (.aload_n 0, 1) := by decide +kernel
theorem dX3_become_68 : decode cX3_become 68 = .ok (.getfield 27, 3) := by decide +kernel
theorem dX3_become_71 : decode cX3_become 71 = .ok (.invokestatic 34, 3) := by decide +kernel
theorem dX3_become_74 : decode cX3_become 74 = .ok (.return_, 1) := by decide +kernel
theorem dX4_init_0 : decode cX4_init 0 = .ok (.aload_n 0, 1) := by decide +kernel
theorem dX4_init_1 : decode cX4_init 1 = .ok (.invokespecial 3, 3) := by decide +kernel
theorem dX4_init_4 : decode cX4_init 4 = .ok (.aload_n 0, 1) := by decide +kernel
theorem dX4_init_5 : decode cX4_init 5 = .ok (.bipush 6, 2) := by decide +kernel
theorem dX4_init_7 : decode cX4_init 7 = .ok (.newarray .int, 2) := by decide +kernel
theorem dX4_init_9 : decode cX4_init 9 = .ok (.putfield 9, 3) := by decide +kernel
theorem dX4_init_12 : decode cX4_init 12 = .ok (.aload_n 0, 1) := by decide +kernel
theorem dX4_init_13 : decode cX4_init 13 = .ok (.bipush 6, 2) := by decide +kernel
theorem dX4_init_15 : decode cX4_init 15 = .ok (.bipush 6, 2) := by decide +kernel
theorem dX4_init_17 : decode cX4_init 17 = .ok (.multianewarray 15 2, 4) := by decide +kernel
theorem dX4_init_21 : decode cX4_init 21 = .ok (.putfield 17, 3) := by decide +kernel
theorem dX4_init_24 : decode cX4_init 24 = .ok (.return_, 1) := by decide +kernel
theorem dX4_has_0 : decode cX4_has 0 = .ok (.iload_n 1, 1) := by decide +kernel
theorem dX4_has_1 : decode cX4_has 1 = .ok (.ifCond .lt 15, 3) := by decide +kernel
theorem dX4_has_4 : decode cX4_has 4 = .ok (.iload_n 1, 1) := by decide +kernel
theorem dX4_has_5 : decode cX4_has 5 = .ok (.aload_n 0, 1) := by decide +kernel
theorem dX4_has_6 : decode cX4_has 6 = .ok (.getfield 20, 3) := by decide +kernel
theorem dX4_has_9 : decode cX4_has 9 = .ok (.if_icmp .ge 7, 3) := by decide +kernel
theorem dX4_has_12 : decode cX4_has 12 = .ok (.iconst 1, 1) := by decide +kernel
theorem dX4_has_13 : decode cX4_has 13 = .ok (.goto 4, 3) := by decide +kernel
theorem dX4_has_16 : decode cX4_has 16 = .ok (.iconst 0, 1) := by decide +kernel
theorem dX4_has_17 : decode cX4_has 17 = .ok (.ireturn, 1) := by decide +kernel
theorem dX4_add_0 : decode cX4_add 0 = .ok (.aload_n 0, 1) := by decide +kernel
theorem dX4_add_1 : decode cX4_add 1 = .ok (.getfield 9, 3) := by decide +kernel
theorem dX4_add_4 : decode cX4_add 4 = .ok (.aload_n 0, 1) := by decide +kernel
theorem dX4_add_5 : decode cX4_add 5 = .ok (.getfield 20, 3) := by decide +kernel
theorem dX4_add_8 : decode cX4_add 8 = .ok (.iload_n 1, 1) := by decide +kernel
theorem dX4_add_9 : decode cX4_add 9 = .ok (.iastore, 1) := by decide +kernel
theorem dX4_add_10 : decode cX4_add 10 = .ok (.aload_n 0, 1) := by decide +kernel
theorem dX4_add_11 : decode cX4_add 11 = .ok (.dup, 1) := by decide +kernel
theorem dX4_add_12 : decode cX4_add 12 = .ok (.getfield 20, 3) := by decide +kernel
theorem dX4_add_15 : decode cX4_add 15 = .ok (.iconst 1, 1) := by decide +kernel
theorem dX4_add_16 : decode cX4_add 16 = .ok (.iadd, 1) := by decide +kernel
theorem dX4_add_17 : decode cX4_add 17 = .ok (.putfield 20, 3) := by decide +kernel
theorem dX4_add_20 : decode cX4_add 20 = .ok (.aload_n 0, 1) := by decide +kernel
theorem dX4_add_21 : decode cX4_add 21 = .ok (.getfield 20, 3) := by decide +kernel
theorem dX4_add_24 : decode cX4_add 24 = .ok (.iconst 1, 1) := by decide +kernel
theorem dX4_add_25 : decode cX4_add 25 = .ok (.isub, 1) := by decide +kernel
theorem dX4_add_26 : decode cX4_add 26 = .ok (.ireturn, 1) := by decide +kernel
theorem dX4_allWorth_0 : decode cX4_allWorth 0 = .ok (.iconst 0, 1) := by decide +kernel
theorem dX4_allWorth_1 : decode cX4_allWorth 1 = .ok (.istore_n 1, 1) := by decide +kernel
theorem dX4_allWorth_2 : decode cX4_allWorth 2 = .ok (.iconst 0, 1) := by decide +kernel
theorem dX4_allWorth_3 : decode cX4_allWorth 3 = .ok (.istore_n 2, 1) := by decide +kernel
theorem dX4_allWorth_4 : decode cX4_allWorth 4 = .ok (.iload_n 2, 1) := by decide +kernel
theorem dX4_allWorth_5 : decode cX4_allWorth 5 = .ok (.aload_n 0, 1) := by decide +kernel
theorem dX4_allWorth_6 : decode cX4_allWorth 6 = .ok (.getfield 20, 3) := by decide +kernel
theorem dX4_allWorth_9 : decode cX4_allWorth 9 = .ok (.if_icmp .ge 18, 3) := by decide +kernel
theorem dX4_allWorth_12 : decode cX4_allWorth 12 = .ok (.iload_n 1, 1) := by decide +kernel
theorem dX4_allWorth_13 : decode cX4_allWorth 13 = .ok (.aload_n 0, 1) := by decide +kernel
theorem dX4_allWorth_14 : decode cX4_allWorth 14 = .ok (.getfield 9, 3) := by decide +kernel
theorem dX4_allWorth_17 : decode cX4_allWorth 17 = .ok (.iload_n 2, 1) := by decide +kernel
theorem dX4_allWorth_18 : decode cX4_allWorth 18 = .ok (.iaload, 1) := by decide +kernel
theorem dX4_allWorth_19 : decode cX4_allWorth 19 = .ok (.iadd, 1) := by decide +kernel
theorem dX4_allWorth_20 : decode cX4_allWorth 20 = .ok (.istore_n 1, 1) := by decide +kernel
theorem dX4_allWorth_21 : decode cX4_allWorth 21 = .ok (.iinc 2 1, 3) := by decide +kernel
theorem dX4_allWorth_24 : decode cX4_allWorth 24 = .ok (.goto (-20), 3) := by decide +kernel
theorem dX4_allWorth_27 : decode cX4_allWorth 27 = .ok (.iload_n 1, 1) := by decide +kernel
theorem dX4_allWorth_28 : decode cX4_allWorth 28 = .ok (.ireturn, 1) := by decide +kernel
theorem dX4_share_0 : decode cX4_share 0 = .ok (.iload_n 3, 1) := by decide +kernel
theorem dX4_share_1 : decode cX4_share 1 = .ok (.ifCond .gt 5, 3) := by decide +kernel
theorem dX4_share_4 : decode cX4_share 4 = .ok (.iconst 0, 1) := by decide +kernel
theorem dX4_share_5 : decode cX4_share 5 = .ok (.ireturn, 1) := by decide +kernel
theorem dX4_share_6 : decode cX4_share 6 = .ok (.iload_n 2, 1) := by decide +kernel
theorem dX4_share_7 : decode cX4_share 7 = .ok (.istore 4, 2) := by decide +kernel
theorem dX4_share_9 : decode cX4_share 9 = .ok (.iconst 0, 1) := by decide +kernel
theorem dX4_share_10 : decode cX4_share 10 = .ok (.istore 5, 2) := by decide +kernel
theorem dX4_share_12 : decode cX4_share 12 = .ok (.aload_n 0, 1) := by decide +kernel
theorem dX4_share_13 : decode cX4_share 13 = .ok (.getfield 9, 3) := by decide +kernel
theorem dX4_share_16 : decode cX4_share 16 = .ok (.iload_n 1, 1) := by decide +kernel
theorem dX4_share_17 : decode cX4_share 17 = .ok (.iaload, 1) := by decide +kernel
theorem dX4_share_18 : decode cX4_share 18 = .ok (.iload_n 2, 1) := by decide +kernel
theorem dX4_share_19 : decode cX4_share 19 = .ok (.imul, 1) := by decide +kernel
theorem dX4_share_20 : decode cX4_share 20 = .ok (.iload_n 3, 1) := by decide +kernel
theorem dX4_share_21 : decode cX4_share 21 = .ok (.irem, 1) := by decide +kernel
theorem dX4_share_22 : decode cX4_share 22 = .ok (.istore 6, 2) := by decide +kernel
theorem dX4_share_24 : decode cX4_share 24 = .ok (.iconst 0, 1) := by decide +kernel
theorem dX4_share_25 : decode cX4_share 25 = .ok (.istore 7, 2) := by decide +kernel
theorem dX4_share_27 : decode cX4_share 27 = .ok (.iload 7, 2) := by decide +kernel
theorem dX4_share_29 : decode cX4_share 29 = .ok (.aload_n 0, 1) := by decide +kernel
theorem dX4_share_30 : decode cX4_share 30 = .ok (.getfield 20, 3) := by decide +kernel
theorem dX4_share_33 : decode cX4_share 33 = .ok (.if_icmp .ge 61, 3) := by decide +kernel
theorem dX4_share_36 : decode cX4_share 36 = .ok (.iload 4, 2) := by decide +kernel
theorem dX4_share_38 : decode cX4_share 38 = .ok (.aload_n 0, 1) := by decide +kernel
theorem dX4_share_39 : decode cX4_share 39 = .ok (.getfield 9, 3) := by decide +kernel
theorem dX4_share_42 : decode cX4_share 42 = .ok (.iload 7, 2) := by decide +kernel
theorem dX4_share_44 : decode cX4_share 44 = .ok (.iaload, 1) := by decide +kernel
theorem dX4_share_45 : decode cX4_share 45 = .ok (.iload_n 2, 1) := by decide +kernel
theorem dX4_share_46 : decode cX4_share 46 = .ok (.imul, 1) := by decide +kernel
theorem dX4_share_47 : decode cX4_share 47 = .ok (.iload_n 3, 1) := by decide +kernel
theorem dX4_share_48 : decode cX4_share 48 = .ok (.idiv, 1) := by decide +kernel
theorem dX4_share_49 : decode cX4_share 49 = .ok (.isub, 1) := by decide +kernel
theorem dX4_share_50 : decode cX4_share 50 = .ok (.istore 4, 2) := by decide +kernel
theorem dX4_share_52 : decode cX4_share 52 = .ok (.aload_n 0, 1) := by decide +kernel
theorem dX4_share_53 : decode cX4_share 53 = .ok (.getfield 9, 3) := by decide +kernel
theorem dX4_share_56 : decode cX4_share 56 = .ok (.iload 7, 2) := by decide +kernel
theorem dX4_share_58 : decode cX4_share 58 = .ok (.iaload, 1) := by decide +kernel
theorem dX4_share_59 : decode cX4_share 59 = .ok (.iload_n 2, 1) := by decide +kernel
theorem dX4_share_60 : decode cX4_share 60 = .ok (.imul, 1) := by decide +kernel
theorem dX4_share_61 : decode cX4_share 61 = .ok (.iload_n 3, 1) := by decide +kernel
theorem dX4_share_62 : decode cX4_share 62 = .ok (.irem, 1) := by decide +kernel
theorem dX4_share_63 : decode cX4_share 63 = .ok (.istore 8, 2) := by decide +kernel
theorem dX4_share_65 : decode cX4_share 65 = .ok (.iload 8, 2) := by decide +kernel
theorem dX4_share_67 : decode cX4_share 67 = .ok (.iload 6, 2) := by decide +kernel
theorem dX4_share_69 : decode cX4_share 69 = .ok (.if_icmp .gt 16, 3) := by decide +kernel
theorem dX4_share_72 : decode cX4_share 72 = .ok (.iload 8, 2) := by decide +kernel
theorem dX4_share_74 : decode cX4_share 74 = .ok (.iload 6, 2) := by decide +kernel
theorem dX4_share_76 : decode cX4_share 76 = .ok (.if_icmp .ne 12, 3) := by decide +kernel
theorem dX4_share_79 : decode cX4_share 79 = .ok (.iload 7, 2) := by decide +kernel
theorem dX4_share_81 : decode cX4_share 81 = .ok (.iload_n 1, 1) := by decide +kernel
theorem dX4_share_82 : decode cX4_share 82 = .ok (.if_icmp .ge 6, 3) := by decide +kernel
theorem dX4_share_85 : decode cX4_share 85 = .ok (.iinc 5 1, 3) := by decide +kernel
theorem dX4_share_88 : decode cX4_share 88 = .ok (.iinc 7 1, 3) := by decide +kernel
theorem dX4_share_91 : decode cX4_share 91 = .ok (.goto (-64), 3) := by decide +kernel
theorem dX4_share_94 : decode cX4_share 94 = .ok (.aload_n 0, 1) := by decide +kernel
theorem dX4_share_95 : decode cX4_share 95 = .ok (.getfield 9, 3) := by decide +kernel
theorem dX4_share_98 : decode cX4_share 98 = .ok (.iload_n 1, 1) := by decide +kernel
theorem dX4_share_99 : decode cX4_share 99 = .ok (.iaload, 1) := by decide +kernel
theorem dX4_share_100 : decode cX4_share 100 = .ok (.iload_n 2, 1) := by decide +kernel
theorem dX4_share_101 : decode cX4_share 101 = .ok (.imul, 1) := by decide +kernel
theorem dX4_share_102 : decode cX4_share 102 = .ok (.iload_n 3, 1) := by decide +kernel
theorem dX4_share_103 : decode cX4_share 103 = .ok (.idiv, 1) := by decide +kernel
theorem dX4_share_104 : decode cX4_share 104 = .ok (.iload 5, 2) := by decide +kernel
theorem dX4_share_106 : decode cX4_share 106 = .ok (.iload 4, 2) := by decide +kernel
theorem dX4_share_108 : decode cX4_share 108 = .ok (.if_icmp .ge 7, 3) := by decide +kernel
theorem dX4_share_111 : decode cX4_share 111 = .ok (.iconst 1, 1) := by decide +kernel
theorem dX4_share_112 : decode cX4_share 112 = .ok (.goto 4, 3) := by decide +kernel
theorem dX4_share_115 : decode cX4_share 115 = .ok (.iconst 0, 1) := by decide +kernel
theorem dX4_share_116 : decode cX4_share 116 = .ok (.iadd, 1) := by decide +kernel
theorem dX4_share_117 : decode cX4_share 117 = .ok (.ireturn, 1) := by decide +kernel
theorem dX4_become_0 : decode cX4_become 0 = .ok (.aload_n 0, 1) := by decide +kernel
theorem dX4_become_1 : decode cX4_become 1 = .ok (.aload_n 1, 1) := by decide +kernel
theorem dX4_become_2 : decode cX4_become 2 = .ok (.getfield 20, 3) := by decide +kernel
theorem dX4_become_5 : decode cX4_become 5 = .ok (.putfield 20, 3) := by decide +kernel
theorem dX4_become_8 : decode cX4_become 8 = .ok (.aload_n 1, 1) := by decide +kernel
theorem dX4_become_9 : decode cX4_become 9 = .ok (.getfield 9, 3) := by decide +kernel
theorem dX4_become_12 : decode cX4_become 12 = .ok (.aload_n 0, 1) := by decide +kernel
theorem dX4_become_13 : decode cX4_become 13 = .ok (.getfield 9, 3) := by decide +kernel
theorem dX4_become_16 : decode cX4_become 16 = .ok (.invokestatic 24, 3) := by decide +kernel
theorem dX4_become_19 : decode cX4_become 19 = .ok (.iconst 0, 1) := by decide +kernel
theorem dX4_become_20 : decode cX4_become 20 = .ok (.istore_n 2, 1) := by decide +kernel
theorem dX4_become_21 : decode cX4_become 21 = .ok (.iload_n 2, 1) := by decide +kernel
theorem dX4_become_22 : decode cX4_become 22 = .ok (.bipush 6, 2) := by decide +kernel
theorem dX4_become_24 : decode cX4_become 24 = .ok (.if_icmp .ge 24, 3) := by decide +kernel
theorem dX4_become_27 : decode cX4_become 27 = .ok (.aload_n 1, 1) := by decide +kernel
theorem dX4_become_28 : decode cX4_become 28 = .ok (.getfield 17, 3) := by decide +kernel
theorem dX4_become_31 : decode cX4_become 31 = .ok (.iload_n 2, 1) := by decide +kernel
theorem dX4_become_32 : decode cX4_become 32 = .ok (.aaload, 1) := by decide +kernel
theorem dX4_become_33 : decode cX4_become 33 = .ok (.aload_n 0, 1) := by decide +kernel
theorem dX4_become_34 : decode cX4_become 34 = .ok (.getfield 17, 3) := by decide +kernel
theorem dX4_become_37 : decode cX4_become 37 = .ok (.iload_n 2, 1) := by decide +kernel
theorem dX4_become_38 : decode cX4_become 38 = .ok (.aaload, 1) := by decide +kernel
theorem dX4_become_39 : decode cX4_become 39 = .ok (.invokestatic 24, 3) := by decide +kernel
theorem dX4_become_42 : decode cX4_become 42 = .ok (.iinc 2 1, 3) := by decide +kernel
theorem dX4_become_45 : decode cX4_become 45 = .ok (.goto (-24), 3) := by decide +kernel
theorem dX4_become_48 : decode cX4_become 48 = .ok (.return_, 1) := by decide +kernel
theorem dX5_init_0 : decode cX5_init 0 = .ok (.aload_n 0, 1) := by decide +kernel
theorem dX5_init_1 : decode cX5_init 1 = .ok (.invokespecial 3, 3) := by decide +kernel
theorem dX5_init_4 : decode cX5_init 4 = .ok (.aload_n 0, 1) := by decide +kernel
theorem dX5_init_5 : decode cX5_init 5 = .ok (.bipush 10, 2) := by decide +kernel
theorem dX5_init_7 : decode cX5_init 7 = .ok (.newarray .int, 2) := by decide +kernel
theorem dX5_init_9 : decode cX5_init 9 = .ok (.putfield 9, 3) := by decide +kernel
theorem dX5_init_12 : decode cX5_init 12 = .ok (.aload_n 0, 1) := by decide +kernel
theorem dX5_init_13 : decode cX5_init 13 = .ok (.bipush 10, 2) := by decide +kernel
theorem dX5_init_15 : decode cX5_init 15 = .ok (.newarray .int, 2) := by decide +kernel
theorem dX5_init_17 : decode cX5_init 17 = .ok (.putfield 15, 3) := by decide +kernel
theorem dX5_init_20 : decode cX5_init 20 = .ok (.aload_n 0, 1) := by decide +kernel
theorem dX5_init_21 : decode cX5_init 21 = .ok (.bipush 10, 2) := by decide +kernel
theorem dX5_init_23 : decode cX5_init 23 = .ok (.newarray .int, 2) := by decide +kernel
theorem dX5_init_25 : decode cX5_init 25 = .ok (.putfield 18, 3) := by decide +kernel
theorem dX5_init_28 : decode cX5_init 28 = .ok (.aload_n 0, 1) := by decide +kernel
theorem dX5_init_29 : decode cX5_init 29 = .ok (.bipush 10, 2) := by decide +kernel
theorem dX5_init_31 : decode cX5_init 31 = .ok (.newarray .int, 2) := by decide +kernel
theorem dX5_init_33 : decode cX5_init 33 = .ok (.putfield 21, 3) := by decide +kernel
theorem dX5_init_36 : decode cX5_init 36 = .ok (.aload_n 0, 1) := by decide +kernel
theorem dX5_init_37 : decode cX5_init 37 = .ok (.bipush 10, 2) := by decide +kernel
theorem dX5_init_39 : decode cX5_init 39 = .ok (.newarray .int, 2) := by decide +kernel
theorem dX5_init_41 : decode cX5_init 41 = .ok (.putfield 24, 3) := by decide +kernel
theorem dX5_init_44 : decode cX5_init 44 = .ok (.return_, 1) := by decide +kernel
theorem dX5_has_0 : decode cX5_has 0 = .ok (.iload_n 1, 1) := by decide +kernel
theorem dX5_has_1 : decode cX5_has 1 = .ok (.ifCond .lt 15, 3) := by decide +kernel
theorem dX5_has_4 : decode cX5_has 4 = .ok (.iload_n 1, 1) := by decide +kernel
theorem dX5_has_5 : decode cX5_has 5 = .ok (.aload_n 0, 1) := by decide +kernel
theorem dX5_has_6 : decode cX5_has 6 = .ok (.getfield 27, 3) := by decide +kernel
theorem dX5_has_9 : decode cX5_has 9 = .ok (.if_icmp .ge 7, 3) := by decide +kernel
theorem dX5_has_12 : decode cX5_has 12 = .ok (.iconst 1, 1) := by decide +kernel
theorem dX5_has_13 : decode cX5_has 13 = .ok (.goto 4, 3) := by decide +kernel
theorem dX5_has_16 : decode cX5_has 16 = .ok (.iconst 0, 1) := by decide +kernel
theorem dX5_has_17 : decode cX5_has 17 = .ok (.ireturn, 1) := by decide +kernel
theorem dX5_add_0 : decode cX5_add 0 = .ok (.aload_n 0, 1) := by decide +kernel
theorem dX5_add_1 : decode cX5_add 1 = .ok (.getfield 9, 3) := by decide +kernel
theorem dX5_add_4 : decode cX5_add 4 = .ok (.aload_n 0, 1) := by decide +kernel
theorem dX5_add_5 : decode cX5_add 5 = .ok (.getfield 27, 3) := by decide +kernel
theorem dX5_add_8 : decode cX5_add 8 = .ok (.iload_n 1, 1) := by decide +kernel
theorem dX5_add_9 : decode cX5_add 9 = .ok (.iastore, 1) := by decide +kernel
theorem dX5_add_10 : decode cX5_add 10 = .ok (.aload_n 0, 1) := by decide +kernel
theorem dX5_add_11 : decode cX5_add 11 = .ok (.getfield 15, 3) := by decide +kernel
theorem dX5_add_14 : decode cX5_add 14 = .ok (.aload_n 0, 1) := by decide +kernel
theorem dX5_add_15 : decode cX5_add 15 = .ok (.getfield 27, 3) := by decide +kernel
theorem dX5_add_18 : decode cX5_add 18 = .ok (.iload_n 2, 1) := by decide +kernel
theorem dX5_add_19 : decode cX5_add 19 = .ok (.iastore, 1) := by decide +kernel
theorem dX5_add_20 : decode cX5_add 20 = .ok (.aload_n 0, 1) := by decide +kernel
theorem dX5_add_21 : decode cX5_add 21 = .ok (.getfield 18, 3) := by decide +kernel
theorem dX5_add_24 : decode cX5_add 24 = .ok (.aload_n 0, 1) := by decide +kernel
theorem dX5_add_25 : decode cX5_add 25 = .ok (.getfield 27, 3) := by decide +kernel
theorem dX5_add_28 : decode cX5_add 28 = .ok (.iload_n 3, 1) := by decide +kernel
theorem dX5_add_29 : decode cX5_add 29 = .ok (.iastore, 1) := by decide +kernel
theorem dX5_add_30 : decode cX5_add 30 = .ok (.aload_n 0, 1) := by decide +kernel
theorem dX5_add_31 : decode cX5_add 31 = .ok (.getfield 21, 3) := by decide +kernel
theorem dX5_add_34 : decode cX5_add 34 = .ok (.aload_n 0, 1) := by decide +kernel
theorem dX5_add_35 : decode cX5_add 35 = .ok (.getfield 27, 3) := by decide +kernel
theorem dX5_add_38 : decode cX5_add 38 = .ok (.iconst (-1), 1) := by decide +kernel
theorem dX5_add_39 : decode cX5_add 39 = .ok (.iastore, 1) := by decide +kernel
theorem dX5_add_40 : decode cX5_add 40 = .ok (.aload_n 0, 1) := by decide +kernel
theorem dX5_add_41 : decode cX5_add 41 = .ok (.getfield 24, 3) := by decide +kernel
theorem dX5_add_44 : decode cX5_add 44 = .ok (.aload_n 0, 1) := by decide +kernel
theorem dX5_add_45 : decode cX5_add 45 = .ok (.getfield 27, 3) := by decide +kernel
theorem dX5_add_48 : decode cX5_add 48 = .ok (.iconst 0, 1) := by decide +kernel
theorem dX5_add_49 : decode cX5_add 49 = .ok (.iastore, 1) := by decide +kernel
theorem dX5_add_50 : decode cX5_add 50 = .ok (.aload_n 0, 1) := by decide +kernel
theorem dX5_add_51 : decode cX5_add 51 = .ok (.dup, 1) := by decide +kernel
theorem dX5_add_52 : decode cX5_add 52 = .ok (.getfield 27, 3) := by decide +kernel
theorem dX5_add_55 : decode cX5_add 55 = .ok (.iconst 1, 1) := by decide +kernel
theorem dX5_add_56 : decode cX5_add 56 = .ok (.iadd, 1) := by decide +kernel
theorem dX5_add_57 : decode cX5_add 57 = .ok (.putfield 27, 3) := by decide +kernel
theorem dX5_add_60 : decode cX5_add 60 = .ok (.aload_n 0, 1) := by decide +kernel
theorem dX5_add_61 : decode cX5_add 61 = .ok (.getfield 27, 3) := by decide +kernel
theorem dX5_add_64 : decode cX5_add 64 = .ok (.iconst 1, 1) := by decide +kernel
theorem dX5_add_65 : decode cX5_add 65 = .ok (.isub, 1) := by decide +kernel
theorem dX5_add_66 : decode cX5_add 66 = .ok (.ireturn, 1) := by decide +kernel
theorem dX5_isOf_0 : decode cX5_isOf 0 = .ok (.aload_n 0, 1) := by decide +kernel
theorem dX5_isOf_1 : decode cX5_isOf 1 = .ok (.getfield 9, 3) := by decide +kernel
theorem dX5_isOf_4 : decode cX5_isOf 4 = .ok (.iload_n 1, 1) := by decide +kernel
theorem dX5_isOf_5 : decode cX5_isOf 5 = .ok (.iaload, 1) := by decide +kernel
theorem dX5_isOf_6 : decode cX5_isOf 6 = .ok (.istore_n 3, 1) := by decide +kernel
theorem dX5_isOf_7 : decode cX5_isOf 7 = .ok (.iconst 0, 1) := by decide +kernel
theorem dX5_isOf_8 : decode cX5_isOf 8 = .ok (.istore 4, 2) := by decide +kernel
theorem dX5_isOf_10 : decode cX5_isOf 10 = .ok (.iload 4, 2) := by decide +kernel
theorem dX5_isOf_12 : decode cX5_isOf 12 = .ok (.getstatic 31, 3) := by decide +kernel
theorem dX5_isOf_15 : decode cX5_isOf 15 = .ok (.arraylength, 1) := by decide +kernel
theorem dX5_isOf_16 : decode cX5_isOf 16 = .ok (.if_icmp .ge 26, 3) := by decide +kernel
theorem dX5_isOf_19 : decode cX5_isOf 19 = .ok (.iload_n 3, 1) := by decide +kernel
theorem dX5_isOf_20 : decode cX5_isOf 20 = .ok (.ifCond .lt 22, 3) := by decide +kernel
theorem dX5_isOf_23 : decode cX5_isOf 23 = .ok (.iload_n 3, 1) := by decide +kernel
theorem dX5_isOf_24 : decode cX5_isOf 24 = .ok (.iload_n 2, 1) := by decide +kernel
theorem dX5_isOf_25 : decode cX5_isOf 25 = .ok (.if_icmp .ne 5, 3) := by decide +kernel
theorem dX5_isOf_28 : decode cX5_isOf 28 = .ok (.iconst 1, 1) := by decide +kernel
theorem dX5_isOf_29 : decode cX5_isOf 29 = .ok (.ireturn, 1) := by decide +kernel
theorem dX5_isOf_30 : decode cX5_isOf 30 = .ok (.getstatic 31, 3) := by decide +kernel
theorem dX5_isOf_33 : decode cX5_isOf 33 = .ok (.iload_n 3, 1) := by decide +kernel
theorem dX5_isOf_34 : decode cX5_isOf 34 = .ok (.iaload, 1) := by decide +kernel
theorem dX5_isOf_35 : decode cX5_isOf 35 = .ok (.istore_n 3, 1) := by decide +kernel
theorem dX5_isOf_36 : decode cX5_isOf 36 = .ok (.iinc 4 1, 3) := by decide +kernel
theorem dX5_isOf_39 : decode cX5_isOf 39 = .ok (.goto (-29), 3) := by decide +kernel
theorem dX5_isOf_42 : decode cX5_isOf 42 = .ok (.iconst 0, 1) := by decide +kernel
theorem dX5_isOf_43 : decode cX5_isOf 43 = .ok (.ireturn, 1) := by decide +kernel
theorem dX5_comesTo_0 : decode cX5_comesTo 0 = .ok (.iload_n 1, 1) := by decide +kernel
theorem dX5_comesTo_1 : decode cX5_comesTo 1 = .ok (.istore_n 3, 1) := by decide +kernel
theorem dX5_comesTo_2 : decode cX5_comesTo 2 = .ok (.iconst 0, 1) := by decide +kernel
theorem dX5_comesTo_3 : decode cX5_comesTo 3 = .ok (.istore 4, 2) := by decide +kernel
theorem dX5_comesTo_5 : decode cX5_comesTo 5 = .ok (.iload 4, 2) := by decide +kernel
theorem dX5_comesTo_7 : decode cX5_comesTo 7 = .ok (.bipush 10, 2) := by decide +kernel
theorem dX5_comesTo_9 : decode cX5_comesTo 9 = .ok (.if_icmp .ge 31, 3) := by decide +kernel
theorem dX5_comesTo_12 : decode cX5_comesTo 12 = .ok (.aload_n 0, 1) := by decide +kernel
theorem dX5_comesTo_13 : decode cX5_comesTo 13 = .ok (.iload_n 3, 1) := by decide +kernel
theorem dX5_comesTo_14 : decode cX5_comesTo 14 = .ok (.invokevirtual 34, 3) := by decide +kernel
theorem dX5_comesTo_17 : decode cX5_comesTo 17 = .ok (.ifCond .eq 23, 3) := by decide +kernel
theorem dX5_comesTo_20 : decode cX5_comesTo 20 = .ok (.iload_n 3, 1) := by decide +kernel
theorem dX5_comesTo_21 : decode cX5_comesTo 21 = .ok (.iload_n 2, 1) := by decide +kernel
theorem dX5_comesTo_22 : decode cX5_comesTo 22 = .ok (.if_icmp .ne 5, 3) := by decide +kernel
theorem dX5_comesTo_25 : decode cX5_comesTo 25 = .ok (.iconst 1, 1) := by decide +kernel
theorem dX5_comesTo_26 : decode cX5_comesTo 26 = .ok (.ireturn, 1) := by decide +kernel
theorem dX5_comesTo_27 : decode cX5_comesTo 27 = .ok (.aload_n 0, 1) := by decide +kernel
theorem dX5_comesTo_28 : decode cX5_comesTo 28 = .ok (.getfield 21, 3) := by decide +kernel
theorem dX5_comesTo_31 : decode cX5_comesTo 31 = .ok (.iload_n 3, 1) := by decide +kernel
theorem dX5_comesTo_32 : decode cX5_comesTo 32 = .ok (.iaload, 1) := by decide +kernel
theorem dX5_comesTo_33 : decode cX5_comesTo 33 = .ok (.istore_n 3, 1) := by decide +kernel
theorem dX5_comesTo_34 : decode cX5_comesTo 34 = .ok (.iinc 4 1, 3) := by decide +kernel
theorem dX5_comesTo_37 : decode cX5_comesTo 37 = .ok (.goto (-32), 3) := by decide +kernel
theorem dX5_comesTo_40 : decode cX5_comesTo 40 = .ok (.iconst 0, 1) := by decide +kernel
theorem dX5_comesTo_41 : decode cX5_comesTo 41 = .ok (.ireturn, 1) := by decide +kernel
theorem dX5_follow_0 : decode cX5_follow 0 = .ok (.aload_n 0, 1) := by decide +kernel
theorem dX5_follow_1 : decode cX5_follow 1 = .ok (.getfield 21, 3) := by decide +kernel
theorem dX5_follow_4 : decode cX5_follow 4 = .ok (.iload_n 1, 1) := by decide +kernel
theorem dX5_follow_5 : decode cX5_follow 5 = .ok (.iaload, 1) := by decide +kernel
theorem dX5_follow_6 : decode cX5_follow 6 = .ok (.istore 4, 2) := by decide +kernel
theorem dX5_follow_8 : decode cX5_follow 8 = .ok (.aload_n 0, 1) := by decide +kernel
theorem dX5_follow_9 : decode cX5_follow 9 = .ok (.getfield 21, 3) := by decide +kernel
theorem dX5_follow_12 : decode cX5_follow 12 = .ok (.iload_n 1, 1) := by decide +kernel
theorem dX5_follow_13 : decode cX5_follow 13 = .ok (.iload_n 2, 1) := by decide +kernel
theorem dX5_follow_14 : decode cX5_follow 14 = .ok (.iastore, 1) := by decide +kernel
theorem dX5_follow_15 : decode cX5_follow 15 = .ok (.aload_n 0, 1) := by decide +kernel
theorem dX5_follow_16 : decode cX5_follow 16 = .ok (.getfield 24, 3) := by decide +kernel
theorem dX5_follow_19 : decode cX5_follow 19 = .ok (.iload_n 1, 1) := by decide +kernel
theorem dX5_follow_20 : decode cX5_follow 20 = .ok (.iload_n 3, 1) := by decide +kernel
theorem dX5_follow_21 : decode cX5_follow 21 = .ok (.iastore, 1) := by decide +kernel
theorem dX5_follow_22 : decode cX5_follow 22 = .ok (.iload 4, 2) := by decide +kernel
theorem dX5_follow_24 : decode cX5_follow 24 = .ok (.ireturn, 1) := by decide +kernel
theorem dX5_isWifeOf_0 : decode cX5_isWifeOf 0 = .ok (.aload_n 0, 1) := by decide +kernel
theorem dX5_isWifeOf_1 : decode cX5_isWifeOf 1 = .ok (.getfield 9, 3) := by decide +kernel
theorem dX5_isWifeOf_4 : decode cX5_isWifeOf 4 = .ok (.iload_n 1, 1) := by decide +kernel
theorem dX5_isWifeOf_5 : decode cX5_isWifeOf 5 = .ok (.iaload, 1) := by decide +kernel
theorem dX5_isWifeOf_6 : decode cX5_isWifeOf 6 = .ok (.iconst 1, 1) := by decide +kernel
theorem dX5_isWifeOf_7 : decode cX5_isWifeOf 7 = .ok (.if_icmp .ne 17, 3) := by decide +kernel
theorem dX5_isWifeOf_10 : decode cX5_isWifeOf 10 = .ok (.aload_n 0, 1) := by decide +kernel
theorem dX5_isWifeOf_11 : decode cX5_isWifeOf 11 = .ok (.getfield 21, 3) := by decide +kernel
theorem dX5_isWifeOf_14 : decode cX5_isWifeOf 14 = .ok (.iload_n 1, 1) := by decide +kernel
theorem dX5_isWifeOf_15 : decode cX5_isWifeOf 15 = .ok (.iaload, 1) := by decide +kernel
theorem dX5_isWifeOf_16 : decode cX5_isWifeOf 16 = .ok (.iload_n 2, 1) := by decide +kernel
theorem dX5_isWifeOf_17 : decode cX5_isWifeOf 17 = .ok (.if_icmp .ne 7, 3) := by decide +kernel
theorem dX5_isWifeOf_20 : decode cX5_isWifeOf 20 = .ok (.iconst 1, 1) := by decide +kernel
theorem dX5_isWifeOf_21 : decode cX5_isWifeOf 21 = .ok (.goto 4, 3) := by decide +kernel
theorem dX5_isWifeOf_24 : decode cX5_isWifeOf 24 = .ok (.iconst 0, 1) := by decide +kernel
theorem dX5_isWifeOf_25 : decode cX5_isWifeOf 25 = .ok (.ireturn, 1) := by decide +kernel
theorem dX5_become_0 : decode cX5_become 0 = .ok (.aload_n 0, 1) := by decide +kernel
theorem dX5_become_1 : decode cX5_become 1 = .ok (.aload_n 1, 1) := by decide +kernel
theorem dX5_become_2 : decode cX5_become 2 = .ok (.getfield 27, 3) := by decide +kernel
theorem dX5_become_5 : decode cX5_become 5 = .ok (.putfield 27, 3) := by decide +kernel
theorem dX5_become_8 : decode cX5_become 8 = .ok (.aload_n 1, 1) := by decide +kernel
theorem dX5_become_9 : decode cX5_become 9 = .ok (.getfield 9, 3) := by decide +kernel
theorem dX5_become_12 : decode cX5_become 12 = .ok (.aload_n 0, 1) := by decide +kernel
theorem dX5_become_13 : decode cX5_become 13 = .ok (.getfield 9, 3) := by decide +kernel
theorem dX5_become_16 : decode cX5_become 16 = .ok (.invokestatic 38, 3) := by decide +kernel
theorem dX5_become_19 : decode cX5_become 19 = .ok (.aload_n 1, 1) := by decide +kernel
theorem dX5_become_20 : decode cX5_become 20 = .ok (.getfield 15, 3) := by decide +kernel
theorem dX5_become_23 : decode cX5_become 23 = .ok (.aload_n 0, 1) := by decide +kernel
theorem dX5_become_24 : decode cX5_become 24 = .ok (.getfield 15, 3) := by decide +kernel
theorem dX5_become_27 : decode cX5_become 27 = .ok (.invokestatic 38, 3) := by decide +kernel
theorem dX5_become_30 : decode cX5_become 30 = .ok (.aload_n 1, 1) := by decide +kernel
theorem dX5_become_31 : decode cX5_become 31 = .ok (.getfield 18, 3) := by decide +kernel
theorem dX5_become_34 : decode cX5_become 34 = .ok (.aload_n 0, 1) := by decide +kernel
theorem dX5_become_35 : decode cX5_become 35 = .ok (.getfield 18, 3) := by decide +kernel
theorem dX5_become_38 : decode cX5_become 38 = .ok (.invokestatic 38, 3) := by decide +kernel
theorem dX5_become_41 : decode cX5_become 41 = .ok (.aload_n 1, 1) := by decide +kernel
theorem dX5_become_42 : decode cX5_become 42 = .ok (.getfield 21, 3) := by decide +kernel
theorem dX5_become_45 : decode cX5_become 45 = .ok (.aload_n 0, 1) := by decide +kernel
theorem dX5_become_46 : decode cX5_become 46 = .ok (.getfield 21, 3) := by decide +kernel
theorem dX5_become_49 : decode cX5_become 49 = .ok (.invokestatic 38, 3) := by decide +kernel
theorem dX5_become_52 : decode cX5_become 52 = .ok (.aload_n 1, 1) := by decide +kernel
theorem dX5_become_53 : decode cX5_become 53 = .ok (.getfield 24, 3) := by decide +kernel
theorem dX5_become_56 : decode cX5_become 56 = .ok (.aload_n 0, 1) := by decide +kernel
theorem dX5_become_57 : decode cX5_become 57 = .ok (.getfield 24, 3) := by decide +kernel
theorem dX5_become_60 : decode cX5_become 60 = .ok (.invokestatic 38, 3) := by decide +kernel
theorem dX5_become_63 : decode cX5_become 63 = .ok (.return_, 1) := by decide +kernel
theorem dX6_init_0 : decode cX6_init 0 = .ok (.aload_n 0, 1) := by decide +kernel
theorem dX6_init_1 : decode cX6_init 1 = .ok (.invokespecial 3, 3) := by decide +kernel
theorem dX6_init_4 : decode cX6_init 4 = .ok (.aload_n 0, 1) := by decide +kernel
theorem dX6_init_5 : decode cX6_init 5 = .ok (.iconst 3, 1) := by decide +kernel
theorem dX6_init_6 : decode cX6_init 6 = .ok (.putfield 9, 3) := by decide +kernel
theorem dX6_init_9 : decode cX6_init 9 = .ok (.aload_n 0, 1) := by decide +kernel
theorem dX6_init_10 : decode cX6_init 10 = .ok (.bipush 10, 2) := by decide +kernel
theorem dX6_init_12 : decode cX6_init 12 = .ok (.newarray .int, 2) := by decide +kernel
theorem dX6_init_14 : decode cX6_init 14 = .ok (.putfield 15, 3) := by decide +kernel
theorem dX6_init_17 : decode cX6_init 17 = .ok (.aload_n 0, 1) := by decide +kernel
theorem dX6_init_18 : decode cX6_init 18 = .ok (.bipush 10, 2) := by decide +kernel
theorem dX6_init_20 : decode cX6_init 20 = .ok (.newarray .int, 2) := by decide +kernel
theorem dX6_init_22 : decode cX6_init 22 = .ok (.putfield 19, 3) := by decide +kernel
theorem dX6_init_25 : decode cX6_init 25 = .ok (.aload_n 0, 1) := by decide +kernel
theorem dX6_init_26 : decode cX6_init 26 = .ok (.bipush 10, 2) := by decide +kernel
theorem dX6_init_28 : decode cX6_init 28 = .ok (.newarray .int, 2) := by decide +kernel
theorem dX6_init_30 : decode cX6_init 30 = .ok (.putfield 22, 3) := by decide +kernel
theorem dX6_init_33 : decode cX6_init 33 = .ok (.aload_n 0, 1) := by decide +kernel
theorem dX6_init_34 : decode cX6_init 34 = .ok (.bipush 60, 2) := by decide +kernel
theorem dX6_init_36 : decode cX6_init 36 = .ok (.newarray .int, 2) := by decide +kernel
theorem dX6_init_38 : decode cX6_init 38 = .ok (.putfield 25, 3) := by decide +kernel
theorem dX6_init_41 : decode cX6_init 41 = .ok (.return_, 1) := by decide +kernel
theorem dX6_enter_0 : decode cX6_enter 0 = .ok (.aload_n 0, 1) := by decide +kernel
theorem dX6_enter_1 : decode cX6_enter 1 = .ok (.getfield 15, 3) := by decide +kernel
theorem dX6_enter_4 : decode cX6_enter 4 = .ok (.iload_n 1, 1) := by decide +kernel
theorem dX6_enter_5 : decode cX6_enter 5 = .ok (.iconst (-1), 1) := by decide +kernel
theorem dX6_enter_6 : decode cX6_enter 6 = .ok (.iastore, 1) := by decide +kernel
theorem dX6_enter_7 : decode cX6_enter 7 = .ok (.aload_n 0, 1) := by decide +kernel
theorem dX6_enter_8 : decode cX6_enter 8 = .ok (.getfield 19, 3) := by decide +kernel
theorem dX6_enter_11 : decode cX6_enter 11 = .ok (.iload_n 1, 1) := by decide +kernel
theorem dX6_enter_12 : decode cX6_enter 12 = .ok (.iconst 0, 1) := by decide +kernel
theorem dX6_enter_13 : decode cX6_enter 13 = .ok (.iastore, 1) := by decide +kernel
theorem dX6_enter_14 : decode cX6_enter 14 = .ok (.aload_n 0, 1) := by decide +kernel
theorem dX6_enter_15 : decode cX6_enter 15 = .ok (.getfield 22, 3) := by decide +kernel
theorem dX6_enter_18 : decode cX6_enter 18 = .ok (.iload_n 1, 1) := by decide +kernel
theorem dX6_enter_19 : decode cX6_enter 19 = .ok (.iconst 0, 1) := by decide +kernel
theorem dX6_enter_20 : decode cX6_enter 20 = .ok (.iastore, 1) := by decide +kernel
theorem dX6_enter_21 : decode cX6_enter 21 = .ok (.return_, 1) := by decide +kernel
theorem dX6_listIn_0 : decode cX6_listIn 0 = .ok (.aload_n 0, 1) := by decide +kernel
theorem dX6_listIn_1 : decode cX6_listIn 1 = .ok (.getfield 19, 3) := by decide +kernel
theorem dX6_listIn_4 : decode cX6_listIn 4 = .ok (.iload_n 1, 1) := by decide +kernel
theorem dX6_listIn_5 : decode cX6_listIn 5 = .ok (.iaload, 1) := by decide +kernel
theorem dX6_listIn_6 : decode cX6_listIn 6 = .ok (.iload_n 2, 1) := by decide +kernel
theorem dX6_listIn_7 : decode cX6_listIn 7 = .ok (.if_icmp .gt 12, 3) := by decide +kernel
theorem dX6_listIn_10 : decode cX6_listIn 10 = .ok (.aload_n 0, 1) := by decide +kernel
theorem dX6_listIn_11 : decode cX6_listIn 11 = .ok (.getfield 15, 3) := by decide +kernel
theorem dX6_listIn_14 : decode cX6_listIn 14 = .ok (.iload_n 1, 1) := by decide +kernel
theorem dX6_listIn_15 : decode cX6_listIn 15 = .ok (.iaload, 1) := by decide +kernel
theorem dX6_listIn_16 : decode cX6_listIn 16 = .ok (.goto 4, 3) := by decide +kernel
theorem dX6_listIn_19 : decode cX6_listIn 19 = .ok (.iconst (-1), 1) := by decide +kernel
theorem dX6_listIn_20 : decode cX6_listIn 20 = .ok (.ireturn, 1) := by decide +kernel
theorem dX6_reliefOf_0 : decode cX6_reliefOf 0 = .ok (.aload_n 0, 1) := by decide +kernel
theorem dX6_reliefOf_1 : decode cX6_reliefOf 1 = .ok (.iload_n 2, 1) := by decide +kernel
theorem dX6_reliefOf_2 : decode cX6_reliefOf 2 = .ok (.iload_n 3, 1) := by decide +kernel
theorem dX6_reliefOf_3 : decode cX6_reliefOf 3 = .ok (.invokevirtual 28, 3) := by decide +kernel
theorem dX6_reliefOf_6 : decode cX6_reliefOf 6 = .ok (.istore 4, 2) := by decide +kernel
theorem dX6_reliefOf_8 : decode cX6_reliefOf 8 = .ok (.iload 4, 2) := by decide +kernel
theorem dX6_reliefOf_10 : decode cX6_reliefOf 10 = .ok (.iconst (-1), 1) := by decide +kernel
theorem dX6_reliefOf_11 : decode cX6_reliefOf 11 = .ok (.if_icmp .eq 13, 3) := by decide +kernel
theorem dX6_reliefOf_14 : decode cX6_reliefOf 14 = .ok (.aload_n 0, 1) := by decide +kernel
theorem dX6_reliefOf_15 : decode cX6_reliefOf 15 = .ok (.aload_n 1, 1) := by decide +kernel
theorem dX6_reliefOf_16 : decode cX6_reliefOf 16 = .ok (.iload_n 2, 1) := by decide +kernel
theorem dX6_reliefOf_17 : decode cX6_reliefOf 17 = .ok (.iload_n 3, 1) := by decide +kernel
theorem dX6_reliefOf_18 : decode cX6_reliefOf 18 = .ok (.invokevirtual 32, 3) := by decide +kernel
theorem dX6_reliefOf_21 : decode cX6_reliefOf 21 = .ok (.ifCond .eq 5, 3) := by decide +kernel
theorem dX6_reliefOf_24 : decode cX6_reliefOf 24 = .ok (.iconst 0, 1) := by decide +kernel
theorem dX6_reliefOf_25 : decode cX6_reliefOf 25 = .ok (.ireturn, 1) := by decide +kernel
theorem dX6_reliefOf_26 : decode cX6_reliefOf 26 = .ok (.aload_n 0, 1) := by decide +kernel
theorem dX6_reliefOf_27 : decode cX6_reliefOf 27 = .ok (.getfield 9, 3) := by decide +kernel
theorem dX6_reliefOf_30 : decode cX6_reliefOf 30 = .ok (.istore 5, 2) := by decide +kernel
theorem dX6_reliefOf_32 : decode cX6_reliefOf 32 = .ok (.iconst 0, 1) := by decide +kernel
theorem dX6_reliefOf_33 : decode cX6_reliefOf 33 = .ok (.istore 6, 2) := by decide +kernel
theorem dX6_reliefOf_35 : decode cX6_reliefOf 35 = .ok (.iload 6, 2) := by decide +kernel
theorem dX6_reliefOf_37 : decode cX6_reliefOf 37 = .ok (.aload_n 1, 1) := by decide +kernel
theorem dX6_reliefOf_38 : decode cX6_reliefOf 38 = .ok (.getfield 36, 3) := by decide +kernel
theorem dX6_reliefOf_41 : decode cX6_reliefOf 41 = .ok (.if_icmp .ge 34, 3) := by decide +kernel
theorem dX6_reliefOf_44 : decode cX6_reliefOf 44 = .ok (.aload_n 1, 1) := by decide +kernel
