theorem dX10_costs_90 : decode cX10_costs 90 = .ok (.istore_n 2, 1) := by decide +kernel
theorem dX10_costs_91 : decode cX10_costs 91 = .ok (.iinc 3 1, 3) := by decide +kernel
theorem dX10_costs_94 : decode cX10_costs 94 = .ok (.goto (-75), 3) := by decide +kernel
theorem dX10_costs_97 : decode cX10_costs 97 = .ok (.iload_n 2, 1) := by decide +kernel
theorem dX10_costs_98 : decode cX10_costs 98 = .ok (.ireturn, 1) := by decide +kernel
theorem dX10_set_0 : decode cX10_set 0 = .ok (.iload_n 1, 1) := by decide +kernel
theorem dX10_set_1 : decode cX10_set 1 = .ok (.iconst 0, 1) := by decide +kernel
theorem dX10_set_2 : decode cX10_set 2 = .ok (.iconst 1, 1) := by decide +kernel
theorem dX10_set_3 : decode cX10_set 3 = .ok (.invokestatic 41, 3) := by decide +kernel
theorem dX10_set_6 : decode cX10_set 6 = .ok (.ifCond .eq 31, 3) := by decide +kernel
theorem dX10_set_9 : decode cX10_set 9 = .ok (.iload_n 2, 1) := by decide +kernel
theorem dX10_set_10 : decode cX10_set 10 = .ok (.iload_n 1, 1) := by decide +kernel
theorem dX10_set_11 : decode cX10_set 11 = .ok (.ifCond .ne 7, 3) := by decide +kernel
theorem dX10_set_14 : decode cX10_set 14 = .ok (.iconst 0, 1) := by decide +kernel
theorem dX10_set_15 : decode cX10_set 15 = .ok (.goto 4, 3) := by decide +kernel
theorem dX10_set_18 : decode cX10_set 18 = .ok (.iconst 1, 1) := by decide +kernel
theorem dX10_set_19 : decode cX10_set 19 = .ok (.iload_n 1, 1) := by decide +kernel
theorem dX10_set_20 : decode cX10_set 20 = .ok (.ifCond .ne 9, 3) := by decide +kernel
theorem dX10_set_23 : decode cX10_set 23 = .ok (.sipush 999, 3) := by decide +kernel
theorem dX10_set_26 : decode cX10_set 26 = .ok (.goto 5, 3) := by decide +kernel
theorem dX10_set_29 : decode cX10_set 29 = .ok (.bipush 20, 2) := by decide +kernel
theorem dX10_set_31 : decode cX10_set 31 = .ok (.invokestatic 41, 3) := by decide +kernel
theorem dX10_set_34 : decode cX10_set 34 = .ok (.ifCond .ne 10, 3) := by decide +kernel
theorem dX10_set_37 : decode cX10_set 37 = .ok (.aload_n 0, 1) := by decide +kernel
theorem dX10_set_38 : decode cX10_set 38 = .ok (.ldc 45, 2) := by decide +kernel
theorem dX10_set_40 : decode cX10_set 40 = .ok (.invokevirtual 46, 3) := by decide +kernel
theorem dX10_set_43 : decode cX10_set 43 = .ok (.ireturn, 1) := by decide +kernel
theorem dX10_set_44 : decode cX10_set 44 = .ok (.aload_n 0, 1) := by decide +kernel
theorem dX10_set_45 : decode cX10_set 45 = .ok (.getfield 9, 3) := by decide +kernel
theorem dX10_set_48 : decode cX10_set 48 = .ok (.iconst 5, 1) := by decide +kernel
theorem dX10_set_49 : decode cX10_set 49 = .ok (.iload_n 1, 1) := by decide +kernel
theorem dX10_set_50 : decode cX10_set 50 = .ok (.iadd, 1) := by decide +kernel
theorem dX10_set_51 : decode cX10_set 51 = .ok (.iaload, 1) := by decide +kernel
theorem dX10_set_52 : decode cX10_set 52 = .ok (.istore_n 3, 1) := by decide +kernel
theorem dX10_set_53 : decode cX10_set 53 = .ok (.aload_n 0, 1) := by decide +kernel
theorem dX10_set_54 : decode cX10_set 54 = .ok (.getfield 9, 3) := by decide +kernel
theorem dX10_set_57 : decode cX10_set 57 = .ok (.iconst 5, 1) := by decide +kernel
theorem dX10_set_58 : decode cX10_set 58 = .ok (.iload_n 1, 1) := by decide +kernel
theorem dX10_set_59 : decode cX10_set 59 = .ok (.iadd, 1) := by decide +kernel
theorem dX10_set_60 : decode cX10_set 60 = .ok (.iload_n 2, 1) := by decide +kernel
theorem dX10_set_61 : decode cX10_set 61 = .ok (.iastore, 1) := by decide +kernel
theorem dX10_set_62 : decode cX10_set 62 = .ok (.iload_n 3, 1) := by decide +kernel
theorem dX10_set_63 : decode cX10_set 63 = .ok (.ireturn, 1) := by decide +kernel
theorem dX10_list_0 : decode cX10_list 0 = .ok (.aload_n 0, 1) := by decide +kernel
theorem dX10_list_1 : decode cX10_list 1 = .ok (.iload_n 1, 1) := by decide +kernel
theorem dX10_list_2 : decode cX10_list 2 = .ok (.invokevirtual 59, 3) := by decide +kernel
theorem dX10_list_5 : decode cX10_list 5 = .ok (.ifCond .eq 23, 3) := by decide +kernel
theorem dX10_list_8 : decode cX10_list 8 = .ok (.iload_n 2, 1) := by decide +kernel
theorem dX10_list_9 : decode cX10_list 9 = .ok (.iconst (-1), 1) := by decide +kernel
theorem dX10_list_10 : decode cX10_list 10 = .ok (.if_icmp .eq 25, 3) := by decide +kernel
theorem dX10_list_13 : decode cX10_list 13 = .ok (.aload_n 0, 1) := by decide +kernel
theorem dX10_list_14 : decode cX10_list 14 = .ok (.iload_n 2, 1) := by decide +kernel
theorem dX10_list_15 : decode cX10_list 15 = .ok (.invokevirtual 51, 3) := by decide +kernel
theorem dX10_list_18 : decode cX10_list 18 = .ok (.ifCond .eq 10, 3) := by decide +kernel
theorem dX10_list_21 : decode cX10_list 21 = .ok (.iload_n 3, 1) := by decide +kernel
theorem dX10_list_22 : decode cX10_list 22 = .ok (.invokestatic 114, 3) := by decide +kernel
theorem dX10_list_25 : decode cX10_list 25 = .ok (.ifCond .ne 10, 3) := by decide +kernel
theorem dX10_list_28 : decode cX10_list 28 = .ok (.aload_n 0, 1) := by decide +kernel
theorem dX10_list_29 : decode cX10_list 29 = .ok (.ldc 45, 2) := by decide +kernel
theorem dX10_list_31 : decode cX10_list 31 = .ok (.invokevirtual 46, 3) := by decide +kernel
theorem dX10_list_34 : decode cX10_list 34 = .ok (.ireturn, 1) := by decide +kernel
theorem dX10_list_35 : decode cX10_list 35 = .ok (.aload_n 0, 1) := by decide +kernel
theorem dX10_list_36 : decode cX10_list 36 = .ok (.getfield 9, 3) := by decide +kernel
theorem dX10_list_39 : decode cX10_list 39 = .ok (.bipush 99, 2) := by decide +kernel
theorem dX10_list_41 : decode cX10_list 41 = .ok (.iload_n 1, 1) := by decide +kernel
theorem dX10_list_42 : decode cX10_list 42 = .ok (.iadd, 1) := by decide +kernel
theorem dX10_list_43 : decode cX10_list 43 = .ok (.iaload, 1) := by decide +kernel
theorem dX10_list_44 : decode cX10_list 44 = .ok (.istore 4, 2) := by decide +kernel
theorem dX10_list_46 : decode cX10_list 46 = .ok (.aload_n 0, 1) := by decide +kernel
theorem dX10_list_47 : decode cX10_list 47 = .ok (.getfield 9, 3) := by decide +kernel
theorem dX10_list_50 : decode cX10_list 50 = .ok (.bipush 99, 2) := by decide +kernel
theorem dX10_list_52 : decode cX10_list 52 = .ok (.iload_n 1, 1) := by decide +kernel
theorem dX10_list_53 : decode cX10_list 53 = .ok (.iadd, 1) := by decide +kernel
theorem dX10_list_54 : decode cX10_list 54 = .ok (.iload_n 2, 1) := by decide +kernel
theorem dX10_list_55 : decode cX10_list 55 = .ok (.iastore, 1) := by decide +kernel
theorem dX10_list_56 : decode cX10_list 56 = .ok (.aload_n 0, 1) := by decide +kernel
theorem dX10_list_57 : decode cX10_list 57 = .ok (.getfield 9, 3) := by decide +kernel
theorem dX10_list_60 : decode cX10_list 60 = .ok (.bipush 109, 2) := by decide +kernel
theorem dX10_list_62 : decode cX10_list 62 = .ok (.iload_n 1, 1) := by decide +kernel
theorem dX10_list_63 : decode cX10_list 63 = .ok (.iadd, 1) := by decide +kernel
theorem dX10_list_64 : decode cX10_list 64 = .ok (.iload_n 2, 1) := by decide +kernel
theorem dX10_list_65 : decode cX10_list 65 = .ok (.ifCond .ge 7, 3) := by decide +kernel
theorem dX10_list_68 : decode cX10_list 68 = .ok (.iconst 0, 1) := by decide +kernel
theorem dX10_list_69 : decode cX10_list 69 = .ok (.goto 4, 3) := by decide +kernel
theorem dX10_list_72 : decode cX10_list 72 = .ok (.iload_n 3, 1) := by decide +kernel
theorem dX10_list_73 : decode cX10_list 73 = .ok (.iastore, 1) := by decide +kernel
theorem dX10_list_74 : decode cX10_list 74 = .ok (.iload 4, 2) := by decide +kernel
theorem dX10_list_76 : decode cX10_list 76 = .ok (.ireturn, 1) := by decide +kernel
theorem dX10_earns_0 : decode cX10_earns 0 = .ok (.aload_n 0, 1) := by decide +kernel
theorem dX10_earns_1 : decode cX10_earns 1 = .ok (.iload_n 1, 1) := by decide +kernel
theorem dX10_earns_2 : decode cX10_earns 2 = .ok (.invokevirtual 59, 3) := by decide +kernel
theorem dX10_earns_5 : decode cX10_earns 5 = .ok (.ifCond .eq 14, 3) := by decide +kernel
theorem dX10_earns_8 : decode cX10_earns 8 = .ok (.iload_n 2, 1) := by decide +kernel
theorem dX10_earns_9 : decode cX10_earns 9 = .ok (.iconst 0, 1) := by decide +kernel
theorem dX10_earns_10 : decode cX10_earns 10 = .ok (.sipush 999, 3) := by decide +kernel
theorem dX10_earns_13 : decode cX10_earns 13 = .ok (.invokestatic 41, 3) := by decide +kernel
theorem dX10_earns_16 : decode cX10_earns 16 = .ok (.ifCond .ne 10, 3) := by decide +kernel
theorem dX10_earns_19 : decode cX10_earns 19 = .ok (.aload_n 0, 1) := by decide +kernel
theorem dX10_earns_20 : decode cX10_earns 20 = .ok (.ldc 45, 2) := by decide +kernel
theorem dX10_earns_22 : decode cX10_earns 22 = .ok (.invokevirtual 46, 3) := by decide +kernel
theorem dX10_earns_25 : decode cX10_earns 25 = .ok (.ireturn, 1) := by decide +kernel
theorem dX10_earns_26 : decode cX10_earns 26 = .ok (.aload_n 0, 1) := by decide +kernel
theorem dX10_earns_27 : decode cX10_earns 27 = .ok (.getfield 9, 3) := by decide +kernel
theorem dX10_earns_30 : decode cX10_earns 30 = .ok (.bipush 119, 2) := by decide +kernel
theorem dX10_earns_32 : decode cX10_earns 32 = .ok (.iload_n 1, 1) := by decide +kernel
theorem dX10_earns_33 : decode cX10_earns 33 = .ok (.iadd, 1) := by decide +kernel
theorem dX10_earns_34 : decode cX10_earns 34 = .ok (.iaload, 1) := by decide +kernel
theorem dX10_earns_35 : decode cX10_earns 35 = .ok (.istore_n 3, 1) := by decide +kernel
theorem dX10_earns_36 : decode cX10_earns 36 = .ok (.aload_n 0, 1) := by decide +kernel
theorem dX10_earns_37 : decode cX10_earns 37 = .ok (.getfield 9, 3) := by decide +kernel
theorem dX10_earns_40 : decode cX10_earns 40 = .ok (.bipush 119, 2) := by decide +kernel
theorem dX10_earns_42 : decode cX10_earns 42 = .ok (.iload_n 1, 1) := by decide +kernel
theorem dX10_earns_43 : decode cX10_earns 43 = .ok (.iadd, 1) := by decide +kernel
theorem dX10_earns_44 : decode cX10_earns 44 = .ok (.iload_n 2, 1) := by decide +kernel
theorem dX10_earns_45 : decode cX10_earns 45 = .ok (.iastore, 1) := by decide +kernel
theorem dX10_earns_46 : decode cX10_earns 46 = .ok (.iload_n 3, 1) := by decide +kernel
theorem dX10_earns_47 : decode cX10_earns 47 = .ok (.ireturn, 1) := by decide +kernel
theorem dX10_price_0 : decode cX10_price 0 = .ok (.iload_n 1, 1) := by decide +kernel
theorem dX10_price_1 : decode cX10_price 1 = .ok (.invokestatic 114, 3) := by decide +kernel
theorem dX10_price_4 : decode cX10_price 4 = .ok (.ifCond .eq 13, 3) := by decide +kernel
theorem dX10_price_7 : decode cX10_price 7 = .ok (.iload_n 2, 1) := by decide +kernel
theorem dX10_price_8 : decode cX10_price 8 = .ok (.iconst 0, 1) := by decide +kernel
theorem dX10_price_9 : decode cX10_price 9 = .ok (.bipush 99, 2) := by decide +kernel
theorem dX10_price_11 : decode cX10_price 11 = .ok (.invokestatic 41, 3) := by decide +kernel
theorem dX10_price_14 : decode cX10_price 14 = .ok (.ifCond .ne 10, 3) := by decide +kernel
theorem dX10_price_17 : decode cX10_price 17 = .ok (.aload_n 0, 1) := by decide +kernel
theorem dX10_price_18 : decode cX10_price 18 = .ok (.ldc 45, 2) := by decide +kernel
theorem dX10_price_20 : decode cX10_price 20 = .ok (.invokevirtual 46, 3) := by decide +kernel
theorem dX10_price_23 : decode cX10_price 23 = .ok (.ireturn, 1) := by decide +kernel
theorem dX10_price_24 : decode cX10_price 24 = .ok (.aload_n 0, 1) := by decide +kernel
theorem dX10_price_25 : decode cX10_price 25 = .ok (.getfield 9, 3) := by decide +kernel
theorem dX10_price_28 : decode cX10_price 28 = .ok (.sipush 489, 3) := by decide +kernel
theorem dX10_price_31 : decode cX10_price 31 = .ok (.iload_n 1, 1) := by decide +kernel
theorem dX10_price_32 : decode cX10_price 32 = .ok (.iadd, 1) := by decide +kernel
theorem dX10_price_33 : decode cX10_price 33 = .ok (.iaload, 1) := by decide +kernel
theorem dX10_price_34 : decode cX10_price 34 = .ok (.istore_n 3, 1) := by decide +kernel
theorem dX10_price_35 : decode cX10_price 35 = .ok (.aload_n 0, 1) := by decide +kernel
theorem dX10_price_36 : decode cX10_price 36 = .ok (.getfield 9, 3) := by decide +kernel
theorem dX10_price_39 : decode cX10_price 39 = .ok (.sipush 489, 3) := by decide +kernel
theorem dX10_price_42 : decode cX10_price 42 = .ok (.iload_n 1, 1) := by decide +kernel
theorem dX10_price_43 : decode cX10_price 43 = .ok (.iadd, 1) := by decide +kernel
theorem dX10_price_44 : decode cX10_price 44 = .ok (.iload_n 2, 1) := by decide +kernel
theorem dX10_price_45 : decode cX10_price 45 = .ok (.iastore, 1) := by decide +kernel
theorem dX10_price_46 : decode cX10_price 46 = .ok (.iload_n 3, 1) := by decide +kernel
theorem dX10_price_47 : decode cX10_price 47 = .ok (.ireturn, 1) := by decide +kernel
theorem dX10_listOf_0 : decode cX10_listOf 0 = .ok (.aload_n 0, 1) := by decide +kernel
theorem dX10_listOf_1 : decode cX10_listOf 1 = .ok (.getfield 9, 3) := by decide +kernel
theorem dX10_listOf_4 : decode cX10_listOf 4 = .ok (.bipush 99, 2) := by decide +kernel
theorem dX10_listOf_6 : decode cX10_listOf 6 = .ok (.iload_n 1, 1) := by decide +kernel
theorem dX10_listOf_7 : decode cX10_listOf 7 = .ok (.iadd, 1) := by decide +kernel
theorem dX10_listOf_8 : decode cX10_listOf 8 = .ok (.iaload, 1) := by decide +kernel
theorem dX10_listOf_9 : decode cX10_listOf 9 = .ok (.ifCond .lt 28, 3) := by decide +kernel
theorem dX10_listOf_12 : decode cX10_listOf 12 = .ok (.aload_n 0, 1) := by decide +kernel
theorem dX10_listOf_13 : decode cX10_listOf 13 = .ok (.getfield 9, 3) := by decide +kernel
theorem dX10_listOf_16 : decode cX10_listOf 16 = .ok (.bipush 109, 2) := by decide +kernel
theorem dX10_listOf_18 : decode cX10_listOf 18 = .ok (.iload_n 1, 1) := by decide +kernel
theorem dX10_listOf_19 : decode cX10_listOf 19 = .ok (.iadd, 1) := by decide +kernel
theorem dX10_listOf_20 : decode cX10_listOf 20 = .ok (.iaload, 1) := by decide +kernel
theorem dX10_listOf_21 : decode cX10_listOf 21 = .ok (.iload_n 2, 1) := by decide +kernel
theorem dX10_listOf_22 : decode cX10_listOf 22 = .ok (.if_icmp .gt 15, 3) := by decide +kernel
theorem dX10_listOf_25 : decode cX10_listOf 25 = .ok (.aload_n 0, 1) := by decide +kernel
theorem dX10_listOf_26 : decode cX10_listOf 26 = .ok (.getfield 9, 3) := by decide +kernel
theorem dX10_listOf_29 : decode cX10_listOf 29 = .ok (.bipush 99, 2) := by decide +kernel
theorem dX10_listOf_31 : decode cX10_listOf 31 = .ok (.iload_n 1, 1) := by decide +kernel
theorem dX10_listOf_32 : decode cX10_listOf 32 = .ok (.iadd, 1) := by decide +kernel
theorem dX10_listOf_33 : decode cX10_listOf 33 = .ok (.iaload, 1) := by decide +kernel
theorem dX10_listOf_34 : decode cX10_listOf 34 = .ok (.goto 4, 3) := by decide +kernel
theorem dX10_listOf_37 : decode cX10_listOf 37 = .ok (.iconst (-1), 1) := by decide +kernel
theorem dX10_listOf_38 : decode cX10_listOf 38 = .ok (.ireturn, 1) := by decide +kernel
theorem dX10_isWifeOf_0 : decode cX10_isWifeOf 0 = .ok (.aload_n 0, 1) := by decide +kernel
theorem dX10_isWifeOf_1 : decode cX10_isWifeOf 1 = .ok (.getfield 9, 3) := by decide +kernel
theorem dX10_isWifeOf_4 : decode cX10_isWifeOf 4 = .ok (.bipush 49, 2) := by decide +kernel
theorem dX10_isWifeOf_6 : decode cX10_isWifeOf 6 = .ok (.iload_n 1, 1) := by decide +kernel
theorem dX10_isWifeOf_7 : decode cX10_isWifeOf 7 = .ok (.iadd, 1) := by decide +kernel
theorem dX10_isWifeOf_8 : decode cX10_isWifeOf 8 = .ok (.iaload, 1) := by decide +kernel
theorem dX10_isWifeOf_9 : decode cX10_isWifeOf 9 = .ok (.iconst 1, 1) := by decide +kernel
theorem dX10_isWifeOf_10 : decode cX10_isWifeOf 10 = .ok (.if_icmp .ne 20, 3) := by decide +kernel
theorem dX10_isWifeOf_13 : decode cX10_isWifeOf 13 = .ok (.aload_n 0, 1) := by decide +kernel
theorem dX10_isWifeOf_14 : decode cX10_isWifeOf 14 = .ok (.getfield 9, 3) := by decide +kernel
theorem dX10_isWifeOf_17 : decode cX10_isWifeOf 17 = .ok (.bipush 79, 2) := by decide +kernel
theorem dX10_isWifeOf_19 : decode cX10_isWifeOf 19 = .ok (.iload_n 1, 1) := by decide +kernel
theorem dX10_isWifeOf_20 : decode cX10_isWifeOf 20 = .ok (.iadd, 1) := by decide +kernel
theorem dX10_isWifeOf_21 : decode cX10_isWifeOf 21 = .ok (.iaload, 1) := by decide +kernel
theorem dX10_isWifeOf_22 : decode cX10_isWifeOf 22 = .ok (.iload_n 2, 1) := by decide +kernel
theorem dX10_isWifeOf_23 : decode cX10_isWifeOf 23 = .ok (.if_icmp .ne 7, 3) := by decide +kernel
theorem dX10_isWifeOf_26 : decode cX10_isWifeOf 26 = .ok (.iconst 1, 1) := by decide +kernel
theorem dX10_isWifeOf_27 : decode cX10_isWifeOf 27 = .ok (.goto 4, 3) := by decide +kernel
theorem dX10_isWifeOf_30 : decode cX10_isWifeOf 30 = .ok (.iconst 0, 1) := by decide +kernel
theorem dX10_isWifeOf_31 : decode cX10_isWifeOf 31 = .ok (.ireturn, 1) := by decide +kernel
theorem dX10_reliefOf_0 : decode cX10_reliefOf 0 = .ok (.aload_n 0, 1) := by decide +kernel
theorem dX10_reliefOf_1 : decode cX10_reliefOf 1 = .ok (.iload_n 1, 1) := by decide +kernel
theorem dX10_reliefOf_2 : decode cX10_reliefOf 2 = .ok (.iload_n 2, 1) := by decide +kernel
theorem dX10_reliefOf_3 : decode cX10_reliefOf 3 = .ok (.invokevirtual 117, 3) := by decide +kernel
theorem dX10_reliefOf_6 : decode cX10_reliefOf 6 = .ok (.istore_n 3, 1) := by decide +kernel
theorem dX10_reliefOf_7 : decode cX10_reliefOf 7 = .ok (.aload_n 0, 1) := by decide +kernel
theorem dX10_reliefOf_8 : decode cX10_reliefOf 8 = .ok (.getfield 9, 3) := by decide +kernel
theorem dX10_reliefOf_11 : decode cX10_reliefOf 11 = .ok (.bipush 6, 2) := by decide +kernel
theorem dX10_reliefOf_13 : decode cX10_reliefOf 13 = .ok (.iaload, 1) := by decide +kernel
theorem dX10_reliefOf_14 : decode cX10_reliefOf 14 = .ok (.istore 4, 2) := by decide +kernel
theorem dX10_reliefOf_16 : decode cX10_reliefOf 16 = .ok (.iconst 0, 1) := by decide +kernel
theorem dX10_reliefOf_17 : decode cX10_reliefOf 17 = .ok (.istore 5, 2) := by decide +kernel
theorem dX10_reliefOf_19 : decode cX10_reliefOf 19 = .ok (.iload 5, 2) := by decide +kernel
theorem dX10_reliefOf_21 : decode cX10_reliefOf 21 = .ok (.aload_n 0, 1) := by decide +kernel
theorem dX10_reliefOf_22 : decode cX10_reliefOf 22 = .ok (.getfield 9, 3) := by decide +kernel
theorem dX10_reliefOf_25 : decode cX10_reliefOf 25 = .ok (.iconst 1, 1) := by decide +kernel
theorem dX10_reliefOf_26 : decode cX10_reliefOf 26 = .ok (.iaload, 1) := by decide +kernel
theorem dX10_reliefOf_27 : decode cX10_reliefOf 27 = .ok (.if_icmp .ge 69, 3) := by decide +kernel
theorem dX10_reliefOf_30 : decode cX10_reliefOf 30 = .ok (.aload_n 0, 1) := by decide +kernel
theorem dX10_reliefOf_31 : decode cX10_reliefOf 31 = .ok (.iload 5, 2) := by decide +kernel
theorem dX10_reliefOf_33 : decode cX10_reliefOf 33 = .ok (.iload_n 2, 1) := by decide +kernel
theorem dX10_reliefOf_34 : decode cX10_reliefOf 34 = .ok (.invokevirtual 117, 3) := by decide +kernel
theorem dX10_reliefOf_37 : decode cX10_reliefOf 37 = .ok (.iload_n 3, 1) := by decide +kernel
theorem dX10_reliefOf_38 : decode cX10_reliefOf 38 = .ok (.if_icmp .ne 7, 3) := by decide +kernel
theorem dX10_reliefOf_41 : decode cX10_reliefOf 41 = .ok (.iconst 1, 1) := by decide +kernel
theorem dX10_reliefOf_42 : decode cX10_reliefOf 42 = .ok (.goto 4, 3) := by decide +kernel
theorem dX10_reliefOf_45 : decode cX10_reliefOf 45 = .ok (.iconst 0, 1) := by decide +kernel
theorem dX10_reliefOf_46 : decode cX10_reliefOf 46 = .ok (.istore 6, 2) := by decide +kernel
theorem dX10_reliefOf_48 : decode cX10_reliefOf 48 = .ok (.iload 4, 2) := by decide +kernel
theorem dX10_reliefOf_50 : decode cX10_reliefOf 50 = .ok (.iload 6, 2) := by decide +kernel
theorem dX10_reliefOf_52 : decode cX10_reliefOf 52 = .ok (.ifCond .eq 17, 3) := by decide +kernel
theorem dX10_reliefOf_55 : decode cX10_reliefOf 55 = .ok (.aload_n 0, 1) := by decide +kernel
theorem dX10_reliefOf_56 : decode cX10_reliefOf 56 = .ok (.iload 5, 2) := by decide +kernel
theorem dX10_reliefOf_58 : decode cX10_reliefOf 58 = .ok (.iload_n 1, 1) := by decide +kernel
theorem dX10_reliefOf_59 : decode cX10_reliefOf 59 = .ok (.invokevirtual 120, 3) := by decide +kernel
theorem dX10_reliefOf_62 : decode cX10_reliefOf 62 = .ok (.ifCond .eq 7, 3) := by decide +kernel
theorem dX10_reliefOf_65 : decode cX10_reliefOf 65 = .ok (.iconst 2, 1) := by decide +kernel
theorem dX10_reliefOf_66 : decode cX10_reliefOf 66 = .ok (.goto 4, 3) := by decide +kernel
theorem dX10_reliefOf_69 : decode cX10_reliefOf 69 = .ok (.iconst 0, 1) := by decide +kernel
theorem dX10_reliefOf_70 : decode cX10_reliefOf 70 = .ok (.iadd, 1) := by decide +kernel
theorem dX10_reliefOf_71 : decode cX10_reliefOf 71 = .ok (.istore 4, 2) := by decide +kernel
theorem dX10_reliefOf_73 : decode cX10_reliefOf 73 = .ok (.iload 6, 2) := by decide +kernel
theorem dX10_reliefOf_75 : decode cX10_reliefOf 75 = .ok (.ifCond .eq 15, 3) := by decide +kernel
theorem dX10_reliefOf_78 : decode cX10_reliefOf 78 = .ok (.aload_n 0, 1) := by decide +kernel
theorem dX10_reliefOf_79 : decode cX10_reliefOf 79 = .ok (.iload_n 1, 1) := by decide +kernel
theorem dX10_reliefOf_80 : decode cX10_reliefOf 80 = .ok (.iload 5, 2) := by decide +kernel
theorem dX10_reliefOf_82 : decode cX10_reliefOf 82 = .ok (.invokevirtual 120, 3) := by decide +kernel
theorem dX10_reliefOf_85 : decode cX10_reliefOf 85 = .ok (.ifCond .eq 5, 3) := by decide +kernel
theorem dX10_reliefOf_88 : decode cX10_reliefOf 88 = .ok (.iconst 0, 1) := by decide +kernel
theorem dX10_reliefOf_89 : decode cX10_reliefOf 89 = .ok (.ireturn, 1) := by decide +kernel
theorem dX10_reliefOf_90 : decode cX10_reliefOf 90 = .ok (.iinc 5 1, 3) := by decide +kernel
theorem dX10_reliefOf_93 : decode cX10_reliefOf 93 = .ok (.goto (-74), 3) := by decide +kernel
theorem dX10_reliefOf_96 : decode cX10_reliefOf 96 = .ok (.iconst 0, 1) := by decide +kernel
theorem dX10_reliefOf_97 : decode cX10_reliefOf 97 = .ok (.iload 4, 2) := by decide +kernel
theorem dX10_reliefOf_99 : decode cX10_reliefOf 99 = .ok (.aload_n 0, 1) := by decide +kernel
theorem dX10_reliefOf_100 : decode cX10_reliefOf 100 = .ok (.getfield 9, 3) := by decide +kernel
theorem dX10_reliefOf_103 : decode cX10_reliefOf 103 = .ok (.sipush 489, 3) := by decide +kernel
theorem dX10_reliefOf_106 : decode cX10_reliefOf 106 = .ok (.iload_n 2, 1) := by decide +kernel
theorem dX10_reliefOf_107 : decode cX10_reliefOf 107 = .ok (.iadd, 1) := by decide +kernel
theorem dX10_reliefOf_108 : decode cX10_reliefOf 108 = .ok (.iaload, 1) := by decide +kernel
theorem dX10_reliefOf_109 : decode cX10_reliefOf 109 = .ok (.imul, 1) := by decide +kernel
theorem dX10_reliefOf_110 : decode cX10_reliefOf 110 = .ok (.aload_n 0, 1) := by decide +kernel
theorem dX10_reliefOf_111 : decode cX10_reliefOf 111 = .ok (.getfield 9, 3) := by decide +kernel
theorem dX10_reliefOf_114 : decode cX10_reliefOf 114 = .ok (.bipush 119, 2) := by decide +kernel
theorem dX10_reliefOf_116 : decode cX10_reliefOf 116 = .ok (.iload_n 1, 1) := by decide +kernel
theorem dX10_reliefOf_117 : decode cX10_reliefOf 117 = .ok (.iadd, 1) := by decide +kernel
theorem dX10_reliefOf_118 : decode cX10_reliefOf 118 = .ok (.iaload, 1) := by decide +kernel
theorem dX10_reliefOf_119 : decode cX10_reliefOf 119 = .ok (.isub, 1) := by decide +kernel
theorem dX10_reliefOf_120 : decode cX10_reliefOf 120 = .ok (.invokestatic 104, 3) := by decide +kernel
theorem dX10_reliefOf_123 : decode cX10_reliefOf 123 = .ok (.ireturn, 1) := by decide +kernel
theorem dX10_relief_0 : decode cX10_relief 0 = .ok (.aload_n 0, 1) := by decide +kernel
theorem dX10_relief_1 : decode cX10_relief 1 = .ok (.iload_n 1, 1) := by decide +kernel
theorem dX10_relief_2 : decode cX10_relief 2 = .ok (.invokevirtual 59, 3) := by decide +kernel
theorem dX10_relief_5 : decode cX10_relief 5 = .ok (.ifCond .eq 10, 3) := by decide +kernel
theorem dX10_relief_8 : decode cX10_relief 8 = .ok (.iload_n 2, 1) := by decide +kernel
theorem dX10_relief_9 : decode cX10_relief 9 = .ok (.invokestatic 114, 3) := by decide +kernel
theorem dX10_relief_12 : decode cX10_relief 12 = .ok (.ifCond .ne 10, 3) := by decide +kernel
theorem dX10_relief_15 : decode cX10_relief 15 = .ok (.aload_n 0, 1) := by decide +kernel
theorem dX10_relief_16 : decode cX10_relief 16 = .ok (.ldc 45, 2) := by decide +kernel
theorem dX10_relief_18 : decode cX10_relief 18 = .ok (.invokevirtual 46, 3) := by decide +kernel
theorem dX10_relief_21 : decode cX10_relief 21 = .ok (.ireturn, 1) := by decide +kernel
theorem dX10_relief_22 : decode cX10_relief 22 = .ok (.aload_n 0, 1) := by decide +kernel
theorem dX10_relief_23 : decode cX10_relief 23 = .ok (.iload_n 1, 1) := by decide +kernel
theorem dX10_relief_24 : decode cX10_relief 24 = .ok (.iload_n 2, 1) := by decide +kernel
theorem dX10_relief_25 : decode cX10_relief 25 = .ok (.invokevirtual 117, 3) := by decide +kernel
theorem dX10_relief_28 : decode cX10_relief 28 = .ok (.ifCond .ge 10, 3) := by decide +kernel
theorem dX10_relief_31 : decode cX10_relief 31 = .ok (.aload_n 0, 1) := by decide +kernel
theorem dX10_relief_32 : decode cX10_relief 32 = .ok (.ldc 72, 2) := by decide +kernel
theorem dX10_relief_34 : decode cX10_relief 34 = .ok (.invokevirtual 46, 3) := by decide +kernel
theorem dX10_relief_37 : decode cX10_relief 37 = .ok (.ireturn, 1) := by decide +kernel
theorem dX10_relief_38 : decode cX10_relief 38 = .ok (.aload_n 0, 1) := by decide +kernel
theorem dX10_relief_39 : decode cX10_relief 39 = .ok (.getfield 9, 3) := by decide +kernel
theorem dX10_relief_42 : decode cX10_relief 42 = .ok (.sipush 489, 3) := by decide +kernel
theorem dX10_relief_45 : decode cX10_relief 45 = .ok (.iload_n 2, 1) := by decide +kernel
theorem dX10_relief_46 : decode cX10_relief 46 = .ok (.iadd, 1) := by decide +kernel
theorem dX10_relief_47 : decode cX10_relief 47 = .ok (.iaload, 1) := by decide +kernel
theorem dX10_relief_48 : decode cX10_relief 48 = .ok (.ifCond .ne 12, 3) := by decide +kernel
theorem dX10_relief_51 : decode cX10_relief 51 = .ok (.aload_n 0, 1) := by decide +kernel
theorem dX10_relief_52 : decode cX10_relief 52 = .ok (.ldc 123, 2) := by decide +kernel
theorem dX10_relief_54 : decode cX10_relief 54 = .ok (.invokevirtual 46, 3) := by decide +kernel
theorem dX10_relief_57 : decode cX10_relief 57 = .ok (.goto 9, 3) := by decide +kernel
theorem dX10_relief_60 : decode cX10_relief 60 = .ok (.aload_n 0, 1) := by decide +kernel
theorem dX10_relief_61 : decode cX10_relief 61 = .ok (.iload_n 1, 1) := by decide +kernel
theorem dX10_relief_62 : decode cX10_relief 62 = .ok (.iload_n 2, 1) := by decide +kernel
theorem dX10_relief_63 : decode cX10_relief 63 = .ok (.invokevirtual 124, 3) := by decide +kernel
theorem dX10_relief_66 : decode cX10_relief 66 = .ok (.ireturn, 1) := by decide +kernel
theorem dX10_week_0 : decode cX10_week 0 = .ok (.aload_n 0, 1) := by decide +kernel
theorem dX10_week_1 : decode cX10_week 1 = .ok (.iload_n 1, 1) := by decide +kernel
theorem dX10_week_2 : decode cX10_week 2 = .ok (.invokevirtual 51, 3) := by decide +kernel
theorem dX10_week_5 : decode cX10_week 5 = .ok (.ifCond .eq 10, 3) := by decide +kernel
theorem dX10_week_8 : decode cX10_week 8 = .ok (.iload_n 2, 1) := by decide +kernel
theorem dX10_week_9 : decode cX10_week 9 = .ok (.invokestatic 114, 3) := by decide +kernel
theorem dX10_week_12 : decode cX10_week 12 = .ok (.ifCond .ne 10, 3) := by decide +kernel
theorem dX10_week_15 : decode cX10_week 15 = .ok (.aload_n 0, 1) := by decide +kernel
theorem dX10_week_16 : decode cX10_week 16 = .ok (.ldc 45, 2) := by decide +kernel
theorem dX10_week_18 : decode cX10_week 18 = .ok (.invokevirtual 46, 3) := by decide +kernel
theorem dX10_week_21 : decode cX10_week 21 = .ok (.ireturn, 1) := by decide +kernel
theorem dX10_week_22 : decode cX10_week 22 = .ok (.aload_n 0, 1) := by decide +kernel
theorem dX10_week_23 : decode cX10_week 23 = .ok (.getfield 9, 3) := by decide +kernel
theorem dX10_week_26 : decode cX10_week 26 = .ok (.sipush 489, 3) := by decide +kernel
theorem dX10_week_29 : decode cX10_week 29 = .ok (.iload_n 2, 1) := by decide +kernel
theorem dX10_week_30 : decode cX10_week 30 = .ok (.iadd, 1) := by decide +kernel
theorem dX10_week_31 : decode cX10_week 31 = .ok (.iaload, 1) := by decide +kernel
theorem dX10_week_32 : decode cX10_week 32 = .ok (.ifCond .ne 10, 3) := by decide +kernel
theorem dX10_week_35 : decode cX10_week 35 = .ok (.aload_n 0, 1) := by decide +kernel
theorem dX10_week_36 : decode cX10_week 36 = .ok (.ldc 123, 2) := by decide +kernel
theorem dX10_week_38 : decode cX10_week 38 = .ok (.invokevirtual 46, 3) := by decide +kernel
theorem dX10_week_41 : decode cX10_week 41 = .ok (.ireturn, 1) := by decide +kernel
theorem dX10_week_42 : decode cX10_week 42 = .ok (.iconst 0, 1) := by decide +kernel
theorem dX10_week_43 : decode cX10_week 43 = .ok (.istore_n 3, 1) := by decide +kernel
theorem dX10_week_44 : decode cX10_week 44 = .ok (.iconst 0, 1) := by decide +kernel
theorem dX10_week_45 : decode cX10_week 45 = .ok (.istore 4, 2) := by decide +kernel
theorem dX10_week_47 : decode cX10_week 47 = .ok (.iload 4, 2) := by decide +kernel
theorem dX10_week_49 : decode cX10_week 49 = .ok (.aload_n 0, 1) := by decide +kernel
theorem dX10_week_50 : decode cX10_week 50 = .ok (.getfield 9, 3) := by decide +kernel
theorem dX10_week_53 : decode cX10_week 53 = .ok (.iconst 1, 1) := by decide +kernel
theorem dX10_week_54 : decode cX10_week 54 = .ok (.iaload, 1) := by decide +kernel
theorem dX10_week_55 : decode cX10_week 55 = .ok (.if_icmp .ge 34, 3) := by decide +kernel
theorem dX10_week_58 : decode cX10_week 58 = .ok (.iload_n 3, 1) := by decide +kernel
theorem dX10_week_59 : decode cX10_week 59 = .ok (.aload_n 0, 1) := by decide +kernel
theorem dX10_week_60 : decode cX10_week 60 = .ok (.iload 4, 2) := by decide +kernel
theorem dX10_week_62 : decode cX10_week 62 = .ok (.iload_n 2, 1) := by decide +kernel
theorem dX10_week_63 : decode cX10_week 63 = .ok (.invokevirtual 117, 3) := by decide +kernel
theorem dX10_week_66 : decode cX10_week 66 = .ok (.iload_n 1, 1) := by decide +kernel
theorem dX10_week_67 : decode cX10_week 67 = .ok (.if_icmp .ne 13, 3) := by decide +kernel
theorem dX10_week_70 : decode cX10_week 70 = .ok (.aload_n 0, 1) := by decide +kernel
theorem dX10_week_71 : decode cX10_week 71 = .ok (.iload 4, 2) := by decide +kernel
theorem dX10_week_73 : decode cX10_week 73 = .ok (.iload_n 2, 1) := by decide +kernel
theorem dX10_week_74 : decode cX10_week 74 = .ok (.invokevirtual 124, 3) := by decide +kernel
theorem dX10_week_77 : decode cX10_week 77 = .ok (.goto 4, 3) := by decide +kernel
theorem dX10_week_80 : decode cX10_week 80 = .ok (.iconst 0, 1) := by decide +kernel
theorem dX10_week_81 : decode cX10_week 81 = .ok (.iadd, 1) := by decide +kernel
theorem dX10_week_82 : decode cX10_week 82 = .ok (.istore_n 3, 1) := by decide +kernel
theorem dX10_week_83 : decode cX10_week 83 = .ok (.iinc 4 1, 3) := by decide +kernel
theorem dX10_week_86 : decode cX10_week 86 = .ok (.goto (-39), 3) := by decide +kernel
theorem dX10_week_89 : decode cX10_week 89 = .ok (.iload_n 3, 1) := by decide +kernel
theorem dX10_week_90 : decode cX10_week 90 = .ok (.ireturn, 1) := by decide +kernel
theorem dX10_rate_0 : decode cX10_rate 0 = .ok (.aload_n 0, 1) := by decide +kernel
theorem dX10_rate_1 : decode cX10_rate 1 = .ok (.iload_n 1, 1) := by decide +kernel
theorem dX10_rate_2 : decode cX10_rate 2 = .ok (.invokevirtual 51, 3) := by decide +kernel
theorem dX10_rate_5 : decode cX10_rate 5 = .ok (.ifCond .eq 14, 3) := by decide +kernel
theorem dX10_rate_8 : decode cX10_rate 8 = .ok (.iload_n 2, 1) := by decide +kernel
theorem dX10_rate_9 : decode cX10_rate 9 = .ok (.iconst 0, 1) := by decide +kernel
theorem dX10_rate_10 : decode cX10_rate 10 = .ok (.sipush 10000, 3) := by decide +kernel
theorem dX10_rate_13 : decode cX10_rate 13 = .ok (.invokestatic 41, 3) := by decide +kernel
theorem dX10_rate_16 : decode cX10_rate 16 = .ok (.ifCond .ne 10, 3) := by decide +kernel
theorem dX10_rate_19 : decode cX10_rate 19 = .ok (.aload_n 0, 1) := by decide +kernel
theorem dX10_rate_20 : decode cX10_rate 20 = .ok (.ldc 45, 2) := by decide +kernel
theorem dX10_rate_22 : decode cX10_rate 22 = .ok (.invokevirtual 46, 3) := by decide +kernel
theorem dX10_rate_25 : decode cX10_rate 25 = .ok (.ireturn, 1) := by decide +kernel
theorem dX10_rate_26 : decode cX10_rate 26 = .ok (.iconst 0, 1) := by decide +kernel
theorem dX10_rate_27 : decode cX10_rate 27 = .ok (.istore_n 3, 1) := by decide +kernel
theorem dX10_rate_28 : decode cX10_rate 28 = .ok (.iconst 0, 1) := by decide +kernel
theorem dX10_rate_29 : decode cX10_rate 29 = .ok (.istore 4, 2) := by decide +kernel
theorem dX10_rate_31 : decode cX10_rate 31 = .ok (.iload 4, 2) := by decide +kernel
theorem dX10_rate_33 : decode cX10_rate 33 = .ok (.aload_n 0, 1) := by decide +kernel
theorem dX10_rate_34 : decode cX10_rate 34 = .ok (.getfield 9, 3) := by decide +kernel
theorem dX10_rate_37 : decode cX10_rate 37 = .ok (.iconst 0, 1) := by decide +kernel
theorem dX10_rate_38 : decode cX10_rate 38 = .ok (.iaload, 1) := by decide +kernel
theorem dX10_rate_39 : decode cX10_rate 39 = .ok (.if_icmp .ge 22, 3) := by decide +kernel
theorem dX10_rate_42 : decode cX10_rate 42 = .ok (.iload_n 3, 1) := by decide +kernel
theorem dX10_rate_43 : decode cX10_rate 43 = .ok (.aload_n 0, 1) := by decide +kernel
theorem dX10_rate_44 : decode cX10_rate 44 = .ok (.getfield 9, 3) := by decide +kernel
theorem dX10_rate_47 : decode cX10_rate 47 = .ok (.bipush 7, 2) := by decide +kernel
theorem dX10_rate_49 : decode cX10_rate 49 = .ok (.iload 4, 2) := by decide +kernel
theorem dX10_rate_51 : decode cX10_rate 51 = .ok (.iadd, 1) := by decide +kernel
theorem dX10_rate_52 : decode cX10_rate 52 = .ok (.iaload, 1) := by decide +kernel
theorem dX10_rate_53 : decode cX10_rate 53 = .ok (.iadd, 1) := by decide +kernel
theorem dX10_rate_54 : decode cX10_rate 54 = .ok (.istore_n 3, 1) := by decide +kernel
theorem dX10_rate_55 : decode cX10_rate 55 = .ok (.iinc 4 1, 3) := by decide +kernel
theorem dX10_rate_58 : decode cX10_rate 58 = .ok (.goto (-27), 3) := by decide +kernel
theorem dX10_rate_61 : decode cX10_rate 61 = .ok (.iload_n 3, 1) := by decide +kernel
theorem dX10_rate_62 : decode cX10_rate 62 = .ok (.ifCond .ne 10, 3) := by decide +kernel
theorem dX10_rate_65 : decode cX10_rate 65 = .ok (.aload_n 0, 1) := by decide +kernel
theorem dX10_rate_66 : decode cX10_rate 66 = .ok (.ldc 72, 2) := by decide +kernel
theorem dX10_rate_68 : decode cX10_rate 68 = .ok (.invokevirtual 46, 3) := by decide +kernel
theorem dX10_rate_71 : decode cX10_rate 71 = .ok (.ireturn, 1) := by decide +kernel
theorem dX10_rate_72 : decode cX10_rate 72 = .ok (.iload_n 2, 1) := by decide +kernel
theorem dX10_rate_73 : decode cX10_rate 73 = .ok (.istore 4, 2) := by decide +kernel
theorem dX10_rate_75 : decode cX10_rate 75 = .ok (.iconst 0, 1) := by decide +kernel
theorem dX10_rate_76 : decode cX10_rate 76 = .ok (.istore 5, 2) := by decide +kernel
theorem dX10_rate_78 : decode cX10_rate 78 = .ok (.aload_n 0, 1) := by decide +kernel
theorem dX10_rate_79 : decode cX10_rate 79 = .ok (.getfield 9, 3) := by decide +kernel
theorem dX10_rate_82 : decode cX10_rate 82 = .ok (.bipush 7, 2) := by decide +kernel
theorem dX10_rate_84 : decode cX10_rate 84 = .ok (.iload_n 1, 1) := by decide +kernel
theorem dX10_rate_85 : decode cX10_rate 85 = .ok (.iadd, 1) := by decide +kernel
theorem dX10_rate_86 : decode cX10_rate 86 = .ok (.iaload, 1) := by decide +kernel
theorem dX10_rate_87 : decode cX10_rate 87 = .ok (.iload_n 2, 1) := by decide +kernel
theorem dX10_rate_88 : decode cX10_rate 88 = .ok (.imul, 1) := by decide +kernel
theorem dX10_rate_89 : decode cX10_rate 89 = .ok (.iload_n 3, 1) := by decide +kernel
theorem dX10_rate_90 : decode cX10_rate 90 = .ok (.irem, 1) := by decide +kernel
theorem dX10_rate_91 : decode cX10_rate 91 = .ok (.istore 6, 2) := by decide +kernel
theorem dX10_rate_93 : decode cX10_rate 93 = .ok (.iconst 0, 1) := by decide +kernel
theorem dX10_rate_94 : decode cX10_rate 94 = .ok (.istore 7, 2) := by decide +kernel
theorem dX10_rate_96 : decode cX10_rate 96 = .ok (.iload 7, 2) := by decide +kernel
theorem dX10_rate_98 : decode cX10_rate 98 = .ok (.aload_n 0, 1) := by decide +kernel
theorem dX10_rate_99 : decode cX10_rate 99 = .ok (.getfield 9, 3) := by decide +kernel
theorem dX10_rate_102 : decode cX10_rate 102 = .ok (.iconst 0, 1) := by decide +kernel
theorem dX10_rate_103 : decode cX10_rate 103 = .ok (.iaload, 1) := by decide +kernel
theorem dX10_rate_104 : decode cX10_rate 104 = .ok (.if_icmp .ge 74, 3) := by decide +kernel
theorem dX10_rate_107 : decode cX10_rate 107 = .ok (.iload 4, 2) := by decide +kernel
theorem dX10_rate_109 : decode cX10_rate 109 = .ok (.aload_n 0, 1) := by decide +kernel
theorem dX10_rate_110 : decode cX10_rate 110 = .ok (.getfield 9, 3) := by decide +kernel
theorem dX10_rate_113 : decode cX10_rate 113 = .ok (.bipush 7, 2) := by decide +kernel
theorem dX10_rate_115 : decode cX10_rate 115 = .ok (.iload 7, 2) := by decide +kernel
theorem dX10_rate_117 : decode cX10_rate 117 = .ok (.iadd, 1) := by decide +kernel
theorem dX10_rate_118 : decode cX10_rate 118 = .ok (.iaload, 1) := by decide +kernel
theorem dX10_rate_119 : decode cX10_rate 119 = .ok (.iload_n 2, 1) := by decide +kernel
theorem dX10_rate_120 : decode cX10_rate 120 = .ok (.imul, 1) := by decide +kernel
theorem dX10_rate_121 : decode cX10_rate 121 = .ok (.iload_n 3, 1) := by decide +kernel
theorem dX10_rate_122 : decode cX10_rate 122 = .ok (.idiv, 1) := by decide +kernel
theorem dX10_rate_123 : decode cX10_rate 123 = .ok (.isub, 1) := by decide +kernel
theorem dX10_rate_124 : decode cX10_rate 124 = .ok (.istore 4, 2) := by decide +kernel
theorem dX10_rate_126 : decode cX10_rate 126 = .ok (.aload_n 0, 1) := by decide +kernel
theorem dX10_rate_127 : decode cX10_rate 127 = .ok (.getfield 9, 3) := by decide +kernel
theorem dX10_rate_130 : decode cX10_rate 130 = .ok (.bipush 7, 2) := by decide +kernel
theorem dX10_rate_132 : decode cX10_rate 132 = .ok (.iload 7, 2) := by decide +kernel
theorem dX10_rate_134 : decode cX10_rate 134 = .ok (.iadd, 1) := by decide +kernel
theorem dX10_rate_135 : decode cX10_rate 135 = .ok (.iaload, 1) := by decide +kernel
theorem dX10_rate_136 : decode cX10_rate 136 = .ok (.iload_n 2, 1) := by decide +kernel
theorem dX10_rate_137 : decode cX10_rate 137 = .ok (.imul, 1) := by decide +kernel
theorem dX10_rate_138 : decode cX10_rate 138 = .ok (.iload_n 3, 1) := by decide +kernel
theorem dX10_rate_139 : decode cX10_rate 139 = .ok (.irem, 1) := by decide +kernel
theorem dX10_rate_140 : decode cX10_rate 140 = .ok (.istore 8, 2) := by decide +kernel
theorem dX10_rate_142 : decode cX10_rate 142 = .ok (.iload 5, 2) := by decide +kernel
theorem dX10_rate_144 : decode cX10_rate 144 = .ok (.iload 8, 2) := by decide +kernel
theorem dX10_rate_146 : decode cX10_rate 146 = .ok (.iload 6, 2) := by decide +kernel
theorem dX10_rate_148 : decode cX10_rate 148 = .ok (.if_icmp .gt 16, 3) := by decide +kernel
theorem dX10_rate_151 : decode cX10_rate 151 = .ok (.iload 8, 2) := by decide +kernel
theorem dX10_rate_153 : decode cX10_rate 153 = .ok (.iload 6, 2) := by decide +kernel
theorem dX10_rate_155 : decode cX10_rate 155 = .ok (.if_icmp .ne 13, 3) := by decide +kernel
theorem dX10_rate_158 : decode cX10_rate 158 = .ok (.iload 7, 2) := by decide +kernel
theorem dX10_rate_160 : decode cX10_rate 160 = .ok (.iload_n 1, 1) := by decide +kernel
theorem dX10_rate_161 : decode cX10_rate 161 = .ok (.if_icmp .ge 7, 3) := by decide +kernel
theorem dX10_rate_164 : decode cX10_rate 164 = .ok (.iconst 1, 1) := by decide +kernel
theorem dX10_rate_165 : decode cX10_rate 165 = .ok (.goto 4, 3) := by decide +kernel
theorem dX10_rate_168 : decode cX10_rate 168 = .ok (.iconst 0, 1) := by decide +kernel
theorem dX10_rate_169 : decode cX10_rate 169 = .ok (.iadd, 1) := by decide +kernel
theorem dX10_rate_170 : decode cX10_rate 170 = .ok (.istore 5, 2) := by decide +kernel
theorem dX10_rate_172 : decode cX10_rate 172 = .ok (.iinc 7 1, 3) := by decide +kernel
theorem dX10_rate_175 : decode cX10_rate 175 = .ok (.goto (-79), 3) := by decide +kernel
theorem dX10_rate_178 : decode cX10_rate 178 = .ok (.aload_n 0, 1) := by decide +kernel
theorem dX10_rate_179 : decode cX10_rate 179 = .ok (.getfield 9, 3) := by decide +kernel
theorem dX10_rate_182 : decode cX10_rate 182 = .ok (.bipush 7, 2) := by decide +kernel
theorem dX10_rate_184 : decode cX10_rate 184 = .ok (.iload_n 1, 1) := by decide +kernel
theorem dX10_rate_185 : decode cX10_rate 185 = .ok (.iadd, 1) := by decide +kernel
theorem dX10_rate_186 : decode cX10_rate 186 = .ok (.iaload, 1) := by decide +kernel
theorem dX10_rate_187 : decode cX10_rate 187 = .ok (.iload_n 2, 1) := by decide +kernel
theorem dX10_rate_188 : decode cX10_rate 188 = .ok (.imul, 1) := by decide +kernel
theorem dX10_rate_189 : decode cX10_rate 189 = .ok (.iload_n 3, 1) := by decide +kernel
theorem dX10_rate_190 : decode cX10_rate 190 = .ok (.idiv, 1) := by decide +kernel
theorem dX10_rate_191 : decode cX10_rate 191 = .ok (.iload 5, 2) := by decide +kernel
theorem dX10_rate_193 : decode cX10_rate 193 = .ok (.iload 4, 2) := by decide +kernel
theorem dX10_rate_195 : decode cX10_rate 195 = .ok (.if_icmp .ge 7, 3) := by decide +kernel
theorem dX10_rate_198 : decode cX10_rate 198 = .ok (.iconst 1, 1) := by decide +kernel
theorem dX10_rate_199 : decode cX10_rate 199 = .ok (.goto 4, 3) := by decide +kernel
theorem dX10_rate_202 : decode cX10_rate 202 = .ok (.iconst 0, 1) := by decide +kernel
theorem dX10_rate_203 : decode cX10_rate 203 = .ok (.iadd, 1) := by decide +kernel
theorem dX10_rate_204 : decode cX10_rate 204 = .ok (.ireturn, 1) := by decide +kernel
theorem dX10_isSheet_0 : decode cX10_isSheet 0 = .ok (.iload_n 0, 1) := by decide +kernel
theorem dX10_isSheet_1 : decode cX10_isSheet 1 = .ok (.iconst 0, 1) := by decide +kernel
theorem dX10_isSheet_2 : decode cX10_isSheet 2 = .ok (.iconst 3, 1) := by decide +kernel
theorem dX10_isSheet_3 : decode cX10_isSheet 3 = .ok (.invokestatic 41, 3) := by decide +kernel
theorem dX10_isSheet_6 : decode cX10_isSheet 6 = .ok (.ireturn, 1) := by decide +kernel
theorem dX10_sheet_0 : decode cX10_sheet 0 = .ok (.iload_n 1, 1) := by decide +kernel
theorem dX10_sheet_1 : decode cX10_sheet 1 = .ok (.invokestatic 127, 3) := by decide +kernel
theorem dX10_sheet_4 : decode cX10_sheet 4 = .ok (.ifCond .eq 25, 3) := by decide +kernel
theorem dX10_sheet_7 : decode cX10_sheet 7 = .ok (.iload_n 2, 1) := by decide +kernel
theorem dX10_sheet_8 : decode cX10_sheet 8 = .ok (.ifCond .eq 28, 3) := by decide +kernel
theorem dX10_sheet_11 : decode cX10_sheet 11 = .ok (.iload_n 2, 1) := by decide +kernel
theorem dX10_sheet_12 : decode cX10_sheet 12 = .ok (.bipush 8, 2) := by decide +kernel
theorem dX10_sheet_14 : decode cX10_sheet 14 = .ok (.if_icmp .eq 22, 3) := by decide +kernel
theorem dX10_sheet_17 : decode cX10_sheet 17 = .ok (.iload_n 2, 1) := by decide +kernel
theorem dX10_sheet_18 : decode cX10_sheet 18 = .ok (.bipush 16, 2) := by decide +kernel
theorem dX10_sheet_20 : decode cX10_sheet 20 = .ok (.if_icmp .eq 16, 3) := by decide +kernel
theorem dX10_sheet_23 : decode cX10_sheet 23 = .ok (.iload_n 2, 1) := by decide +kernel
theorem dX10_sheet_24 : decode cX10_sheet 24 = .ok (.bipush 32, 2) := by decide +kernel
theorem dX10_sheet_26 : decode cX10_sheet 26 = .ok (.if_icmp .eq 10, 3) := by decide +kernel
theorem dX10_sheet_29 : decode cX10_sheet 29 = .ok (.aload_n 0, 1) := by decide +kernel
theorem dX10_sheet_30 : decode cX10_sheet 30 = .ok (.ldc 45, 2) := by decide +kernel
theorem dX10_sheet_32 : decode cX10_sheet 32 = .ok (.invokevirtual 46, 3) := by decide +kernel
theorem dX10_sheet_35 : decode cX10_sheet 35 = .ok (.ireturn, 1) := by decide +kernel
theorem dX10_sheet_36 : decode cX10_sheet 36 = .ok (.iload_n 3, 1) := by decide +kernel
theorem dX10_sheet_37 : decode cX10_sheet 37 = .ok (.ifCond .ge 10, 3) := by decide +kernel
theorem dX10_sheet_40 : decode cX10_sheet 40 = .ok (.aload_n 0, 1) := by decide +kernel
theorem dX10_sheet_41 : decode cX10_sheet 41 = .ok (.ldc 55, 2) := by decide +kernel
theorem dX10_sheet_43 : decode cX10_sheet 43 = .ok (.invokevirtual 46, 3) := by decide +kernel
theorem dX10_sheet_46 : decode cX10_sheet 46 = .ok (.ireturn, 1) := by decide +kernel
theorem dX10_sheet_47 : decode cX10_sheet 47 = .ok (.iload_n 3, 1) := by decide +kernel
theorem dX10_sheet_48 : decode cX10_sheet 48 = .ok (.bipush 60, 2) := by decide +kernel
theorem dX10_sheet_50 : decode cX10_sheet 50 = .ok (.if_icmp .le 10, 3) := by decide +kernel
theorem dX10_sheet_53 : decode cX10_sheet 53 = .ok (.aload_n 0, 1) := by decide +kernel
theorem dX10_sheet_54 : decode cX10_sheet 54 = .ok (.ldc 45, 2) := by decide +kernel
theorem dX10_sheet_56 : decode cX10_sheet 56 = .ok (.invokevirtual 46, 3) := by decide +kernel
theorem dX10_sheet_59 : decode cX10_sheet 59 = .ok (.ireturn, 1) := by decide +kernel
theorem dX10_sheet_60 : decode cX10_sheet 60 = .ok (.aload_n 0, 1) := by decide +kernel
theorem dX10_sheet_61 : decode cX10_sheet 61 = .ok (.getfield 16, 3) := by decide +kernel
theorem dX10_sheet_64 : decode cX10_sheet 64 = .ok (.iload_n 1, 1) := by decide +kernel
theorem dX10_sheet_65 : decode cX10_sheet 65 = .ok (.iload_n 2, 1) := by decide +kernel
theorem dX10_sheet_66 : decode cX10_sheet 66 = .ok (.iastore, 1) := by decide +kernel
theorem dX10_sheet_67 : decode cX10_sheet 67 = .ok (.aload_n 0, 1) := by decide +kernel
theorem dX10_sheet_68 : decode cX10_sheet 68 = .ok (.getfield 19, 3) := by decide +kernel
theorem dX10_sheet_71 : decode cX10_sheet 71 = .ok (.iload_n 1, 1) := by decide +kernel
theorem dX10_sheet_72 : decode cX10_sheet 72 = .ok (.iload_n 2, 1) := by decide +kernel
theorem dX10_sheet_73 : decode cX10_sheet 73 = .ok (.ifCond .ne 7, 3) := by decide +kernel
theorem dX10_sheet_76 : decode cX10_sheet 76 = .ok (.iconst 0, 1) := by decide +kernel
theorem dX10_sheet_77 : decode cX10_sheet 77 = .ok (.goto 4, 3) := by decide +kernel
theorem dX10_sheet_80 : decode cX10_sheet 80 = .ok (.iload_n 3, 1) := by decide +kernel
theorem dX10_sheet_81 : decode cX10_sheet 81 = .ok (.iastore, 1) := by decide +kernel
theorem dX10_sheet_82 : decode cX10_sheet 82 = .ok (.iconst 0, 1) := by decide +kernel
theorem dX10_sheet_83 : decode cX10_sheet 83 = .ok (.istore 4, 2) := by decide +kernel
theorem dX10_sheet_85 : decode cX10_sheet 85 = .ok (.iload 4, 2) := by decide +kernel
theorem dX10_sheet_87 : decode cX10_sheet 87 = .ok (.bipush 60, 2) := by decide +kernel
theorem dX10_sheet_89 : decode cX10_sheet 89 = .ok (.if_icmp .ge 22, 3) := by decide +kernel
theorem dX10_sheet_92 : decode cX10_sheet 92 = .ok (.aload_n 0, 1) := by decide +kernel
theorem dX10_sheet_93 : decode cX10_sheet 93 = .ok (.getfield 22, 3) := by decide +kernel
theorem dX10_sheet_96 : decode cX10_sheet 96 = .ok (.bipush 60, 2) := by decide +kernel
theorem dX10_sheet_98 : decode cX10_sheet 98 = .ok (.iload_n 1, 1) := by decide +kernel
theorem dX10_sheet_99 : decode cX10_sheet 99 = .ok (.imul, 1) := by decide +kernel
theorem dX10_sheet_100 : decode cX10_sheet 100 = .ok (.iload 4, 2) := by decide +kernel
theorem dX10_sheet_102 : decode cX10_sheet 102 = .ok (.iadd, 1) := by decide +kernel
theorem dX10_sheet_103 : decode cX10_sheet 103 = .ok (.iconst 0, 1) := by decide +kernel
theorem dX10_sheet_104 : decode cX10_sheet 104 = .ok (.iastore, 1) := by decide +kernel
theorem dX10_sheet_105 : decode cX10_sheet 105 = .ok (.iinc 4 1, 3) := by decide +kernel
theorem dX10_sheet_108 : decode cX10_sheet 108 = .ok (.goto (-23), 3) := by decide +kernel
theorem dX10_sheet_111 : decode cX10_sheet 111 = .ok (.aload_n 0, 1) := by decide +kernel
theorem dX10_sheet_112 : decode cX10_sheet 112 = .ok (.getfield 19, 3) := by decide +kernel
theorem dX10_sheet_115 : decode cX10_sheet 115 = .ok (.iload_n 1, 1) := by decide +kernel
theorem dX10_sheet_116 : decode cX10_sheet 116 = .ok (.iaload, 1) := by decide +kernel
theorem dX10_sheet_117 : decode cX10_sheet 117 = .ok (.ireturn, 1) := by decide +kernel
theorem dX10_put_0 : decode cX10_put 0 = .ok (.iload_n 1, 1) := by decide +kernel
theorem dX10_put_1 : decode cX10_put 1 = .ok (.invokestatic 127, 3) := by decide +kernel
theorem dX10_put_4 : decode cX10_put 4 = .ok (.ifCond .ne 10, 3) := by decide +kernel
theorem dX10_put_7 : decode cX10_put 7 = .ok (.aload_n 0, 1) := by decide +kernel
theorem dX10_put_8 : decode cX10_put 8 = .ok (.ldc 45, 2) := by decide +kernel
theorem dX10_put_10 : decode cX10_put 10 = .ok (.invokevirtual 46, 3) := by decide +kernel
theorem dX10_put_13 : decode cX10_put 13 = .ok (.ireturn, 1) := by decide +kernel
theorem dX10_put_14 : decode cX10_put 14 = .ok (.aload_n 0, 1) := by decide +kernel
theorem dX10_put_15 : decode cX10_put 15 = .ok (.getfield 16, 3) := by decide +kernel
theorem dX10_put_18 : decode cX10_put 18 = .ok (.iload_n 1, 1) := by decide +kernel
theorem dX10_put_19 : decode cX10_put 19 = .ok (.iaload, 1) := by decide +kernel
theorem dX10_put_20 : decode cX10_put 20 = .ok (.ifCond .ne 10, 3) := by decide +kernel
theorem dX10_put_23 : decode cX10_put 23 = .ok (.aload_n 0, 1) := by decide +kernel
theorem dX10_put_24 : decode cX10_put 24 = .ok (.ldc 123, 2) := by decide +kernel
theorem dX10_put_26 : decode cX10_put 26 = .ok (.invokevirtual 46, 3) := by decide +kernel
theorem dX10_put_29 : decode cX10_put 29 = .ok (.ireturn, 1) := by decide +kernel
theorem dX10_put_30 : decode cX10_put 30 = .ok (.iload_n 2, 1) := by decide +kernel
theorem dX10_put_31 : decode cX10_put 31 = .ok (.iconst 0, 1) := by decide +kernel
theorem dX10_put_32 : decode cX10_put 32 = .ok (.aload_n 0, 1) := by decide +kernel
theorem dX10_put_33 : decode cX10_put 33 = .ok (.getfield 19, 3) := by decide +kernel
theorem dX10_put_36 : decode cX10_put 36 = .ok (.iload_n 1, 1) := by decide +kernel
theorem dX10_put_37 : decode cX10_put 37 = .ok (.iaload, 1) := by decide +kernel
theorem dX10_put_38 : decode cX10_put 38 = .ok (.iconst 1, 1) := by decide +kernel
theorem dX10_put_39 : decode cX10_put 39 = .ok (.isub, 1) := by decide +kernel
theorem dX10_put_40 : decode cX10_put 40 = .ok (.invokestatic 41, 3) := by decide +kernel
theorem dX10_put_43 : decode cX10_put 43 = .ok (.ifCond .ne 10, 3) := by decide +kernel
theorem dX10_put_46 : decode cX10_put 46 = .ok (.aload_n 0, 1) := by decide +kernel
theorem dX10_put_47 : decode cX10_put 47 = .ok (.ldc 45, 2) := by decide +kernel
theorem dX10_put_49 : decode cX10_put 49 = .ok (.invokevirtual 46, 3) := by decide +kernel
theorem dX10_put_52 : decode cX10_put 52 = .ok (.ireturn, 1) := by decide +kernel
theorem dX10_put_53 : decode cX10_put 53 = .ok (.bipush 32, 2) := by decide +kernel
theorem dX10_put_55 : decode cX10_put 55 = .ok (.aload_n 0, 1) := by decide +kernel
theorem dX10_put_56 : decode cX10_put 56 = .ok (.getfield 16, 3) := by decide +kernel
theorem dX10_put_59 : decode cX10_put 59 = .ok (.iload_n 1, 1) := by decide +kernel
theorem dX10_put_60 : decode cX10_put 60 = .ok (.iaload, 1) := by decide +kernel
theorem dX10_put_61 : decode cX10_put 61 = .ok (.isub, 1) := by decide +kernel
theorem dX10_put_62 : decode cX10_put 62 = .ok (.istore 4, 2) := by decide +kernel
theorem dX10_put_64 : decode cX10_put 64 = .ok (.aload_n 0, 1) := by decide +kernel
theorem dX10_put_65 : decode cX10_put 65 = .ok (.getfield 22, 3) := by decide +kernel
theorem dX10_put_68 : decode cX10_put 68 = .ok (.bipush 60, 2) := by decide +kernel
theorem dX10_put_70 : decode cX10_put 70 = .ok (.iload_n 1, 1) := by decide +kernel
theorem dX10_put_71 : decode cX10_put 71 = .ok (.imul, 1) := by decide +kernel
theorem dX10_put_72 : decode cX10_put 72 = .ok (.iload_n 2, 1) := by decide +kernel
theorem dX10_put_73 : decode cX10_put 73 = .ok (.iadd, 1) := by decide +kernel
theorem dX10_put_74 : decode cX10_put 74 = .ok (.iload_n 3, 1) := by decide +kernel
theorem dX10_put_75 : decode cX10_put 75 = .ok (.iload 4, 2) := by decide +kernel
theorem dX10_put_77 : decode cX10_put 77 = .ok (.ishl, 1) := by decide +kernel
theorem dX10_put_78 : decode cX10_put 78 = .ok (.iload 4, 2) := by decide +kernel
theorem dX10_put_80 : decode cX10_put 80 = .ok (.ishr, 1) := by decide +kernel
theorem dX10_put_81 : decode cX10_put 81 = .ok (.iastore, 1) := by decide +kernel
theorem dX10_put_82 : decode cX10_put 82 = .ok (.iconst 0, 1) := by decide +kernel
theorem dX10_put_83 : decode cX10_put 83 = .ok (.ireturn, 1) := by decide +kernel
theorem dX10_copy_0 : decode cX10_copy 0 = .ok (.iload_n 1, 1) := by decide +kernel
theorem dX10_copy_1 : decode cX10_copy 1 = .ok (.invokestatic 127, 3) := by decide +kernel
theorem dX10_copy_4 : decode cX10_copy 4 = .ok (.ifCond .eq 10, 3) := by decide +kernel
theorem dX10_copy_7 : decode cX10_copy 7 = .ok (.iload_n 3, 1) := by decide +kernel
theorem dX10_copy_8 : decode cX10_copy 8 = .ok (.invokestatic 127, 3) := by decide +kernel
theorem dX10_copy_11 : decode cX10_copy 11 = .ok (.ifCond .ne 10, 3) := by decide +kernel
theorem dX10_copy_14 : decode cX10_copy 14 = .ok (.aload_n 0, 1) := by decide +kernel
theorem dX10_copy_15 : decode cX10_copy 15 = .ok (.ldc 45, 2) := by decide +kernel
theorem dX10_copy_17 : decode cX10_copy 17 = .ok (.invokevirtual 46, 3) := by decide +kernel
theorem dX10_copy_20 : decode cX10_copy 20 = .ok (.ireturn, 1) := by decide +kernel
theorem dX10_copy_21 : decode cX10_copy 21 = .ok (.aload_n 0, 1) := by decide +kernel
theorem dX10_copy_22 : decode cX10_copy 22 = .ok (.getfield 16, 3) := by decide +kernel
theorem dX10_copy_25 : decode cX10_copy 25 = .ok (.iload_n 1, 1) := by decide +kernel
theorem dX10_copy_26 : decode cX10_copy 26 = .ok (.iaload, 1) := by decide +kernel
theorem dX10_copy_27 : decode cX10_copy 27 = .ok (.ifCond .eq 12, 3) := by decide +kernel
theorem dX10_copy_30 : decode cX10_copy 30 = .ok (.aload_n 0, 1) := by decide +kernel
theorem dX10_copy_31 : decode cX10_copy 31 = .ok (.getfield 16, 3) := by decide +kernel
theorem dX10_copy_34 : decode cX10_copy 34 = .ok (.iload_n 3, 1) := by decide +kernel
theorem dX10_copy_35 : decode cX10_copy 35 = .ok (.iaload, 1) := by decide +kernel
theorem dX10_copy_36 : decode cX10_copy 36 = .ok (.ifCond .ne 10, 3) := by decide +kernel
theorem dX10_copy_39 : decode cX10_copy 39 = .ok (.aload_n 0, 1) := by decide +kernel
theorem dX10_copy_40 : decode cX10_copy 40 = .ok (.ldc 123, 2) := by decide +kernel
theorem dX10_copy_42 : decode cX10_copy 42 = .ok (.invokevirtual 46, 3) := by decide +kernel
theorem dX10_copy_45 : decode cX10_copy 45 = .ok (.ireturn, 1) := by decide +kernel
theorem dX10_copy_46 : decode cX10_copy 46 = .ok (.aload_n 0, 1) := by decide +kernel
theorem dX10_copy_47 : decode cX10_copy 47 = .ok (.getfield 16, 3) := by decide +kernel
theorem dX10_copy_50 : decode cX10_copy 50 = .ok (.iload_n 1, 1) := by decide +kernel
theorem dX10_copy_51 : decode cX10_copy 51 = .ok (.iaload, 1) := by decide +kernel
theorem dX10_copy_52 : decode cX10_copy 52 = .ok (.aload_n 0, 1) := by decide +kernel
theorem dX10_copy_53 : decode cX10_copy 53 = .ok (.getfield 16, 3) := by decide +kernel
theorem dX10_copy_56 : decode cX10_copy 56 = .ok (.iload_n 3, 1) := by decide +kernel
theorem dX10_copy_57 : decode cX10_copy 57 = .ok (.iaload, 1) := by decide +kernel
theorem dX10_copy_58 : decode cX10_copy 58 = .ok (.if_icmp .eq 10, 3) := by decide +kernel
theorem dX10_copy_61 : decode cX10_copy 61 = .ok (.aload_n 0, 1) := by decide +kernel
theorem dX10_copy_62 : decode cX10_copy 62 = .ok (.ldc 62, 2) := by decide +kernel
theorem dX10_copy_64 : decode cX10_copy 64 = .ok (.invokevirtual 46, 3) := by decide +kernel
theorem dX10_copy_67 : decode cX10_copy 67 = .ok (.ireturn, 1) := by decide +kernel
theorem dX10_copy_68 : decode cX10_copy 68 = .ok (.iload_n 2, 1) := by decide +kernel
theorem dX10_copy_69 : decode cX10_copy 69 = .ok (.ifCond .lt 48, 3) := by decide +kernel
theorem dX10_copy_72 : decode cX10_copy 72 = .ok (.iload 4, 2) := by decide +kernel
theorem dX10_copy_74 : decode cX10_copy 74 = .ok (.ifCond .lt 43, 3) := by decide +kernel
theorem dX10_copy_77 : decode cX10_copy 77 = .ok (.iload 5, 2) := by decide +kernel
theorem dX10_copy_79 : decode cX10_copy 79 = .ok (.ifCond .lt 38, 3) := by decide +kernel
theorem dX10_copy_82 : decode cX10_copy 82 = .ok (.iload_n 2, 1) := by decide +kernel
theorem dX10_copy_83 : decode cX10_copy 83 = .ok (.i2l, 1) := by decide +kernel
theorem dX10_copy_84 : decode cX10_copy 84 = .ok (.iload 5, 2) := by decide +kernel
theorem dX10_copy_86 : decode cX10_copy 86 = .ok (.i2l, 1) := by decide +kernel
theorem dX10_copy_87 : decode cX10_copy 87 = .ok (.ladd, 1) := by decide +kernel
theorem dX10_copy_88 : decode cX10_copy 88 = .ok (.aload_n 0, 1) := by decide +kernel
theorem dX10_copy_89 : decode cX10_copy 89 = .ok (.getfield 19, 3) := by decide +kernel
theorem dX10_copy_92 : decode cX10_copy 92 = .ok (.iload_n 1, 1) := by decide +kernel
theorem dX10_copy_93 : decode cX10_copy 93 = .ok (.iaload, 1) := by decide +kernel
theorem dX10_copy_94 : decode cX10_copy 94 = .ok (.i2l, 1) := by decide +kernel
theorem dX10_copy_95 : decode cX10_copy 95 = .ok (.lcmp, 1) := by decide +kernel
theorem dX10_copy_96 : decode cX10_copy 96 = .ok (.ifCond .gt 21, 3) := by decide +kernel
theorem dX10_copy_99 : decode cX10_copy 99 = .ok (.iload 4, 2) := by decide +kernel
theorem dX10_copy_101 : decode cX10_copy 101 = .ok (.i2l, 1) := by decide +kernel
theorem dX10_copy_102 : decode cX10_copy 102 = .ok (.iload 5, 2) := by decide +kernel
theorem dX10_copy_104 : decode cX10_copy 104 = .ok (.i2l, 1) := by decide +kernel
theorem dX10_copy_105 : decode cX10_copy 105 = .ok (.ladd, 1) := by decide +kernel
theorem dX10_copy_106 : decode cX10_copy 106 = .ok (.aload_n 0, 1) := by decide +kernel
theorem dX10_copy_107 : decode cX10_copy 107 = .ok (.getfield 19, 3) := by decide +kernel
theorem dX10_copy_110 : decode cX10_copy 110 = .ok (.iload_n 3, 1) := by decide +kernel
theorem dX10_copy_111 : decode cX10_copy 111 = .ok (.iaload, 1) := by decide +kernel
theorem dX10_copy_112 : decode cX10_copy 112 = .ok (.i2l, 1) := by decide +kernel
theorem dX10_copy_113 : decode cX10_copy 113 = .ok (.lcmp, 1) := by decide +kernel
theorem dX10_copy_114 : decode cX10_copy 114 = .ok (.ifCond .le 10, 3) := by decide +kernel
theorem dX10_copy_117 : decode cX10_copy 117 = .ok (.aload_n 0, 1) := by decide +kernel
theorem dX10_copy_118 : decode cX10_copy 118 = .ok (.ldc 45, 2) := by decide +kernel
theorem dX10_copy_120 : decode cX10_copy 120 = .ok (.invokevirtual 46, 3) := by decide +kernel
theorem dX10_copy_123 : decode cX10_copy 123 = .ok (.ireturn, 1) := by decide +kernel
theorem dX10_copy_124 : decode cX10_copy 124 = .ok (.iconst 0, 1) := by decide +kernel
theorem dX10_copy_125 : decode cX10_copy 125 = .ok (.istore 6, 2) := by decide +kernel
theorem dX10_copy_127 : decode cX10_copy 127 = .ok (.iload 6, 2) := by decide +kernel
theorem dX10_copy_129 : decode cX10_copy 129 = .ok (.iload 5, 2) := by decide +kernel
theorem dX10_copy_131 : decode cX10_copy 131 = .ok (.if_icmp .ge 30, 3) := by decide +kernel
theorem dX10_copy_134 : decode cX10_copy 134 = .ok (.aload_n 0, 1) := by decide +kernel
theorem dX10_copy_135 : decode cX10_copy 135 = .ok (.getfield 34, 3) := by decide +kernel
theorem dX10_copy_138 : decode cX10_copy 138 = .ok (.iload 6, 2) := by decide +kernel
theorem dX10_copy_140 : decode cX10_copy 140 = .ok (.aload_n 0, 1) := by decide +kernel
theorem dX10_copy_141 : decode cX10_copy 141 = .ok (.getfield 22, 3) := by decide +kernel
theorem dX10_copy_144 : decode cX10_copy 144 = .ok (.bipush 60, 2) := by decide +kernel
theorem dX10_copy_146 : decode cX10_copy 146 = .ok (.iload_n 1, 1) := by decide +kernel
theorem dX10_copy_147 : decode cX10_copy 147 = .ok (.imul, 1) := by decide +kernel
theorem dX10_copy_148 : decode cX10_copy 148 = .ok (.iload_n 2, 1) := by decide +kernel
theorem dX10_copy_149 : decode cX10_copy 149 = .ok (.iadd, 1) := by decide +kernel
theorem dX10_copy_150 : decode cX10_copy 150 = .ok (.iload 6, 2) := by decide +kernel
theorem dX10_copy_152 : decode cX10_copy 152 = .ok (.iadd, 1) := by decide +kernel
theorem dX10_copy_153 : decode cX10_copy 153 = .ok (.iaload, 1) := by decide +kernel
theorem dX10_copy_154 : decode cX10_copy 154 = .ok (.iastore, 1) := by decide +kernel
theorem dX10_copy_155 : decode cX10_copy 155 = .ok (.iinc 6 1, 3) := by decide +kernel
theorem dX10_copy_158 : decode cX10_copy 158 = .ok (.goto (-31), 3) := by decide +kernel
theorem dX10_copy_161 : decode cX10_copy 161 = .ok (.iconst 0, 1) := by decide +kernel
theorem dX10_copy_162 : decode cX10_copy 162 = .ok (.istore 6, 2) := by decide +kernel
theorem dX10_copy_164 : decode cX10_copy 164 = .ok (.iload 6, 2) := by decide +kernel
theorem dX10_copy_166 : decode cX10_copy 166 = .ok (.iload 5, 2) := by decide +kernel
theorem dX10_copy_168 : decode cX10_copy 168 = .ok (.if_icmp .ge 31, 3) := by decide +kernel
theorem dX10_copy_171 : decode cX10_copy 171 = .ok (.aload_n 0, 1) := by decide +kernel
theorem dX10_copy_172 : decode cX10_copy 172 = .ok (.getfield 22, 3) := by decide +kernel
theorem dX10_copy_175 : decode cX10_copy 175 = .ok (.bipush 60, 2) := by decide +kernel
theorem dX10_copy_177 : decode cX10_copy 177 = .ok (.iload_n 3, 1) := by decide +kernel
theorem dX10_copy_178 : decode cX10_copy 178 = .ok (.imul, 1) := by decide +kernel
theorem dX10_copy_179 : decode cX10_copy 179 = .ok (.iload 4, 2) := by decide +kernel
theorem dX10_copy_181 : decode cX10_copy 181 = .ok (.iadd, 1) := by decide +kernel
theorem dX10_copy_182 : decode cX10_copy 182 = .ok (.iload 6, 2) := by decide +kernel
theorem dX10_copy_184 : decode cX10_copy 184 = .ok (.iadd, 1) := by decide +kernel
theorem dX10_copy_185 : decode cX10_copy 185 = .ok (.aload_n 0, 1) := by decide +kernel
theorem dX10_copy_186 : decode cX10_copy 186 = .ok (.getfield 34, 3) := by decide +kernel
theorem dX10_copy_189 : decode cX10_copy 189 = .ok (.iload 6, 2) := by decide +kernel
theorem dX10_copy_191 : decode cX10_copy 191 = .ok (.iaload, 1) := by decide +kernel
theorem dX10_copy_192 : decode cX10_copy 192 = .ok (.iastore, 1) := by decide +kernel
theorem dX10_copy_193 : decode cX10_copy 193 = .ok (.iinc 6 1, 3) := by decide +kernel
theorem dX10_copy_196 : decode cX10_copy 196 = .ok (.goto (-32), 3) := by decide +kernel
theorem dX10_copy_199 : decode cX10_copy 199 = .ok (.iload 5, 2) := by decide +kernel
theorem dX10_copy_201 : decode cX10_copy 201 = .ok (.ireturn, 1) := by decide +kernel
theorem dX10_read_0 : decode cX10_read 0 = .ok (.iload_n 1, 1) := by decide +kernel
theorem dX10_read_1 : decode cX10_read 1 = .ok (.invokestatic 127, 3) := by decide +kernel
theorem dX10_read_4 : decode cX10_read 4 = .ok (.ifCond .ne 10, 3) := by decide +kernel
theorem dX10_read_7 : decode cX10_read 7 = .ok (.aload_n 0, 1) := by decide +kernel
theorem dX10_read_8 : decode cX10_read 8 = .ok (.ldc 45, 2) := by decide +kernel
theorem dX10_read_10 : decode cX10_read 10 = .ok (.invokevirtual 46, 3) := by decide +kernel
theorem dX10_read_13 : decode cX10_read 13 = .ok (.ireturn, 1) := by decide +kernel
theorem dX10_read_14 : decode cX10_read 14 = .ok (.aload_n 0, 1) := by decide +kernel
theorem dX10_read_15 : decode cX10_read 15 = .ok (.getfield 16, 3) := by decide +kernel
theorem dX10_read_18 : decode cX10_read 18 = .ok (.iload_n 1, 1) := by decide +kernel
theorem dX10_read_19 : decode cX10_read 19 = .ok (.iaload, 1) := by decide +kernel
theorem dX10_read_20 : decode cX10_read 20 = .ok (.ifCond .ne 10, 3) := by decide +kernel
theorem dX10_read_23 : decode cX10_read 23 = .ok (.aload_n 0, 1) := by decide +kernel
theorem dX10_read_24 : decode cX10_read 24 = .ok (.ldc 123, 2) := by decide +kernel
theorem dX10_read_26 : decode cX10_read 26 = .ok (.invokevirtual 46, 3) := by decide +kernel
theorem dX10_read_29 : decode cX10_read 29 = .ok (.ireturn, 1) := by decide +kernel
theorem dX10_read_30 : decode cX10_read 30 = .ok (.iconst 0, 1) := by decide +kernel
theorem dX10_read_31 : decode cX10_read 31 = .ok (.istore_n 2, 1) := by decide +kernel
theorem dX10_read_32 : decode cX10_read 32 = .ok (.iconst 0, 1) := by decide +kernel
theorem dX10_read_33 : decode cX10_read 33 = .ok (.istore_n 3, 1) := by decide +kernel
theorem dX10_read_34 : decode cX10_read 34 = .ok (.iload_n 3, 1) := by decide +kernel
theorem dX10_read_35 : decode cX10_read 35 = .ok (.aload_n 0, 1) := by decide +kernel
theorem dX10_read_36 : decode cX10_read 36 = .ok (.getfield 19, 3) := by decide +kernel
theorem dX10_read_39 : decode cX10_read 39 = .ok (.iload_n 1, 1) := by decide +kernel
theorem dX10_read_40 : decode cX10_read 40 = .ok (.iaload, 1) := by decide +kernel
theorem dX10_read_41 : decode cX10_read 41 = .ok (.if_icmp .ge 68, 3) := by decide +kernel
theorem dX10_read_44 : decode cX10_read 44 = .ok (.aload_n 0, 1) := by decide +kernel
theorem dX10_read_45 : decode cX10_read 45 = .ok (.getfield 22, 3) := by decide +kernel
theorem dX10_read_48 : decode cX10_read 48 = .ok (.bipush 60, 2) := by decide +kernel
theorem dX10_read_50 : decode cX10_read 50 = .ok (.iload_n 1, 1) := by decide +kernel
theorem dX10_read_51 : decode cX10_read 51 = .ok (.imul, 1) := by decide +kernel
theorem dX10_read_52 : decode cX10_read 52 = .ok (.iload_n 3, 1) := by decide +kernel
theorem dX10_read_53 : decode cX10_read 53 = .ok (.iadd, 1) := by decide +kernel
theorem dX10_read_54 : decode cX10_read 54 = .ok (.iaload, 1) := by decide +kernel
theorem dX10_read_55 : decode cX10_read 55 = .ok (.istore 4, 2) := by decide +kernel
theorem dX10_read_57 : decode cX10_read 57 = .ok (.aload_n 0, 1) := by decide +kernel
theorem dX10_read_58 : decode cX10_read 58 = .ok (.getfield 9, 3) := by decide +kernel
theorem dX10_read_61 : decode cX10_read 61 = .ok (.sipush 489, 3) := by decide +kernel
theorem dX10_read_64 : decode cX10_read 64 = .ok (.iload_n 3, 1) := by decide +kernel
theorem dX10_read_65 : decode cX10_read 65 = .ok (.iadd, 1) := by decide +kernel
theorem dX10_read_66 : decode cX10_read 66 = .ok (.iload 4, 2) := by decide +kernel
theorem dX10_read_68 : decode cX10_read 68 = .ok (.iconst 1, 1) := by decide +kernel
theorem dX10_read_69 : decode cX10_read 69 = .ok (.bipush 99, 2) := by decide +kernel
theorem dX10_read_71 : decode cX10_read 71 = .ok (.invokestatic 41, 3) := by decide +kernel
theorem dX10_read_74 : decode cX10_read 74 = .ok (.ifCond .eq 8, 3) := by decide +kernel
theorem dX10_read_77 : decode cX10_read 77 = .ok (.iload 4, 2) := by decide +kernel
theorem dX10_read_79 : decode cX10_read 79 = .ok (.goto 4, 3) := by decide +kernel
theorem dX10_read_82 : decode cX10_read 82 = .ok (.iconst 0, 1) := by decide +kernel
theorem dX10_read_83 : decode cX10_read 83 = .ok (.iastore, 1) := by decide +kernel
theorem dX10_read_84 : decode cX10_read 84 = .ok (.iload_n 2, 1) := by decide +kernel
theorem dX10_read_85 : decode cX10_read 85 = .ok (.iload 4, 2) := by decide +kernel
theorem dX10_read_87 : decode cX10_read 87 = .ok (.iconst 1, 1) := by decide +kernel
theorem dX10_read_88 : decode cX10_read 88 = .ok (.bipush 99, 2) := by decide +kernel
theorem dX10_read_90 : decode cX10_read 90 = .ok (.invokestatic 41, 3) := by decide +kernel
theorem dX10_read_93 : decode cX10_read 93 = .ok (.ifCond .eq 7, 3) := by decide +kernel
theorem dX10_read_96 : decode cX10_read 96 = .ok (.iconst 1, 1) := by decide +kernel
theorem dX10_read_97 : decode cX10_read 97 = .ok (.goto 4, 3) := by decide +kernel
theorem dX10_read_100 : decode cX10_read 100 = .ok (.iconst 0, 1) := by decide +kernel
theorem dX10_read_101 : decode cX10_read 101 = .ok (.iadd, 1) := by decide +kernel
theorem dX10_read_102 : decode cX10_read 102 = .ok (.istore_n 2, 1) := by decide +kernel
theorem dX10_read_103 : decode cX10_read 103 = .ok (.iinc 3 1, 3) := by decide +kernel
theorem dX10_read_106 : decode cX10_read 106 = .ok (.goto (-72), 3) := by decide +kernel
theorem dX10_read_109 : decode cX10_read 109 = .ok (.iload_n 2, 1) := by decide +kernel
theorem dX10_read_110 : decode cX10_read 110 = .ok (.ireturn, 1) := by decide +kernel
theorem dX10_keep_0 : decode cX10_keep 0 = .ok (.iconst 0, 1) := by decide +kernel
theorem dX10_keep_1 : decode cX10_keep 1 = .ok (.istore_n 1, 1) := by decide +kernel
theorem dX10_keep_2 : decode cX10_keep 2 = .ok (.iload_n 1, 1) := by decide +kernel
theorem dX10_keep_3 : decode cX10_keep 3 = .ok (.sipush 549, 3) := by decide +kernel
theorem dX10_keep_6 : decode cX10_keep 6 = .ok (.if_icmp .ge 21, 3) := by decide +kernel
theorem dX10_keep_9 : decode cX10_keep 9 = .ok (.aload_n 0, 1) := by decide +kernel
theorem dX10_keep_10 : decode cX10_keep 10 = .ok (.getfield 13, 3) := by decide +kernel
theorem dX10_keep_13 : decode cX10_keep 13 = .ok (.iload_n 1, 1) := by decide +kernel
theorem dX10_keep_14 : decode cX10_keep 14 = .ok (.aload_n 0, 1) := by decide +kernel
theorem dX10_keep_15 : decode cX10_keep 15 = .ok (.getfield 9, 3) := by decide +kernel
theorem dX10_keep_18 : decode cX10_keep 18 = .ok (.iload_n 1, 1) := by decide +kernel
theorem dX10_keep_19 : decode cX10_keep 19 = .ok (.iaload, 1) := by decide +kernel
theorem dX10_keep_20 : decode cX10_keep 20 = .ok (.iastore, 1) := by decide +kernel
theorem dX10_keep_21 : decode cX10_keep 21 = .ok (.iinc 1 1, 3) := by decide +kernel
theorem dX10_keep_24 : decode cX10_keep 24 = .ok (.goto (-22), 3) := by decide +kernel
theorem dX10_keep_27 : decode cX10_keep 27 = .ok (.aload_n 0, 1) := by decide +kernel
theorem dX10_keep_28 : decode cX10_keep 28 = .ok (.iconst 1, 1) := by decide +kernel
theorem dX10_keep_29 : decode cX10_keep 29 = .ok (.putfield 130, 3) := by decide +kernel
theorem dX10_keep_32 : decode cX10_keep 32 = .ok (.aload_n 0, 1) := by decide +kernel
theorem dX10_keep_33 : decode cX10_keep 33 = .ok (.getfield 9, 3) := by decide +kernel
theorem dX10_keep_36 : decode cX10_keep 36 = .ok (.iconst 1, 1) := by decide +kernel
theorem dX10_keep_37 : decode cX10_keep 37 = .ok (.iaload, 1) := by decide +kernel
theorem dX10_keep_38 : decode cX10_keep 38 = .ok (.ireturn, 1) := by decide +kernel
theorem dX10_back_0 : decode cX10_back 0 = .ok (.aload_n 0, 1) := by decide +kernel
theorem dX10_back_1 : decode cX10_back 1 = .ok (.getfield 130, 3) := by decide +kernel
theorem dX10_back_4 : decode cX10_back 4 = .ok (.ifCond .ne 10, 3) := by decide +kernel
theorem dX10_back_7 : decode cX10_back 7 = .ok (.aload_n 0, 1) := by decide +kernel
theorem dX10_back_8 : decode cX10_back 8 = .ok (.ldc 72, 2) := by decide +kernel
theorem dX10_back_10 : decode cX10_back 10 = .ok (.invokevirtual 46, 3) := by decide +kernel
theorem dX10_back_13 : decode cX10_back 13 = .ok (.ireturn, 1) := by decide +kernel
theorem dX10_back_14 : decode cX10_back 14 = .ok (.iconst 0, 1) := by decide +kernel
theorem dX10_back_15 : decode cX10_back 15 = .ok (.istore_n 1, 1) := by decide +kernel
theorem dX10_back_16 : decode cX10_back 16 = .ok (.iload_n 1, 1) := by decide +kernel
theorem dX10_back_17 : decode cX10_back 17 = .ok (.sipush 549, 3) := by decide +kernel
theorem dX10_back_20 : decode cX10_back 20 = .ok (.if_icmp .ge 21, 3) := by decide +kernel
theorem dX10_back_23 : decode cX10_back 23 = .ok (.aload_n 0, 1) := by decide +kernel
theorem dX10_back_24 : decode cX10_back 24 = .ok (.getfield 9, 3) := by decide +kernel
theorem dX10_back_27 : decode cX10_back 27 = .ok (.iload_n 1, 1) := by decide +kernel
theorem dX10_back_28 : decode cX10_back 28 = .ok (.aload_n 0, 1) := by decide +kernel
theorem dX10_back_29 : decode cX10_back 29 = .ok (.getfield 13, 3) := by decide +kernel
theorem dX10_back_32 : decode cX10_back 32 = .ok (.iload_n 1, 1) := by decide +kernel
theorem dX10_back_33 : decode cX10_back 33 = .ok (.iaload, 1) := by decide +kernel
theorem dX10_back_34 : decode cX10_back 34 = .ok (.iastore, 1) := by decide +kernel
theorem dX10_back_35 : decode cX10_back 35 = .ok (.iinc 1 1, 3) := by decide +kernel
theorem dX10_back_38 : decode cX10_back 38 = .ok (.goto (-22), 3) := by decide +kernel
theorem dX10_back_41 : decode cX10_back 41 = .ok (.aload_n 0, 1) := by decide +kernel
theorem dX10_back_42 : decode cX10_back 42 = .ok (.getfield 9, 3) := by decide +kernel
theorem dX10_back_45 : decode cX10_back 45 = .ok (.iconst 1, 1) := by decide +kernel
theorem dX10_back_46 : decode cX10_back 46 = .ok (.iaload, 1) := by decide +kernel
theorem dX10_back_47 : decode cX10_back 47 = .ok (.ireturn, 1) := by decide +kernel
theorem dX10_told_0 : decode cX10_told 0 = .ok (.iload_n 1, 1) := by decide +kernel
theorem dX10_told_1 : decode cX10_told 1 = .ok (.iconst 0, 1) := by decide +kernel
theorem dX10_told_2 : decode cX10_told 2 = .ok (.bipush 6, 2) := by decide +kernel
theorem dX10_told_4 : decode cX10_told 4 = .ok (.invokestatic 41, 3) := by decide +kernel
theorem dX10_told_7 : decode cX10_told 7 = .ok (.ifCond .ne 10, 3) := by decide +kernel
theorem dX10_told_10 : decode cX10_told 10 = .ok (.aload_n 0, 1) := by decide +kernel
theorem dX10_told_11 : decode cX10_told 11 = .ok (.ldc 45, 2) := by decide +kernel
theorem dX10_told_13 : decode cX10_told 13 = .ok (.invokevirtual 46, 3) := by decide +kernel
theorem dX10_told_16 : decode cX10_told 16 = .ok (.ireturn, 1) := by decide +kernel
theorem dX10_told_17 : decode cX10_told 17 = .ok (.iload_n 1, 1) := by decide +kernel
theorem dX10_told_18 : decode cX10_told 18 = .ok (.iconst 5, 1) := by decide +kernel
theorem dX10_told_19 : decode cX10_told 19 = .ok (.if_icmp .ge 12, 3) := by decide +kernel
theorem dX10_told_22 : decode cX10_told 22 = .ok (.aload_n 0, 1) := by decide +kernel
theorem dX10_told_23 : decode cX10_told 23 = .ok (.getfield 9, 3) := by decide +kernel
theorem dX10_told_26 : decode cX10_told 26 = .ok (.iload_n 1, 1) := by decide +kernel
theorem dX10_told_27 : decode cX10_told 27 = .ok (.iaload, 1) := by decide +kernel
theorem dX10_told_28 : decode cX10_told 28 = .ok (.goto 19, 3) := by decide +kernel
theorem dX10_told_31 : decode cX10_told 31 = .ok (.iload_n 1, 1) := by decide +kernel
theorem dX10_told_32 : decode cX10_told 32 = .ok (.iconst 5, 1) := by decide +kernel
theorem dX10_told_33 : decode cX10_told 33 = .ok (.if_icmp .ne 10, 3) := by decide +kernel
theorem dX10_told_36 : decode cX10_told 36 = .ok (.aload_n 0, 1) := by decide +kernel
theorem dX10_told_37 : decode cX10_told 37 = .ok (.getfield 37, 3) := by decide +kernel
theorem dX10_told_40 : decode cX10_told 40 = .ok (.goto 7, 3) := by decide +kernel
theorem dX10_told_43 : decode cX10_told 43 = .ok (.aload_n 0, 1) := by decide +kernel
theorem dX10_told_44 : decode cX10_told 44 = .ok (.invokevirtual 68, 3) := by decide +kernel
theorem dX10_told_47 : decode cX10_told 47 = .ok (.ireturn, 1) := by decide +kernel
theorem dJ6_bitCount_0f7a4_0 : decode cJ6_bitCount_0f7a4 0 = .ok (.iload_n 0, 1) := by decide +kernel
theorem dJ6_bitCount_0f7a4_1 : decode cJ6_bitCount_0f7a4 1 = .ok (.iload_n 0, 1) := by decide +kernel
theorem dJ6_bitCount_0f7a4_2 : decode cJ6_bitCount_0f7a4 2 = .ok (.iconst 1, 1) := by decide +kernel
theorem dJ6_bitCount_0f7a4_3 : decode cJ6_bitCount_0f7a4 3 = .ok (.iushr, 1) := by decide +kernel
theorem dJ6_bitCount_0f7a4_4 : decode cJ6_bitCount_0f7a4 4 = .ok (.ldc_w 265, 3) := by decide +kernel
theorem dJ6_bitCount_0f7a4_7 : decode cJ6_bitCount_0f7a4 7 = .ok (.iand, 1) := by decide +kernel
theorem dJ6_bitCount_0f7a4_8 : decode cJ6_bitCount_0f7a4 8 = .ok (.isub, 1) := by decide +kernel
theorem dJ6_bitCount_0f7a4_9 : decode cJ6_bitCount_0f7a4 9 = .ok (.istore_n 0, 1) := by decide +kernel
theorem dJ6_bitCount_0f7a4_10 : decode cJ6_bitCount_0f7a4 10 = .ok (.iload_n 0, 1) := by decide +kernel
theorem dJ6_bitCount_0f7a4_11 : decode cJ6_bitCount_0f7a4 11 = .ok (.ldc_w 266, 3) := by decide +kernel
theorem dJ6_bitCount_0f7a4_14 : decode cJ6_bitCount_0f7a4 14 = .ok (.iand, 1) := by decide +kernel
theorem dJ6_bitCount_0f7a4_15 : decode cJ6_bitCount_0f7a4 15 = .ok (.iload_n 0, 1) := by decide +kernel
theorem dJ6_bitCount_0f7a4_16 : decode cJ6_bitCount_0f7a4 16 = .ok (.iconst 2, 1) := by decide +kernel
theorem dJ6_bitCount_0f7a4_17 : decode cJ6_bitCount_0f7a4 17 = .ok (.iushr, 1) := by decide +kernel
theorem dJ6_bitCount_0f7a4_18 : decode cJ6_bitCount_0f7a4 18 = .ok (.ldc_w 266, 3) := by decide +kernel
theorem dJ6_bitCount_0f7a4_21 : decode cJ6_bitCount_0f7a4 21 = .ok (.iand, 1) := by decide +kernel
theorem dJ6_bitCount_0f7a4_22 : decode cJ6_bitCount_0f7a4 22 = .ok (.iadd, 1) := by decide +kernel
theorem dJ6_bitCount_0f7a4_23 : decode cJ6_bitCount_0f7a4 23 = .ok (.istore_n 0, 1) := by decide +kernel
theorem dJ6_bitCount_0f7a4_24 : decode cJ6_bitCount_0f7a4 24 = .ok (.iload_n 0, 1) := by decide +kernel
theorem dJ6_bitCount_0f7a4_25 : decode cJ6_bitCount_0f7a4 25 = .ok (.iload_n 0, 1) := by decide +kernel
theorem dJ6_bitCount_0f7a4_26 : decode cJ6_bitCount_0f7a4 26 = .ok (.iconst 4, 1) := by decide +kernel
theorem dJ6_bitCount_0f7a4_27 : decode cJ6_bitCount_0f7a4 27 = .ok (.iushr, 1) := by decide +kernel
theorem dJ6_bitCount_0f7a4_28 : decode cJ6_bitCount_0f7a4 28 = .ok (.iadd, 1) := by decide +kernel
theorem dJ6_bitCount_0f7a4_29 : decode cJ6_bitCount_0f7a4 29 = .ok (.ldc_w 267, 3) := by decide +kernel
theorem dJ6_bitCount_0f7a4_32 : decode cJ6_bitCount_0f7a4 32 = .ok (.iand, 1) := by decide +kernel
theorem dJ6_bitCount_0f7a4_33 : decode cJ6_bitCount_0f7a4 33 = .ok (.istore_n 0, 1) := by decide +kernel
theorem dJ6_bitCount_0f7a4_34 : decode cJ6_bitCount_0f7a4 34 = .ok (.iload_n 0, 1) := by decide +kernel
theorem dJ6_bitCount_0f7a4_35 : decode cJ6_bitCount_0f7a4 35 = .ok (.iload_n 0, 1) := by decide +kernel
theorem dJ6_bitCount_0f7a4_36 : decode cJ6_bitCount_0f7a4 36 = .ok (.bipush 8, 2) := by decide +kernel
theorem dJ6_bitCount_0f7a4_38 : decode cJ6_bitCount_0f7a4 38 = .ok (.iushr, 1) := by decide +kernel
theorem dJ6_bitCount_0f7a4_39 : decode cJ6_bitCount_0f7a4 39 = .ok (.iadd, 1) := by decide +kernel
theorem dJ6_bitCount_0f7a4_40 : decode cJ6_bitCount_0f7a4 40 = .ok (.istore_n 0, 1) := by decide +kernel
theorem dJ6_bitCount_0f7a4_41 : decode cJ6_bitCount_0f7a4 41 = .ok (.iload_n 0, 1) := by decide +kernel
theorem dJ6_bitCount_0f7a4_42 : decode cJ6_bitCount_0f7a4 42 = .ok (.iload_n 0, 1) := by decide +kernel
theorem dJ6_bitCount_0f7a4_43 : decode cJ6_bitCount_0f7a4 43 = .ok (.bipush 16, 2) := by decide +kernel
theorem dJ6_bitCount_0f7a4_45 : decode cJ6_bitCount_0f7a4 45 = .ok (.iushr, 1) := by decide +kernel
theorem dJ6_bitCount_0f7a4_46 : decode cJ6_bitCount_0f7a4 46 = .ok (.iadd, 1) := by decide +kernel
theorem dJ6_bitCount_0f7a4_47 : decode cJ6_bitCount_0f7a4 47 = .ok (.istore_n 0, 1) := by decide +kernel
theorem dJ6_bitCount_0f7a4_48 : decode cJ6_bitCount_0f7a4 48 = .ok (.iload_n 0, 1) := by decide +kernel
theorem dJ6_bitCount_0f7a4_49 : decode cJ6_bitCount_0f7a4 49 = .ok (.bipush 63, 2) := by decide +kernel
theorem dJ6_bitCount_0f7a4_51 : decode cJ6_bitCount_0f7a4 51 = .ok (.iand, 1) := by decide +kernel
theorem dJ6_bitCount_0f7a4_52 : decode cJ6_bitCount_0f7a4 52 = .ok (.ireturn, 1) := by decide +kernel
theorem dJ9_max_7cf53_0 : decode cJ9_max_7cf53 0 = .ok (.iload_n 0, 1) := by decide +kernel
theorem dJ9_max_7cf53_1 : decode cJ9_max_7cf53 1 = .ok (.iload_n 1, 1) := by decide +kernel
theorem dJ9_max_7cf53_2 : decode cJ9_max_7cf53 2 = .ok (.if_icmp .lt 7, 3) := by decide +kernel
theorem dJ9_max_7cf53_5 : decode cJ9_max_7cf53 5 = .ok (.iload_n 0, 1) := by decide +kernel
theorem dJ9_max_7cf53_6 : decode cJ9_max_7cf53 6 = .ok (.goto 4, 3) := by decide +kernel
theorem dJ9_max_7cf53_9 : decode cJ9_max_7cf53 9 = .ok (.iload_n 1, 1) := by decide +kernel
theorem dJ9_max_7cf53_10 : decode cJ9_max_7cf53 10 = .ok (.ireturn, 1) := by decide +kernel
theorem dJ9_min_7cf53_0 : decode cJ9_min_7cf53 0 = .ok (.iload_n 0, 1) := by decide +kernel
theorem dJ9_min_7cf53_1 : decode cJ9_min_7cf53 1 = .ok (.iload_n 1, 1) := by decide +kernel
theorem dJ9_min_7cf53_2 : decode cJ9_min_7cf53 2 = .ok (.if_icmp .gt 7, 3) := by decide +kernel
theorem dJ9_min_7cf53_5 : decode cJ9_min_7cf53 5 = .ok (.iload_n 0, 1) := by decide +kernel
theorem dJ9_min_7cf53_6 : decode cJ9_min_7cf53 6 = .ok (.goto 4, 3) := by decide +kernel
theorem dJ9_min_7cf53_9 : decode cJ9_min_7cf53 9 = .ok (.iload_n 1, 1) := by decide +kernel
theorem dJ9_min_7cf53_10 : decode cJ9_min_7cf53 10 = .ok (.ireturn, 1) := by decide +kernel
theorem dJ7_fill_53178_0 : decode cJ7_fill_53178 0 = .ok (.iconst 0, 1) := by decide +kernel
theorem dJ7_fill_53178_1 : decode cJ7_fill_53178 1 = .ok (.istore_n 2, 1) := by decide +kernel
theorem dJ7_fill_53178_2 : decode cJ7_fill_53178 2 = .ok (.aload_n 0, 1) := by decide +kernel
theorem dJ7_fill_53178_3 : decode cJ7_fill_53178 3 = .ok (.arraylength, 1) := by decide +kernel
theorem dJ7_fill_53178_4 : decode cJ7_fill_53178 4 = .ok (.istore_n 3, 1) := by decide +kernel
theorem dJ7_fill_53178_5 : decode cJ7_fill_53178 5 = .ok (.iload_n 2, 1) := by decide +kernel
theorem dJ7_fill_53178_6 : decode cJ7_fill_53178 6 = .ok (.iload_n 3, 1) := by decide +kernel
theorem dJ7_fill_53178_7 : decode cJ7_fill_53178 7 = .ok (.if_icmp .ge 13, 3) := by decide +kernel
theorem dJ7_fill_53178_10 : decode cJ7_fill_53178 10 = .ok (.aload_n 0, 1) := by decide +kernel
theorem dJ7_fill_53178_11 : decode cJ7_fill_53178 11 = .ok (.iload_n 2, 1) := by decide +kernel
theorem dJ7_fill_53178_12 : decode cJ7_fill_53178 12 = .ok (.iload_n 1, 1) := by decide +kernel
theorem dJ7_fill_53178_13 : decode cJ7_fill_53178 13 = .ok (.iastore, 1) := by decide +kernel
theorem dJ7_fill_53178_14 : decode cJ7_fill_53178 14 = .ok (.iinc 2 1, 3) := by decide +kernel
theorem dJ7_fill_53178_17 : decode cJ7_fill_53178 17 = .ok (.goto (-12), 3) := by decide +kernel
theorem dJ7_fill_53178_20 : decode cJ7_fill_53178 20 = .ok (.return_, 1) := by decide +kernel
theorem dL_law_0 : decode cL_law 0 = .ok (.new 7, 3) := by decide +kernel
theorem dL_law_3 : decode cL_law 3 = .ok (.dup, 1) := by decide +kernel
theorem dL_law_4 : decode cL_law 4 = .ok (.invokespecial 9, 3) := by decide +kernel
theorem dL_law_7 : decode cL_law 7 = .ok (.astore_n 1, 1) := by decide +kernel
theorem dL_law_8 : decode cL_law 8 = .ok (.new 10, 3) := by decide +kernel
theorem dL_law_11 : decode cL_law 11 = .ok (.dup, 1) := by decide +kernel
theorem dL_law_12 : decode cL_law 12 = .ok (.invokespecial 12, 3) := by decide +kernel
theorem dL_law_15 : decode cL_law 15 = .ok (.astore_n 2, 1) := by decide +kernel
theorem dL_law_16 : decode cL_law 16 = .ok (.iconst 0, 1) := by decide +kernel
theorem dL_law_17 : decode cL_law 17 = .ok (.istore_n 3, 1) := by decide +kernel
theorem dL_law_18 : decode cL_law 18 = .ok (.iload_n 3, 1) := by decide +kernel
theorem dL_law_19 : decode cL_law 19 = .ok (.aload_n 0, 1) := by decide +kernel
theorem dL_law_20 : decode cL_law 20 = .ok (.arraylength, 1) := by decide +kernel
theorem dL_law_21 : decode cL_law 21 = .ok (.bipush 8, 2) := by decide +kernel
theorem dL_law_23 : decode cL_law 23 = .ok (.isub, 1) := by decide +kernel
theorem dL_law_24 : decode cL_law 24 = .ok (.if_icmp .gt 1438, 3) := by decide +kernel
theorem dL_law_27 : decode cL_law 27 = .ok (.aload_n 0, 1) := by decide +kernel
theorem dL_law_28 : decode cL_law 28 = .ok (.iload_n 3, 1) := by decide +kernel
theorem dL_law_29 : decode cL_law 29 = .ok (.iaload, 1) := by decide +kernel
theorem dL_law_30 : decode cL_law 30 = .ok (.bipush 63, 2) := by decide +kernel
theorem dL_law_32 : decode cL_law 32 = .ok (.iand, 1) := by decide +kernel
theorem dL_law_33 : decode cL_law 33 = .ok (.tableswitch 1423 0 33 #[151, 174, 217, 260, 293, 336, 369, 456, 505, 518, 571, 604, 647, 690, 733, 776, 819, 872, 905, 938, 961, 994, 1037, 1070, 1103, 1136, 1169, 1202, 1245, 1288, 1351, 1374, 1387, 1400], 151) := by decide +kernel
theorem dL_law_184 : decode cL_law 184 = .ok (.aload_n 1, 1) := by decide +kernel
theorem dL_law_185 : decode cL_law 185 = .ok (.aload_n 0, 1) := by decide +kernel
theorem dL_law_186 : decode cL_law 186 = .ok (.iload_n 3, 1) := by decide +kernel
theorem dL_law_187 : decode cL_law 187 = .ok (.iconst 1, 1) := by decide +kernel
theorem dL_law_188 : decode cL_law 188 = .ok (.iadd, 1) := by decide +kernel
theorem dL_law_189 : decode cL_law 189 = .ok (.iaload, 1) := by decide +kernel
theorem dL_law_190 : decode cL_law 190 = .ok (.invokevirtual 13, 3) := by decide +kernel
theorem dL_law_193 : decode cL_law 193 = .ok (.aload_n 2, 1) := by decide +kernel
theorem dL_law_194 : decode cL_law 194 = .ok (.aload_n 0, 1) := by decide +kernel
theorem dL_law_195 : decode cL_law 195 = .ok (.iload_n 3, 1) := by decide +kernel
theorem dL_law_196 : decode cL_law 196 = .ok (.iconst 1, 1) := by decide +kernel
theorem dL_law_197 : decode cL_law 197 = .ok (.iadd, 1) := by decide +kernel
theorem dL_law_198 : decode cL_law 198 = .ok (.iaload, 1) := by decide +kernel
theorem dL_law_199 : decode cL_law 199 = .ok (.invokevirtual 17, 3) := by decide +kernel
theorem dL_law_202 : decode cL_law 202 = .ok (.if_icmp .eq 1254, 3) := by decide +kernel
theorem dL_law_205 : decode cL_law 205 = .ok (.iconst 0, 1) := by decide +kernel
theorem dL_law_206 : decode cL_law 206 = .ok (.ireturn, 1) := by decide +kernel
theorem dL_law_207 : decode cL_law 207 = .ok (.aload_n 1, 1) := by decide +kernel
theorem dL_law_208 : decode cL_law 208 = .ok (.aload_n 0, 1) := by decide +kernel
theorem dL_law_209 : decode cL_law 209 = .ok (.iload_n 3, 1) := by decide +kernel
theorem dL_law_210 : decode cL_law 210 = .ok (.iconst 1, 1) := by decide +kernel
theorem dL_law_211 : decode cL_law 211 = .ok (.iadd, 1) := by decide +kernel
theorem dL_law_212 : decode cL_law 212 = .ok (.iaload, 1) := by decide +kernel
theorem dL_law_213 : decode cL_law 213 = .ok (.aload_n 0, 1) := by decide +kernel
theorem dL_law_214 : decode cL_law 214 = .ok (.iload_n 3, 1) := by decide +kernel
theorem dL_law_215 : decode cL_law 215 = .ok (.iconst 2, 1) := by decide +kernel
theorem dL_law_216 : decode cL_law 216 = .ok (.iadd, 1) := by decide +kernel
theorem dL_law_217 : decode cL_law 217 = .ok (.iaload, 1) := by decide +kernel
theorem dL_law_218 : decode cL_law 218 = .ok (.aload_n 0, 1) := by decide +kernel
theorem dL_law_219 : decode cL_law 219 = .ok (.iload_n 3, 1) := by decide +kernel
theorem dL_law_220 : decode cL_law 220 = .ok (.iconst 3, 1) := by decide +kernel
theorem dL_law_221 : decode cL_law 221 = .ok (.iadd, 1) := by decide +kernel
theorem dL_law_222 : decode cL_law 222 = .ok (.iaload, 1) := by decide +kernel
theorem dL_law_223 : decode cL_law 223 = .ok (.invokevirtual 18, 3) := by decide +kernel
theorem dL_law_226 : decode cL_law 226 = .ok (.aload_n 2, 1) := by decide +kernel
theorem dL_law_227 : decode cL_law 227 = .ok (.aload_n 0, 1) := by decide +kernel
theorem dL_law_228 : decode cL_law 228 = .ok (.iload_n 3, 1) := by decide +kernel
theorem dL_law_229 : decode cL_law 229 = .ok (.iconst 1, 1) := by decide +kernel
theorem dL_law_230 : decode cL_law 230 = .ok (.iadd, 1) := by decide +kernel
theorem dL_law_231 : decode cL_law 231 = .ok (.iaload, 1) := by decide +kernel
theorem dL_law_232 : decode cL_law 232 = .ok (.aload_n 0, 1) := by decide +kernel
theorem dL_law_233 : decode cL_law 233 = .ok (.iload_n 3, 1) := by decide +kernel
theorem dL_law_234 : decode cL_law 234 = .ok (.iconst 2, 1) := by decide +kernel
theorem dL_law_235 : decode cL_law 235 = .ok (.iadd, 1) := by decide +kernel
theorem dL_law_236 : decode cL_law 236 = .ok (.iaload, 1) := by decide +kernel
theorem dL_law_237 : decode cL_law 237 = .ok (.aload_n 0, 1) := by decide +kernel
theorem dL_law_238 : decode cL_law 238 = .ok (.iload_n 3, 1) := by decide +kernel
theorem dL_law_239 : decode cL_law 239 = .ok (.iconst 3, 1) := by decide +kernel
theorem dL_law_240 : decode cL_law 240 = .ok (.iadd, 1) := by decide +kernel
theorem dL_law_241 : decode cL_law 241 = .ok (.iaload, 1) := by decide +kernel
theorem dL_law_242 : decode cL_law 242 = .ok (.invokevirtual 22, 3) := by decide +kernel
theorem dL_law_245 : decode cL_law 245 = .ok (.if_icmp .eq 1211, 3) := by decide +kernel
theorem dL_law_248 : decode cL_law 248 = .ok (.iconst 0, 1) := by decide +kernel
theorem dL_law_249 : decode cL_law 249 = .ok (.ireturn, 1) := by decide +kernel
theorem dL_law_250 : decode cL_law 250 = .ok (.aload_n 1, 1) := by decide +kernel
theorem dL_law_251 : decode cL_law 251 = .ok (.aload_n 0, 1) := by decide +kernel
theorem dL_law_252 : decode cL_law 252 = .ok (.iload_n 3, 1) := by decide +kernel
theorem dL_law_253 : decode cL_law 253 = .ok (.iconst 1, 1) := by decide +kernel
theorem dL_law_254 : decode cL_law 254 = .ok (.iadd, 1) := by decide +kernel
theorem dL_law_255 : decode cL_law 255 = .ok (.iaload, 1) := by decide +kernel
theorem dL_law_256 : decode cL_law 256 = .ok (.aload_n 0, 1) := by decide +kernel
theorem dL_law_257 : decode cL_law 257 = .ok (.iload_n 3, 1) := by decide +kernel
theorem dL_law_258 : decode cL_law 258 = .ok (.iconst 2, 1) := by decide +kernel
theorem dL_law_259 : decode cL_law 259 = .ok (.iadd, 1) := by decide +kernel
