theorem dX6_reliefOf_45 : decode cX6_reliefOf 45 = .ok (.iload 6, 2) := by decide +kernel
theorem dX6_reliefOf_47 : decode cX6_reliefOf 47 = .ok (.iload_n 2, 1) := by decide +kernel
theorem dX6_reliefOf_48 : decode cX6_reliefOf 48 = .ok (.invokevirtual 41, 3) := by decide +kernel
theorem dX6_reliefOf_51 : decode cX6_reliefOf 51 = .ok (.ifCond .eq 18, 3) := by decide +kernel
theorem dX6_reliefOf_54 : decode cX6_reliefOf 54 = .ok (.aload_n 0, 1) := by decide +kernel
theorem dX6_reliefOf_55 : decode cX6_reliefOf 55 = .ok (.iload 6, 2) := by decide +kernel
theorem dX6_reliefOf_57 : decode cX6_reliefOf 57 = .ok (.iload_n 3, 1) := by decide +kernel
theorem dX6_reliefOf_58 : decode cX6_reliefOf 58 = .ok (.invokevirtual 28, 3) := by decide +kernel
theorem dX6_reliefOf_61 : decode cX6_reliefOf 61 = .ok (.iload 4, 2) := by decide +kernel
theorem dX6_reliefOf_63 : decode cX6_reliefOf 63 = .ok (.if_icmp .ne 6, 3) := by decide +kernel
theorem dX6_reliefOf_66 : decode cX6_reliefOf 66 = .ok (.iinc 5 2, 3) := by decide +kernel
theorem dX6_reliefOf_69 : decode cX6_reliefOf 69 = .ok (.iinc 6 1, 3) := by decide +kernel
theorem dX6_reliefOf_72 : decode cX6_reliefOf 72 = .ok (.goto (-37), 3) := by decide +kernel
theorem dX6_reliefOf_75 : decode cX6_reliefOf 75 = .ok (.iconst 0, 1) := by decide +kernel
theorem dX6_reliefOf_76 : decode cX6_reliefOf 76 = .ok (.iload 5, 2) := by decide +kernel
theorem dX6_reliefOf_78 : decode cX6_reliefOf 78 = .ok (.aload_n 0, 1) := by decide +kernel
theorem dX6_reliefOf_79 : decode cX6_reliefOf 79 = .ok (.getfield 25, 3) := by decide +kernel
theorem dX6_reliefOf_82 : decode cX6_reliefOf 82 = .ok (.iload_n 3, 1) := by decide +kernel
theorem dX6_reliefOf_83 : decode cX6_reliefOf 83 = .ok (.iaload, 1) := by decide +kernel
theorem dX6_reliefOf_84 : decode cX6_reliefOf 84 = .ok (.imul, 1) := by decide +kernel
theorem dX6_reliefOf_85 : decode cX6_reliefOf 85 = .ok (.aload_n 0, 1) := by decide +kernel
theorem dX6_reliefOf_86 : decode cX6_reliefOf 86 = .ok (.getfield 22, 3) := by decide +kernel
theorem dX6_reliefOf_89 : decode cX6_reliefOf 89 = .ok (.iload_n 2, 1) := by decide +kernel
theorem dX6_reliefOf_90 : decode cX6_reliefOf 90 = .ok (.iaload, 1) := by decide +kernel
theorem dX6_reliefOf_91 : decode cX6_reliefOf 91 = .ok (.isub, 1) := by decide +kernel
theorem dX6_reliefOf_92 : decode cX6_reliefOf 92 = .ok (.invokestatic 45, 3) := by decide +kernel
theorem dX6_reliefOf_95 : decode cX6_reliefOf 95 = .ok (.ireturn, 1) := by decide +kernel
theorem dX6_isKeptByHusband_0 : decode cX6_isKeptByHusband 0 = .ok (.aload_n 1, 1) := by decide +kernel
theorem dX6_isKeptByHusband_1 : decode cX6_isKeptByHusband 1 = .ok (.getfield 50, 3) := by decide +kernel
theorem dX6_isKeptByHusband_4 : decode cX6_isKeptByHusband 4 = .ok (.iload_n 2, 1) := by decide +kernel
theorem dX6_isKeptByHusband_5 : decode cX6_isKeptByHusband 5 = .ok (.iaload, 1) := by decide +kernel
theorem dX6_isKeptByHusband_6 : decode cX6_isKeptByHusband 6 = .ok (.istore 4, 2) := by decide +kernel
theorem dX6_isKeptByHusband_8 : decode cX6_isKeptByHusband 8 = .ok (.aload_n 1, 1) := by decide +kernel
theorem dX6_isKeptByHusband_9 : decode cX6_isKeptByHusband 9 = .ok (.iload 4, 2) := by decide +kernel
theorem dX6_isKeptByHusband_11 : decode cX6_isKeptByHusband 11 = .ok (.invokevirtual 53, 3) := by decide +kernel
theorem dX6_isKeptByHusband_14 : decode cX6_isKeptByHusband 14 = .ok (.ifCond .eq 33, 3) := by decide +kernel
theorem dX6_isKeptByHusband_17 : decode cX6_isKeptByHusband 17 = .ok (.aload_n 1, 1) := by decide +kernel
theorem dX6_isKeptByHusband_18 : decode cX6_isKeptByHusband 18 = .ok (.iload_n 2, 1) := by decide +kernel
theorem dX6_isKeptByHusband_19 : decode cX6_isKeptByHusband 19 = .ok (.iload 4, 2) := by decide +kernel
theorem dX6_isKeptByHusband_21 : decode cX6_isKeptByHusband 21 = .ok (.invokevirtual 41, 3) := by decide +kernel
theorem dX6_isKeptByHusband_24 : decode cX6_isKeptByHusband 24 = .ok (.ifCond .eq 23, 3) := by decide +kernel
theorem dX6_isKeptByHusband_27 : decode cX6_isKeptByHusband 27 = .ok (.aload_n 0, 1) := by decide +kernel
theorem dX6_isKeptByHusband_28 : decode cX6_isKeptByHusband 28 = .ok (.iload 4, 2) := by decide +kernel
theorem dX6_isKeptByHusband_30 : decode cX6_isKeptByHusband 30 = .ok (.iload_n 3, 1) := by decide +kernel
theorem dX6_isKeptByHusband_31 : decode cX6_isKeptByHusband 31 = .ok (.invokevirtual 28, 3) := by decide +kernel
theorem dX6_isKeptByHusband_34 : decode cX6_isKeptByHusband 34 = .ok (.aload_n 0, 1) := by decide +kernel
theorem dX6_isKeptByHusband_35 : decode cX6_isKeptByHusband 35 = .ok (.iload_n 2, 1) := by decide +kernel
theorem dX6_isKeptByHusband_36 : decode cX6_isKeptByHusband 36 = .ok (.iload_n 3, 1) := by decide +kernel
theorem dX6_isKeptByHusband_37 : decode cX6_isKeptByHusband 37 = .ok (.invokevirtual 28, 3) := by decide +kernel
theorem dX6_isKeptByHusband_40 : decode cX6_isKeptByHusband 40 = .ok (.if_icmp .ne 7, 3) := by decide +kernel
theorem dX6_isKeptByHusband_43 : decode cX6_isKeptByHusband 43 = .ok (.iconst 1, 1) := by decide +kernel
theorem dX6_isKeptByHusband_44 : decode cX6_isKeptByHusband 44 = .ok (.goto 4, 3) := by decide +kernel
theorem dX6_isKeptByHusband_47 : decode cX6_isKeptByHusband 47 = .ok (.iconst 0, 1) := by decide +kernel
theorem dX6_isKeptByHusband_48 : decode cX6_isKeptByHusband 48 = .ok (.ireturn, 1) := by decide +kernel
theorem dX6_reliefOfAll_0 : decode cX6_reliefOfAll 0 = .ok (.iconst 0, 1) := by decide +kernel
theorem dX6_reliefOfAll_1 : decode cX6_reliefOfAll 1 = .ok (.istore 4, 2) := by decide +kernel
theorem dX6_reliefOfAll_3 : decode cX6_reliefOfAll 3 = .ok (.iconst 0, 1) := by decide +kernel
theorem dX6_reliefOfAll_4 : decode cX6_reliefOfAll 4 = .ok (.istore 5, 2) := by decide +kernel
theorem dX6_reliefOfAll_6 : decode cX6_reliefOfAll 6 = .ok (.iload 5, 2) := by decide +kernel
theorem dX6_reliefOfAll_8 : decode cX6_reliefOfAll 8 = .ok (.aload_n 1, 1) := by decide +kernel
theorem dX6_reliefOfAll_9 : decode cX6_reliefOfAll 9 = .ok (.getfield 36, 3) := by decide +kernel
theorem dX6_reliefOfAll_12 : decode cX6_reliefOfAll 12 = .ok (.if_icmp .ge 33, 3) := by decide +kernel
theorem dX6_reliefOfAll_15 : decode cX6_reliefOfAll 15 = .ok (.aload_n 0, 1) := by decide +kernel
theorem dX6_reliefOfAll_16 : decode cX6_reliefOfAll 16 = .ok (.iload 5, 2) := by decide +kernel
theorem dX6_reliefOfAll_18 : decode cX6_reliefOfAll 18 = .ok (.iload_n 3, 1) := by decide +kernel
theorem dX6_reliefOfAll_19 : decode cX6_reliefOfAll 19 = .ok (.invokevirtual 28, 3) := by decide +kernel
theorem dX6_reliefOfAll_22 : decode cX6_reliefOfAll 22 = .ok (.iload_n 2, 1) := by decide +kernel
theorem dX6_reliefOfAll_23 : decode cX6_reliefOfAll 23 = .ok (.if_icmp .ne 16, 3) := by decide +kernel
theorem dX6_reliefOfAll_26 : decode cX6_reliefOfAll 26 = .ok (.iload 4, 2) := by decide +kernel
theorem dX6_reliefOfAll_28 : decode cX6_reliefOfAll 28 = .ok (.aload_n 0, 1) := by decide +kernel
theorem dX6_reliefOfAll_29 : decode cX6_reliefOfAll 29 = .ok (.aload_n 1, 1) := by decide +kernel
theorem dX6_reliefOfAll_30 : decode cX6_reliefOfAll 30 = .ok (.iload 5, 2) := by decide +kernel
theorem dX6_reliefOfAll_32 : decode cX6_reliefOfAll 32 = .ok (.iload_n 3, 1) := by decide +kernel
theorem dX6_reliefOfAll_33 : decode cX6_reliefOfAll 33 = .ok (.invokevirtual 57, 3) := by decide +kernel
theorem dX6_reliefOfAll_36 : decode cX6_reliefOfAll 36 = .ok (.iadd, 1) := by decide +kernel
theorem dX6_reliefOfAll_37 : decode cX6_reliefOfAll 37 = .ok (.istore 4, 2) := by decide +kernel
theorem dX6_reliefOfAll_39 : decode cX6_reliefOfAll 39 = .ok (.iinc 5 1, 3) := by decide +kernel
theorem dX6_reliefOfAll_42 : decode cX6_reliefOfAll 42 = .ok (.goto (-36), 3) := by decide +kernel
theorem dX6_reliefOfAll_45 : decode cX6_reliefOfAll 45 = .ok (.iload 4, 2) := by decide +kernel
theorem dX6_reliefOfAll_47 : decode cX6_reliefOfAll 47 = .ok (.ireturn, 1) := by decide +kernel
theorem dX6_readPrices_0 : decode cX6_readPrices 0 = .ok (.iconst 0, 1) := by decide +kernel
theorem dX6_readPrices_1 : decode cX6_readPrices 1 = .ok (.istore_n 2, 1) := by decide +kernel
theorem dX6_readPrices_2 : decode cX6_readPrices 2 = .ok (.aload_n 1, 1) := by decide +kernel
theorem dX6_readPrices_3 : decode cX6_readPrices 3 = .ok (.getfield 61, 3) := by decide +kernel
theorem dX6_readPrices_6 : decode cX6_readPrices 6 = .ok (.bipush 60, 2) := by decide +kernel
theorem dX6_readPrices_8 : decode cX6_readPrices 8 = .ok (.invokestatic 66, 3) := by decide +kernel
theorem dX6_readPrices_11 : decode cX6_readPrices 11 = .ok (.istore_n 3, 1) := by decide +kernel
theorem dX6_readPrices_12 : decode cX6_readPrices 12 = .ok (.iconst 0, 1) := by decide +kernel
theorem dX6_readPrices_13 : decode cX6_readPrices 13 = .ok (.istore 4, 2) := by decide +kernel
theorem dX6_readPrices_15 : decode cX6_readPrices 15 = .ok (.iload 4, 2) := by decide +kernel
theorem dX6_readPrices_17 : decode cX6_readPrices 17 = .ok (.iload_n 3, 1) := by decide +kernel
theorem dX6_readPrices_18 : decode cX6_readPrices 18 = .ok (.if_icmp .ge 60, 3) := by decide +kernel
theorem dX6_readPrices_21 : decode cX6_readPrices 21 = .ok (.aload_n 1, 1) := by decide +kernel
theorem dX6_readPrices_22 : decode cX6_readPrices 22 = .ok (.getfield 69, 3) := by decide +kernel
theorem dX6_readPrices_25 : decode cX6_readPrices 25 = .ok (.iload 4, 2) := by decide +kernel
theorem dX6_readPrices_27 : decode cX6_readPrices 27 = .ok (.iaload, 1) := by decide +kernel
theorem dX6_readPrices_28 : decode cX6_readPrices 28 = .ok (.iconst 1, 1) := by decide +kernel
theorem dX6_readPrices_29 : decode cX6_readPrices 29 = .ok (.bipush 99, 2) := by decide +kernel
theorem dX6_readPrices_31 : decode cX6_readPrices 31 = .ok (.invokestatic 72, 3) := by decide +kernel
theorem dX6_readPrices_34 : decode cX6_readPrices 34 = .ok (.istore 5, 2) := by decide +kernel
theorem dX6_readPrices_36 : decode cX6_readPrices 36 = .ok (.aload_n 0, 1) := by decide +kernel
theorem dX6_readPrices_37 : decode cX6_readPrices 37 = .ok (.getfield 25, 3) := by decide +kernel
theorem dX6_readPrices_40 : decode cX6_readPrices 40 = .ok (.iload 4, 2) := by decide +kernel
theorem dX6_readPrices_42 : decode cX6_readPrices 42 = .ok (.iload 5, 2) := by decide +kernel
theorem dX6_readPrices_44 : decode cX6_readPrices 44 = .ok (.ifCond .eq 13, 3) := by decide +kernel
theorem dX6_readPrices_47 : decode cX6_readPrices 47 = .ok (.aload_n 1, 1) := by decide +kernel
theorem dX6_readPrices_48 : decode cX6_readPrices 48 = .ok (.getfield 69, 3) := by decide +kernel
theorem dX6_readPrices_51 : decode cX6_readPrices 51 = .ok (.iload 4, 2) := by decide +kernel
theorem dX6_readPrices_53 : decode cX6_readPrices 53 = .ok (.iaload, 1) := by decide +kernel
theorem dX6_readPrices_54 : decode cX6_readPrices 54 = .ok (.goto 4, 3) := by decide +kernel
theorem dX6_readPrices_57 : decode cX6_readPrices 57 = .ok (.iconst 0, 1) := by decide +kernel
theorem dX6_readPrices_58 : decode cX6_readPrices 58 = .ok (.iastore, 1) := by decide +kernel
theorem dX6_readPrices_59 : decode cX6_readPrices 59 = .ok (.iload_n 2, 1) := by decide +kernel
theorem dX6_readPrices_60 : decode cX6_readPrices 60 = .ok (.iload 5, 2) := by decide +kernel
theorem dX6_readPrices_62 : decode cX6_readPrices 62 = .ok (.ifCond .eq 7, 3) := by decide +kernel
theorem dX6_readPrices_65 : decode cX6_readPrices 65 = .ok (.iconst 1, 1) := by decide +kernel
theorem dX6_readPrices_66 : decode cX6_readPrices 66 = .ok (.goto 4, 3) := by decide +kernel
theorem dX6_readPrices_69 : decode cX6_readPrices 69 = .ok (.iconst 0, 1) := by decide +kernel
theorem dX6_readPrices_70 : decode cX6_readPrices 70 = .ok (.iadd, 1) := by decide +kernel
theorem dX6_readPrices_71 : decode cX6_readPrices 71 = .ok (.istore_n 2, 1) := by decide +kernel
theorem dX6_readPrices_72 : decode cX6_readPrices 72 = .ok (.iinc 4 1, 3) := by decide +kernel
theorem dX6_readPrices_75 : decode cX6_readPrices 75 = .ok (.goto (-60), 3) := by decide +kernel
theorem dX6_readPrices_78 : decode cX6_readPrices 78 = .ok (.iload_n 2, 1) := by decide +kernel
theorem dX6_readPrices_79 : decode cX6_readPrices 79 = .ok (.ireturn, 1) := by decide +kernel
theorem dX6_become_0 : decode cX6_become 0 = .ok (.aload_n 0, 1) := by decide +kernel
theorem dX6_become_1 : decode cX6_become 1 = .ok (.aload_n 1, 1) := by decide +kernel
theorem dX6_become_2 : decode cX6_become 2 = .ok (.getfield 9, 3) := by decide +kernel
theorem dX6_become_5 : decode cX6_become 5 = .ok (.putfield 9, 3) := by decide +kernel
theorem dX6_become_8 : decode cX6_become 8 = .ok (.aload_n 1, 1) := by decide +kernel
theorem dX6_become_9 : decode cX6_become 9 = .ok (.getfield 15, 3) := by decide +kernel
theorem dX6_become_12 : decode cX6_become 12 = .ok (.aload_n 0, 1) := by decide +kernel
theorem dX6_become_13 : decode cX6_become 13 = .ok (.getfield 15, 3) := by decide +kernel
theorem dX6_become_16 : decode cX6_become 16 = .ok (.invokestatic 76, 3) := by decide +kernel
theorem dX6_become_19 : decode cX6_become 19 = .ok (.aload_n 1, 1) := by decide +kernel
theorem dX6_become_20 : decode cX6_become 20 = .ok (.getfield 19, 3) := by decide +kernel
theorem dX6_become_23 : decode cX6_become 23 = .ok (.aload_n 0, 1) := by decide +kernel
theorem dX6_become_24 : decode cX6_become 24 = .ok (.getfield 19, 3) := by decide +kernel
theorem dX6_become_27 : decode cX6_become 27 = .ok (.invokestatic 76, 3) := by decide +kernel
theorem dX6_become_30 : decode cX6_become 30 = .ok (.aload_n 1, 1) := by decide +kernel
theorem dX6_become_31 : decode cX6_become 31 = .ok (.getfield 22, 3) := by decide +kernel
theorem dX6_become_34 : decode cX6_become 34 = .ok (.aload_n 0, 1) := by decide +kernel
theorem dX6_become_35 : decode cX6_become 35 = .ok (.getfield 22, 3) := by decide +kernel
theorem dX6_become_38 : decode cX6_become 38 = .ok (.invokestatic 76, 3) := by decide +kernel
theorem dX6_become_41 : decode cX6_become 41 = .ok (.aload_n 1, 1) := by decide +kernel
theorem dX6_become_42 : decode cX6_become 42 = .ok (.getfield 25, 3) := by decide +kernel
theorem dX6_become_45 : decode cX6_become 45 = .ok (.aload_n 0, 1) := by decide +kernel
theorem dX6_become_46 : decode cX6_become 46 = .ok (.getfield 25, 3) := by decide +kernel
theorem dX6_become_49 : decode cX6_become 49 = .ok (.invokestatic 76, 3) := by decide +kernel
theorem dX6_become_52 : decode cX6_become 52 = .ok (.return_, 1) := by decide +kernel
theorem dX7_init_0 : decode cX7_init 0 = .ok (.aload_n 0, 1) := by decide +kernel
theorem dX7_init_1 : decode cX7_init 1 = .ok (.invokespecial 3, 3) := by decide +kernel
theorem dX7_init_4 : decode cX7_init 4 = .ok (.aload_n 0, 1) := by decide +kernel
theorem dX7_init_5 : decode cX7_init 5 = .ok (.bipush 24, 2) := by decide +kernel
theorem dX7_init_7 : decode cX7_init 7 = .ok (.newarray .int, 2) := by decide +kernel
theorem dX7_init_9 : decode cX7_init 9 = .ok (.putfield 9, 3) := by decide +kernel
theorem dX7_init_12 : decode cX7_init 12 = .ok (.aload_n 0, 1) := by decide +kernel
theorem dX7_init_13 : decode cX7_init 13 = .ok (.bipush 10, 2) := by decide +kernel
theorem dX7_init_15 : decode cX7_init 15 = .ok (.newarray .int, 2) := by decide +kernel
theorem dX7_init_17 : decode cX7_init 17 = .ok (.putfield 15, 3) := by decide +kernel
theorem dX7_init_20 : decode cX7_init 20 = .ok (.aload_n 0, 1) := by decide +kernel
theorem dX7_init_21 : decode cX7_init 21 = .ok (.bipush 10, 2) := by decide +kernel
theorem dX7_init_23 : decode cX7_init 23 = .ok (.newarray .int, 2) := by decide +kernel
theorem dX7_init_25 : decode cX7_init 25 = .ok (.putfield 18, 3) := by decide +kernel
theorem dX7_init_28 : decode cX7_init 28 = .ok (.aload_n 0, 1) := by decide +kernel
theorem dX7_init_29 : decode cX7_init 29 = .ok (.bipush 9, 2) := by decide +kernel
theorem dX7_init_31 : decode cX7_init 31 = .ok (.newarray .int, 2) := by decide +kernel
theorem dX7_init_33 : decode cX7_init 33 = .ok (.putfield 21, 3) := by decide +kernel
theorem dX7_init_36 : decode cX7_init 36 = .ok (.aload_n 0, 1) := by decide +kernel
theorem dX7_init_37 : decode cX7_init 37 = .ok (.bipush 9, 2) := by decide +kernel
theorem dX7_init_39 : decode cX7_init 39 = .ok (.newarray .int, 2) := by decide +kernel
theorem dX7_init_41 : decode cX7_init 41 = .ok (.putfield 24, 3) := by decide +kernel
theorem dX7_init_44 : decode cX7_init 44 = .ok (.aload_n 0, 1) := by decide +kernel
theorem dX7_init_45 : decode cX7_init 45 = .ok (.aload_n 1, 1) := by decide +kernel
theorem dX7_init_46 : decode cX7_init 46 = .ok (.putfield 27, 3) := by decide +kernel
theorem dX7_init_49 : decode cX7_init 49 = .ok (.return_, 1) := by decide +kernel
theorem dX7_ownOf_0 : decode cX7_ownOf 0 = .ok (.aload_n 0, 1) := by decide +kernel
theorem dX7_ownOf_1 : decode cX7_ownOf 1 = .ok (.iload_n 1, 1) := by decide +kernel
theorem dX7_ownOf_2 : decode cX7_ownOf 2 = .ok (.iload_n 2, 1) := by decide +kernel
theorem dX7_ownOf_3 : decode cX7_ownOf 3 = .ok (.iload_n 3, 1) := by decide +kernel
theorem dX7_ownOf_4 : decode cX7_ownOf 4 = .ok (.invokevirtual 31, 3) := by decide +kernel
theorem dX7_ownOf_7 : decode cX7_ownOf 7 = .ok (.aload_n 0, 1) := by decide +kernel
theorem dX7_ownOf_8 : decode cX7_ownOf 8 = .ok (.iconst 0, 1) := by decide +kernel
theorem dX7_ownOf_9 : decode cX7_ownOf 9 = .ok (.aload_n 0, 1) := by decide +kernel
theorem dX7_ownOf_10 : decode cX7_ownOf 10 = .ok (.iconst 0, 1) := by decide +kernel
theorem dX7_ownOf_11 : decode cX7_ownOf 11 = .ok (.iconst 0, 1) := by decide +kernel
theorem dX7_ownOf_12 : decode cX7_ownOf 12 = .ok (.invokevirtual 35, 3) := by decide +kernel
theorem dX7_ownOf_15 : decode cX7_ownOf 15 = .ok (.invokevirtual 39, 3) := by decide +kernel
theorem dX7_ownOf_18 : decode cX7_ownOf 18 = .ok (.ireturn, 1) := by decide +kernel
theorem dX7_settlementOf_0 : decode cX7_settlementOf 0 = .ok (.aload_n 0, 1) := by decide +kernel
theorem dX7_settlementOf_1 : decode cX7_settlementOf 1 = .ok (.iload_n 1, 1) := by decide +kernel
theorem dX7_settlementOf_2 : decode cX7_settlementOf 2 = .ok (.iload_n 2, 1) := by decide +kernel
theorem dX7_settlementOf_3 : decode cX7_settlementOf 3 = .ok (.iload_n 3, 1) := by decide +kernel
theorem dX7_settlementOf_4 : decode cX7_settlementOf 4 = .ok (.invokevirtual 31, 3) := by decide +kernel
theorem dX7_settlementOf_7 : decode cX7_settlementOf 7 = .ok (.aload_n 0, 1) := by decide +kernel
theorem dX7_settlementOf_8 : decode cX7_settlementOf 8 = .ok (.iconst 0, 1) := by decide +kernel
theorem dX7_settlementOf_9 : decode cX7_settlementOf 9 = .ok (.invokevirtual 42, 3) := by decide +kernel
theorem dX7_settlementOf_12 : decode cX7_settlementOf 12 = .ok (.istore 4, 2) := by decide +kernel
theorem dX7_settlementOf_14 : decode cX7_settlementOf 14 = .ok (.aload_n 0, 1) := by decide +kernel
theorem dX7_settlementOf_15 : decode cX7_settlementOf 15 = .ok (.iload 4, 2) := by decide +kernel
theorem dX7_settlementOf_17 : decode cX7_settlementOf 17 = .ok (.aload_n 0, 1) := by decide +kernel
theorem dX7_settlementOf_18 : decode cX7_settlementOf 18 = .ok (.iload 4, 2) := by decide +kernel
theorem dX7_settlementOf_20 : decode cX7_settlementOf 20 = .ok (.iconst 0, 1) := by decide +kernel
theorem dX7_settlementOf_21 : decode cX7_settlementOf 21 = .ok (.invokevirtual 35, 3) := by decide +kernel
theorem dX7_settlementOf_24 : decode cX7_settlementOf 24 = .ok (.invokevirtual 39, 3) := by decide +kernel
theorem dX7_settlementOf_27 : decode cX7_settlementOf 27 = .ok (.ireturn, 1) := by decide +kernel
theorem dX7_tellerOf_0 : decode cX7_tellerOf 0 = .ok (.aload_n 0, 1) := by decide +kernel
theorem dX7_tellerOf_1 : decode cX7_tellerOf 1 = .ok (.iload_n 1, 1) := by decide +kernel
theorem dX7_tellerOf_2 : decode cX7_tellerOf 2 = .ok (.iload_n 2, 1) := by decide +kernel
theorem dX7_tellerOf_3 : decode cX7_tellerOf 3 = .ok (.iload_n 3, 1) := by decide +kernel
theorem dX7_tellerOf_4 : decode cX7_tellerOf 4 = .ok (.invokevirtual 31, 3) := by decide +kernel
theorem dX7_tellerOf_7 : decode cX7_tellerOf 7 = .ok (.aload_n 0, 1) := by decide +kernel
theorem dX7_tellerOf_8 : decode cX7_tellerOf 8 = .ok (.getfield 15, 3) := by decide +kernel
theorem dX7_tellerOf_11 : decode cX7_tellerOf 11 = .ok (.aload_n 0, 1) := by decide +kernel
theorem dX7_tellerOf_12 : decode cX7_tellerOf 12 = .ok (.iconst 0, 1) := by decide +kernel
theorem dX7_tellerOf_13 : decode cX7_tellerOf 13 = .ok (.invokevirtual 42, 3) := by decide +kernel
theorem dX7_tellerOf_16 : decode cX7_tellerOf 16 = .ok (.iaload, 1) := by decide +kernel
theorem dX7_tellerOf_17 : decode cX7_tellerOf 17 = .ok (.ireturn, 1) := by decide +kernel
theorem dX7_couldBe_0 : decode cX7_couldBe 0 = .ok (.aload_n 0, 1) := by decide +kernel
theorem dX7_couldBe_1 : decode cX7_couldBe 1 = .ok (.iload_n 1, 1) := by decide +kernel
theorem dX7_couldBe_2 : decode cX7_couldBe 2 = .ok (.iload_n 2, 1) := by decide +kernel
theorem dX7_couldBe_3 : decode cX7_couldBe 3 = .ok (.iload_n 3, 1) := by decide +kernel
theorem dX7_couldBe_4 : decode cX7_couldBe 4 = .ok (.invokevirtual 31, 3) := by decide +kernel
theorem dX7_couldBe_7 : decode cX7_couldBe 7 = .ok (.aload_n 0, 1) := by decide +kernel
theorem dX7_couldBe_8 : decode cX7_couldBe 8 = .ok (.invokevirtual 46, 3) := by decide +kernel
theorem dX7_couldBe_11 : decode cX7_couldBe 11 = .ok (.aload_n 0, 1) := by decide +kernel
theorem dX7_couldBe_12 : decode cX7_couldBe 12 = .ok (.bipush (-2), 2) := by decide +kernel
theorem dX7_couldBe_14 : decode cX7_couldBe 14 = .ok (.invokevirtual 49, 3) := by decide +kernel
theorem dX7_couldBe_17 : decode cX7_couldBe 17 = .ok (.ireturn, 1) := by decide +kernel
theorem dX7_bestQuestion_0 : decode cX7_bestQuestion 0 = .ok (.aload_n 0, 1) := by decide +kernel
theorem dX7_bestQuestion_1 : decode cX7_bestQuestion 1 = .ok (.iload_n 1, 1) := by decide +kernel
theorem dX7_bestQuestion_2 : decode cX7_bestQuestion 2 = .ok (.iload_n 2, 1) := by decide +kernel
theorem dX7_bestQuestion_3 : decode cX7_bestQuestion 3 = .ok (.iload_n 3, 1) := by decide +kernel
theorem dX7_bestQuestion_4 : decode cX7_bestQuestion 4 = .ok (.invokevirtual 31, 3) := by decide +kernel
theorem dX7_bestQuestion_7 : decode cX7_bestQuestion 7 = .ok (.aload_n 0, 1) := by decide +kernel
theorem dX7_bestQuestion_8 : decode cX7_bestQuestion 8 = .ok (.invokevirtual 46, 3) := by decide +kernel
theorem dX7_bestQuestion_11 : decode cX7_bestQuestion 11 = .ok (.ldc 52, 2) := by decide +kernel
theorem dX7_bestQuestion_13 : decode cX7_bestQuestion 13 = .ok (.istore 4, 2) := by decide +kernel
theorem dX7_bestQuestion_15 : decode cX7_bestQuestion 15 = .ok (.bipush 8, 2) := by decide +kernel
theorem dX7_bestQuestion_17 : decode cX7_bestQuestion 17 = .ok (.istore 5, 2) := by decide +kernel
theorem dX7_bestQuestion_19 : decode cX7_bestQuestion 19 = .ok (.iconst 0, 1) := by decide +kernel
theorem dX7_bestQuestion_20 : decode cX7_bestQuestion 20 = .ok (.istore 6, 2) := by decide +kernel
theorem dX7_bestQuestion_22 : decode cX7_bestQuestion 22 = .ok (.iload 6, 2) := by decide +kernel
theorem dX7_bestQuestion_24 : decode cX7_bestQuestion 24 = .ok (.aload_n 0, 1) := by decide +kernel
theorem dX7_bestQuestion_25 : decode cX7_bestQuestion 25 = .ok (.getfield 27, 3) := by decide +kernel
theorem dX7_bestQuestion_28 : decode cX7_bestQuestion 28 = .ok (.getfield 53, 3) := by decide +kernel
theorem dX7_bestQuestion_31 : decode cX7_bestQuestion 31 = .ok (.getfield 59, 3) := by decide +kernel
theorem dX7_bestQuestion_34 : decode cX7_bestQuestion 34 = .ok (.if_icmp .ge 52, 3) := by decide +kernel
theorem dX7_bestQuestion_37 : decode cX7_bestQuestion 37 = .ok (.aload_n 0, 1) := by decide +kernel
theorem dX7_bestQuestion_38 : decode cX7_bestQuestion 38 = .ok (.getfield 27, 3) := by decide +kernel
theorem dX7_bestQuestion_41 : decode cX7_bestQuestion 41 = .ok (.getfield 53, 3) := by decide +kernel
theorem dX7_bestQuestion_44 : decode cX7_bestQuestion 44 = .ok (.iload 6, 2) := by decide +kernel
theorem dX7_bestQuestion_46 : decode cX7_bestQuestion 46 = .ok (.invokevirtual 65, 3) := by decide +kernel
theorem dX7_bestQuestion_49 : decode cX7_bestQuestion 49 = .ok (.ifCond .eq 12, 3) := by decide +kernel
theorem dX7_bestQuestion_52 : decode cX7_bestQuestion 52 = .ok (.aload_n 0, 1) := by decide +kernel
theorem dX7_bestQuestion_53 : decode cX7_bestQuestion 53 = .ok (.iload 6, 2) := by decide +kernel
theorem dX7_bestQuestion_55 : decode cX7_bestQuestion 55 = .ok (.invokevirtual 69, 3) := by decide +kernel
theorem dX7_bestQuestion_58 : decode cX7_bestQuestion 58 = .ok (.goto 5, 3) := by decide +kernel
theorem dX7_bestQuestion_61 : decode cX7_bestQuestion 61 = .ok (.iload 5, 2) := by decide +kernel
theorem dX7_bestQuestion_63 : decode cX7_bestQuestion 63 = .ok (.istore 7, 2) := by decide +kernel
theorem dX7_bestQuestion_65 : decode cX7_bestQuestion 65 = .ok (.iload 7, 2) := by decide +kernel
theorem dX7_bestQuestion_67 : decode cX7_bestQuestion 67 = .ok (.iload 5, 2) := by decide +kernel
theorem dX7_bestQuestion_69 : decode cX7_bestQuestion 69 = .ok (.if_icmp .ge 11, 3) := by decide +kernel
theorem dX7_bestQuestion_72 : decode cX7_bestQuestion 72 = .ok (.iload 7, 2) := by decide +kernel
theorem dX7_bestQuestion_74 : decode cX7_bestQuestion 74 = .ok (.istore 5, 2) := by decide +kernel
theorem dX7_bestQuestion_76 : decode cX7_bestQuestion 76 = .ok (.iload 6, 2) := by decide +kernel
theorem dX7_bestQuestion_78 : decode cX7_bestQuestion 78 = .ok (.istore 4, 2) := by decide +kernel
theorem dX7_bestQuestion_80 : decode cX7_bestQuestion 80 = .ok (.iinc 6 1, 3) := by decide +kernel
theorem dX7_bestQuestion_83 : decode cX7_bestQuestion 83 = .ok (.goto (-61), 3) := by decide +kernel
theorem dX7_bestQuestion_86 : decode cX7_bestQuestion 86 = .ok (.iload 4, 2) := by decide +kernel
theorem dX7_bestQuestion_88 : decode cX7_bestQuestion 88 = .ok (.ireturn, 1) := by decide +kernel
theorem dX7_prepare_0 : decode cX7_prepare 0 = .ok (.iconst 0, 1) := by decide +kernel
theorem dX7_prepare_1 : decode cX7_prepare 1 = .ok (.istore 4, 2) := by decide +kernel
theorem dX7_prepare_3 : decode cX7_prepare 3 = .ok (.iload 4, 2) := by decide +kernel
theorem dX7_prepare_5 : decode cX7_prepare 5 = .ok (.aload_n 0, 1) := by decide +kernel
theorem dX7_prepare_6 : decode cX7_prepare 6 = .ok (.getfield 27, 3) := by decide +kernel
theorem dX7_prepare_9 : decode cX7_prepare 9 = .ok (.getfield 53, 3) := by decide +kernel
theorem dX7_prepare_12 : decode cX7_prepare 12 = .ok (.getfield 59, 3) := by decide +kernel
theorem dX7_prepare_15 : decode cX7_prepare 15 = .ok (.if_icmp .ge 44, 3) := by decide +kernel
theorem dX7_prepare_18 : decode cX7_prepare 18 = .ok (.aload_n 0, 1) := by decide +kernel
theorem dX7_prepare_19 : decode cX7_prepare 19 = .ok (.getfield 9, 3) := by decide +kernel
theorem dX7_prepare_22 : decode cX7_prepare 22 = .ok (.iload 4, 2) := by decide +kernel
theorem dX7_prepare_24 : decode cX7_prepare 24 = .ok (.aload_n 0, 1) := by decide +kernel
theorem dX7_prepare_25 : decode cX7_prepare 25 = .ok (.getfield 27, 3) := by decide +kernel
theorem dX7_prepare_28 : decode cX7_prepare 28 = .ok (.getfield 53, 3) := by decide +kernel
theorem dX7_prepare_31 : decode cX7_prepare 31 = .ok (.getfield 72, 3) := by decide +kernel
theorem dX7_prepare_34 : decode cX7_prepare 34 = .ok (.iload 4, 2) := by decide +kernel
theorem dX7_prepare_36 : decode cX7_prepare 36 = .ok (.iaload, 1) := by decide +kernel
theorem dX7_prepare_37 : decode cX7_prepare 37 = .ok (.iload_n 3, 1) := by decide +kernel
theorem dX7_prepare_38 : decode cX7_prepare 38 = .ok (.if_icmp .gt 13, 3) := by decide +kernel
theorem dX7_prepare_41 : decode cX7_prepare 41 = .ok (.aload_n 0, 1) := by decide +kernel
theorem dX7_prepare_42 : decode cX7_prepare 42 = .ok (.iload 4, 2) := by decide +kernel
theorem dX7_prepare_44 : decode cX7_prepare 44 = .ok (.iload_n 2, 1) := by decide +kernel
theorem dX7_prepare_45 : decode cX7_prepare 45 = .ok (.invokevirtual 75, 3) := by decide +kernel
theorem dX7_prepare_48 : decode cX7_prepare 48 = .ok (.goto 4, 3) := by decide +kernel
theorem dX7_prepare_51 : decode cX7_prepare 51 = .ok (.iconst (-1), 1) := by decide +kernel
theorem dX7_prepare_52 : decode cX7_prepare 52 = .ok (.iastore, 1) := by decide +kernel
theorem dX7_prepare_53 : decode cX7_prepare 53 = .ok (.iinc 4 1, 3) := by decide +kernel
theorem dX7_prepare_56 : decode cX7_prepare 56 = .ok (.goto (-53), 3) := by decide +kernel
theorem dX7_prepare_59 : decode cX7_prepare 59 = .ok (.aload_n 0, 1) := by decide +kernel
theorem dX7_prepare_60 : decode cX7_prepare 60 = .ok (.iconst 0, 1) := by decide +kernel
theorem dX7_prepare_61 : decode cX7_prepare 61 = .ok (.putfield 78, 3) := by decide +kernel
theorem dX7_prepare_64 : decode cX7_prepare 64 = .ok (.iload_n 1, 1) := by decide +kernel
theorem dX7_prepare_65 : decode cX7_prepare 65 = .ok (.istore 4, 2) := by decide +kernel
theorem dX7_prepare_67 : decode cX7_prepare 67 = .ok (.aload_n 0, 1) := by decide +kernel
theorem dX7_prepare_68 : decode cX7_prepare 68 = .ok (.getfield 78, 3) := by decide +kernel
theorem dX7_prepare_71 : decode cX7_prepare 71 = .ok (.bipush 10, 2) := by decide +kernel
theorem dX7_prepare_73 : decode cX7_prepare 73 = .ok (.if_icmp .ge 67, 3) := by decide +kernel
theorem dX7_prepare_76 : decode cX7_prepare 76 = .ok (.aload_n 0, 1) := by decide +kernel
theorem dX7_prepare_77 : decode cX7_prepare 77 = .ok (.getfield 27, 3) := by decide +kernel
theorem dX7_prepare_80 : decode cX7_prepare 80 = .ok (.getfield 81, 3) := by decide +kernel
theorem dX7_prepare_83 : decode cX7_prepare 83 = .ok (.iload 4, 2) := by decide +kernel
theorem dX7_prepare_85 : decode cX7_prepare 85 = .ok (.invokevirtual 85, 3) := by decide +kernel
theorem dX7_prepare_88 : decode cX7_prepare 88 = .ok (.ifCond .eq 52, 3) := by decide +kernel
theorem dX7_prepare_91 : decode cX7_prepare 91 = .ok (.aload_n 0, 1) := by decide +kernel
theorem dX7_prepare_92 : decode cX7_prepare 92 = .ok (.getfield 15, 3) := by decide +kernel
theorem dX7_prepare_95 : decode cX7_prepare 95 = .ok (.aload_n 0, 1) := by decide +kernel
theorem dX7_prepare_96 : decode cX7_prepare 96 = .ok (.getfield 78, 3) := by decide +kernel
theorem dX7_prepare_99 : decode cX7_prepare 99 = .ok (.iload 4, 2) := by decide +kernel
theorem dX7_prepare_101 : decode cX7_prepare 101 = .ok (.iastore, 1) := by decide +kernel
theorem dX7_prepare_102 : decode cX7_prepare 102 = .ok (.aload_n 0, 1) := by decide +kernel
theorem dX7_prepare_103 : decode cX7_prepare 103 = .ok (.getfield 18, 3) := by decide +kernel
theorem dX7_prepare_106 : decode cX7_prepare 106 = .ok (.aload_n 0, 1) := by decide +kernel
theorem dX7_prepare_107 : decode cX7_prepare 107 = .ok (.getfield 78, 3) := by decide +kernel
theorem dX7_prepare_110 : decode cX7_prepare 110 = .ok (.aload_n 0, 1) := by decide +kernel
theorem dX7_prepare_111 : decode cX7_prepare 111 = .ok (.iload 4, 2) := by decide +kernel
theorem dX7_prepare_113 : decode cX7_prepare 113 = .ok (.iload_n 2, 1) := by decide +kernel
theorem dX7_prepare_114 : decode cX7_prepare 114 = .ok (.invokevirtual 90, 3) := by decide +kernel
theorem dX7_prepare_117 : decode cX7_prepare 117 = .ok (.iastore, 1) := by decide +kernel
theorem dX7_prepare_118 : decode cX7_prepare 118 = .ok (.aload_n 0, 1) := by decide +kernel
theorem dX7_prepare_119 : decode cX7_prepare 119 = .ok (.dup, 1) := by decide +kernel
theorem dX7_prepare_120 : decode cX7_prepare 120 = .ok (.getfield 78, 3) := by decide +kernel
theorem dX7_prepare_123 : decode cX7_prepare 123 = .ok (.iconst 1, 1) := by decide +kernel
theorem dX7_prepare_124 : decode cX7_prepare 124 = .ok (.iadd, 1) := by decide +kernel
theorem dX7_prepare_125 : decode cX7_prepare 125 = .ok (.putfield 78, 3) := by decide +kernel
theorem dX7_prepare_128 : decode cX7_prepare 128 = .ok (.aload_n 0, 1) := by decide +kernel
theorem dX7_prepare_129 : decode cX7_prepare 129 = .ok (.iload 4, 2) := by decide +kernel
theorem dX7_prepare_131 : decode cX7_prepare 131 = .ok (.iload_n 2, 1) := by decide +kernel
theorem dX7_prepare_132 : decode cX7_prepare 132 = .ok (.invokevirtual 93, 3) := by decide +kernel
theorem dX7_prepare_135 : decode cX7_prepare 135 = .ok (.istore 4, 2) := by decide +kernel
theorem dX7_prepare_137 : decode cX7_prepare 137 = .ok (.goto (-70), 3) := by decide +kernel
theorem dX7_prepare_140 : decode cX7_prepare 140 = .ok (.return_, 1) := by decide +kernel
theorem dX7_gainByFact_0 : decode cX7_gainByFact 0 = .ok (.aload_n 0, 1) := by decide +kernel
theorem dX7_gainByFact_1 : decode cX7_gainByFact 1 = .ok (.getfield 27, 3) := by decide +kernel
theorem dX7_gainByFact_4 : decode cX7_gainByFact 4 = .ok (.getfield 53, 3) := by decide +kernel
theorem dX7_gainByFact_7 : decode cX7_gainByFact 7 = .ok (.getfield 96, 3) := by decide +kernel
theorem dX7_gainByFact_10 : decode cX7_gainByFact 10 = .ok (.iload_n 1, 1) := by decide +kernel
theorem dX7_gainByFact_11 : decode cX7_gainByFact 11 = .ok (.iaload, 1) := by decide +kernel
theorem dX7_gainByFact_12 : decode cX7_gainByFact 12 = .ok (.istore_n 3, 1) := by decide +kernel
theorem dX7_gainByFact_13 : decode cX7_gainByFact 13 = .ok (.aload_n 0, 1) := by decide +kernel
theorem dX7_gainByFact_14 : decode cX7_gainByFact 14 = .ok (.getfield 27, 3) := by decide +kernel
theorem dX7_gainByFact_17 : decode cX7_gainByFact 17 = .ok (.getfield 53, 3) := by decide +kernel
theorem dX7_gainByFact_20 : decode cX7_gainByFact 20 = .ok (.getfield 99, 3) := by decide +kernel
theorem dX7_gainByFact_23 : decode cX7_gainByFact 23 = .ok (.iload_n 1, 1) := by decide +kernel
theorem dX7_gainByFact_24 : decode cX7_gainByFact 24 = .ok (.iaload, 1) := by decide +kernel
theorem dX7_gainByFact_25 : decode cX7_gainByFact 25 = .ok (.istore 4, 2) := by decide +kernel
theorem dX7_gainByFact_27 : decode cX7_gainByFact 27 = .ok (.aload_n 0, 1) := by decide +kernel
theorem dX7_gainByFact_28 : decode cX7_gainByFact 28 = .ok (.getfield 27, 3) := by decide +kernel
theorem dX7_gainByFact_31 : decode cX7_gainByFact 31 = .ok (.getfield 53, 3) := by decide +kernel
theorem dX7_gainByFact_34 : decode cX7_gainByFact 34 = .ok (.getfield 102, 3) := by decide +kernel
theorem dX7_gainByFact_37 : decode cX7_gainByFact 37 = .ok (.iload_n 1, 1) := by decide +kernel
theorem dX7_gainByFact_38 : decode cX7_gainByFact 38 = .ok (.iaload, 1) := by decide +kernel
theorem dX7_gainByFact_39 : decode cX7_gainByFact 39 = .ok (.ifCond .ne 7, 3) := by decide +kernel
theorem dX7_gainByFact_42 : decode cX7_gainByFact 42 = .ok (.iconst 1, 1) := by decide +kernel
theorem dX7_gainByFact_43 : decode cX7_gainByFact 43 = .ok (.goto 4, 3) := by decide +kernel
theorem dX7_gainByFact_46 : decode cX7_gainByFact 46 = .ok (.iconst 0, 1) := by decide +kernel
theorem dX7_gainByFact_47 : decode cX7_gainByFact 47 = .ok (.istore 5, 2) := by decide +kernel
theorem dX7_gainByFact_49 : decode cX7_gainByFact 49 = .ok (.iload 5, 2) := by decide +kernel
theorem dX7_gainByFact_51 : decode cX7_gainByFact 51 = .ok (.ifCond .eq 8, 3) := by decide +kernel
theorem dX7_gainByFact_54 : decode cX7_gainByFact 54 = .ok (.iload 4, 2) := by decide +kernel
theorem dX7_gainByFact_56 : decode cX7_gainByFact 56 = .ok (.goto 4, 3) := by decide +kernel
theorem dX7_gainByFact_59 : decode cX7_gainByFact 59 = .ok (.iload_n 3, 1) := by decide +kernel
theorem dX7_gainByFact_60 : decode cX7_gainByFact 60 = .ok (.istore 6, 2) := by decide +kernel
theorem dX7_gainByFact_62 : decode cX7_gainByFact 62 = .ok (.iload 5, 2) := by decide +kernel
theorem dX7_gainByFact_64 : decode cX7_gainByFact 64 = .ok (.ifCond .eq 25, 3) := by decide +kernel
theorem dX7_gainByFact_67 : decode cX7_gainByFact 67 = .ok (.aload_n 0, 1) := by decide +kernel
theorem dX7_gainByFact_68 : decode cX7_gainByFact 68 = .ok (.getfield 27, 3) := by decide +kernel
theorem dX7_gainByFact_71 : decode cX7_gainByFact 71 = .ok (.getfield 105, 3) := by decide +kernel
theorem dX7_gainByFact_74 : decode cX7_gainByFact 74 = .ok (.iconst 1, 1) := by decide +kernel
theorem dX7_gainByFact_75 : decode cX7_gainByFact 75 = .ok (.iload 4, 2) := by decide +kernel
theorem dX7_gainByFact_77 : decode cX7_gainByFact 77 = .ok (.iload 4, 2) := by decide +kernel
theorem dX7_gainByFact_79 : decode cX7_gainByFact 79 = .ok (.iload_n 3, 1) := by decide +kernel
theorem dX7_gainByFact_80 : decode cX7_gainByFact 80 = .ok (.isub, 1) := by decide +kernel
theorem dX7_gainByFact_81 : decode cX7_gainByFact 81 = .ok (.iconst 1, 1) := by decide +kernel
theorem dX7_gainByFact_82 : decode cX7_gainByFact 82 = .ok (.iadd, 1) := by decide +kernel
theorem dX7_gainByFact_83 : decode cX7_gainByFact 83 = .ok (.invokevirtual 109, 3) := by decide +kernel
theorem dX7_gainByFact_86 : decode cX7_gainByFact 86 = .ok (.goto 27, 3) := by decide +kernel
theorem dX7_gainByFact_89 : decode cX7_gainByFact 89 = .ok (.aload_n 0, 1) := by decide +kernel
theorem dX7_gainByFact_90 : decode cX7_gainByFact 90 = .ok (.getfield 27, 3) := by decide +kernel
theorem dX7_gainByFact_93 : decode cX7_gainByFact 93 = .ok (.getfield 105, 3) := by decide +kernel
theorem dX7_gainByFact_96 : decode cX7_gainByFact 96 = .ok (.iconst 2, 1) := by decide +kernel
theorem dX7_gainByFact_97 : decode cX7_gainByFact 97 = .ok (.iload_n 3, 1) := by decide +kernel
theorem dX7_gainByFact_98 : decode cX7_gainByFact 98 = .ok (.aload_n 0, 1) := by decide +kernel
theorem dX7_gainByFact_99 : decode cX7_gainByFact 99 = .ok (.getfield 27, 3) := by decide +kernel
theorem dX7_gainByFact_102 : decode cX7_gainByFact 102 = .ok (.getfield 53, 3) := by decide +kernel
theorem dX7_gainByFact_105 : decode cX7_gainByFact 105 = .ok (.getfield 115, 3) := by decide +kernel
theorem dX7_gainByFact_108 : decode cX7_gainByFact 108 = .ok (.iload_n 1, 1) := by decide +kernel
theorem dX7_gainByFact_109 : decode cX7_gainByFact 109 = .ok (.iaload, 1) := by decide +kernel
theorem dX7_gainByFact_110 : decode cX7_gainByFact 110 = .ok (.invokevirtual 109, 3) := by decide +kernel
theorem dX7_gainByFact_113 : decode cX7_gainByFact 113 = .ok (.istore 7, 2) := by decide +kernel
theorem dX7_gainByFact_115 : decode cX7_gainByFact 115 = .ok (.iload 7, 2) := by decide +kernel
theorem dX7_gainByFact_117 : decode cX7_gainByFact 117 = .ok (.ifCond .eq 14, 3) := by decide +kernel
theorem dX7_gainByFact_120 : decode cX7_gainByFact 120 = .ok (.iload 6, 2) := by decide +kernel
theorem dX7_gainByFact_122 : decode cX7_gainByFact 122 = .ok (.iload_n 2, 1) := by decide +kernel
theorem dX7_gainByFact_123 : decode cX7_gainByFact 123 = .ok (.if_icmp .gt 8, 3) := by decide +kernel
theorem dX7_gainByFact_126 : decode cX7_gainByFact 126 = .ok (.iload 6, 2) := by decide +kernel
theorem dX7_gainByFact_128 : decode cX7_gainByFact 128 = .ok (.goto 4, 3) := by decide +kernel
theorem dX7_gainByFact_131 : decode cX7_gainByFact 131 = .ok (.iconst (-1), 1) := by decide +kernel
theorem dX7_gainByFact_132 : decode cX7_gainByFact 132 = .ok (.ireturn, 1) := by decide +kernel
theorem dX7_gainByBirth_0 : decode cX7_gainByBirth 0 = .ok (.aload_n 0, 1) := by decide +kernel
theorem dX7_gainByBirth_1 : decode cX7_gainByBirth 1 = .ok (.getfield 27, 3) := by decide +kernel
theorem dX7_gainByBirth_4 : decode cX7_gainByBirth 4 = .ok (.getfield 81, 3) := by decide +kernel
theorem dX7_gainByBirth_7 : decode cX7_gainByBirth 7 = .ok (.getfield 118, 3) := by decide +kernel
theorem dX7_gainByBirth_10 : decode cX7_gainByBirth 10 = .ok (.iload_n 1, 1) := by decide +kernel
theorem dX7_gainByBirth_11 : decode cX7_gainByBirth 11 = .ok (.iaload, 1) := by decide +kernel
theorem dX7_gainByBirth_12 : decode cX7_gainByBirth 12 = .ok (.istore_n 3, 1) := by decide +kernel
theorem dX7_gainByBirth_13 : decode cX7_gainByBirth 13 = .ok (.iload_n 3, 1) := by decide +kernel
theorem dX7_gainByBirth_14 : decode cX7_gainByBirth 14 = .ok (.iload_n 2, 1) := by decide +kernel
theorem dX7_gainByBirth_15 : decode cX7_gainByBirth 15 = .ok (.if_icmp .gt 22, 3) := by decide +kernel
theorem dX7_gainByBirth_18 : decode cX7_gainByBirth 18 = .ok (.aload_n 0, 1) := by decide +kernel
theorem dX7_gainByBirth_19 : decode cX7_gainByBirth 19 = .ok (.getfield 27, 3) := by decide +kernel
theorem dX7_gainByBirth_22 : decode cX7_gainByBirth 22 = .ok (.getfield 105, 3) := by decide +kernel
theorem dX7_gainByBirth_25 : decode cX7_gainByBirth 25 = .ok (.iconst 0, 1) := by decide +kernel
theorem dX7_gainByBirth_26 : decode cX7_gainByBirth 26 = .ok (.iload_n 3, 1) := by decide +kernel
theorem dX7_gainByBirth_27 : decode cX7_gainByBirth 27 = .ok (.invokevirtual 121, 3) := by decide +kernel
theorem dX7_gainByBirth_30 : decode cX7_gainByBirth 30 = .ok (.ifCond .eq 7, 3) := by decide +kernel
theorem dX7_gainByBirth_33 : decode cX7_gainByBirth 33 = .ok (.iload_n 3, 1) := by decide +kernel
theorem dX7_gainByBirth_34 : decode cX7_gainByBirth 34 = .ok (.goto 4, 3) := by decide +kernel
theorem dX7_gainByBirth_37 : decode cX7_gainByBirth 37 = .ok (.iconst (-1), 1) := by decide +kernel
theorem dX7_gainByBirth_38 : decode cX7_gainByBirth 38 = .ok (.ireturn, 1) := by decide +kernel
theorem dX7_leaderOf_0 : decode cX7_leaderOf 0 = .ok (.aload_n 0, 1) := by decide +kernel
theorem dX7_leaderOf_1 : decode cX7_leaderOf 1 = .ok (.getfield 27, 3) := by decide +kernel
theorem dX7_leaderOf_4 : decode cX7_leaderOf 4 = .ok (.getfield 81, 3) := by decide +kernel
theorem dX7_leaderOf_7 : decode cX7_leaderOf 7 = .ok (.getfield 118, 3) := by decide +kernel
theorem dX7_leaderOf_10 : decode cX7_leaderOf 10 = .ok (.iload_n 1, 1) := by decide +kernel
theorem dX7_leaderOf_11 : decode cX7_leaderOf 11 = .ok (.iaload, 1) := by decide +kernel
theorem dX7_leaderOf_12 : decode cX7_leaderOf 12 = .ok (.istore_n 3, 1) := by decide +kernel
theorem dX7_leaderOf_13 : decode cX7_leaderOf 13 = .ok (.aload_n 0, 1) := by decide +kernel
theorem dX7_leaderOf_14 : decode cX7_leaderOf 14 = .ok (.getfield 27, 3) := by decide +kernel
theorem dX7_leaderOf_17 : decode cX7_leaderOf 17 = .ok (.getfield 81, 3) := by decide +kernel
theorem dX7_leaderOf_20 : decode cX7_leaderOf 20 = .ok (.getfield 125, 3) := by decide +kernel
theorem dX7_leaderOf_23 : decode cX7_leaderOf 23 = .ok (.iload_n 1, 1) := by decide +kernel
theorem dX7_leaderOf_24 : decode cX7_leaderOf 24 = .ok (.iaload, 1) := by decide +kernel
theorem dX7_leaderOf_25 : decode cX7_leaderOf 25 = .ok (.istore 4, 2) := by decide +kernel
theorem dX7_leaderOf_27 : decode cX7_leaderOf 27 = .ok (.iconst 0, 1) := by decide +kernel
theorem dX7_leaderOf_28 : decode cX7_leaderOf 28 = .ok (.istore 5, 2) := by decide +kernel
theorem dX7_leaderOf_30 : decode cX7_leaderOf 30 = .ok (.aload_n 0, 1) := by decide +kernel
theorem dX7_leaderOf_31 : decode cX7_leaderOf 31 = .ok (.getfield 27, 3) := by decide +kernel
theorem dX7_leaderOf_34 : decode cX7_leaderOf 34 = .ok (.getfield 81, 3) := by decide +kernel
theorem dX7_leaderOf_37 : decode cX7_leaderOf 37 = .ok (.getfield 128, 3) := by decide +kernel
theorem dX7_leaderOf_40 : decode cX7_leaderOf 40 = .ok (.iload_n 1, 1) := by decide +kernel
theorem dX7_leaderOf_41 : decode cX7_leaderOf 41 = .ok (.iaload, 1) := by decide +kernel
theorem dX7_leaderOf_42 : decode cX7_leaderOf 42 = .ok (.iconst 1, 1) := by decide +kernel
theorem dX7_leaderOf_43 : decode cX7_leaderOf 43 = .ok (.if_icmp .ne 35, 3) := by decide +kernel
theorem dX7_leaderOf_46 : decode cX7_leaderOf 46 = .ok (.iload 4, 2) := by decide +kernel
theorem dX7_leaderOf_48 : decode cX7_leaderOf 48 = .ok (.iload_n 2, 1) := by decide +kernel
theorem dX7_leaderOf_49 : decode cX7_leaderOf 49 = .ok (.if_icmp .gt 23, 3) := by decide +kernel
theorem dX7_leaderOf_52 : decode cX7_leaderOf 52 = .ok (.aload_n 0, 1) := by decide +kernel
theorem dX7_leaderOf_53 : decode cX7_leaderOf 53 = .ok (.getfield 27, 3) := by decide +kernel
theorem dX7_leaderOf_56 : decode cX7_leaderOf 56 = .ok (.getfield 105, 3) := by decide +kernel
theorem dX7_leaderOf_59 : decode cX7_leaderOf 59 = .ok (.iconst 3, 1) := by decide +kernel
theorem dX7_leaderOf_60 : decode cX7_leaderOf 60 = .ok (.iload 4, 2) := by decide +kernel
theorem dX7_leaderOf_62 : decode cX7_leaderOf 62 = .ok (.invokevirtual 121, 3) := by decide +kernel
theorem dX7_leaderOf_65 : decode cX7_leaderOf 65 = .ok (.ifCond .eq 7, 3) := by decide +kernel
theorem dX7_leaderOf_68 : decode cX7_leaderOf 68 = .ok (.iconst 1, 1) := by decide +kernel
theorem dX7_leaderOf_69 : decode cX7_leaderOf 69 = .ok (.goto 4, 3) := by decide +kernel
theorem dX7_leaderOf_72 : decode cX7_leaderOf 72 = .ok (.iconst 0, 1) := by decide +kernel
theorem dX7_leaderOf_73 : decode cX7_leaderOf 73 = .ok (.istore 5, 2) := by decide +kernel
theorem dX7_leaderOf_75 : decode cX7_leaderOf 75 = .ok (.goto 49, 3) := by decide +kernel
theorem dX7_leaderOf_78 : decode cX7_leaderOf 78 = .ok (.aload_n 0, 1) := by decide +kernel
theorem dX7_leaderOf_79 : decode cX7_leaderOf 79 = .ok (.getfield 27, 3) := by decide +kernel
theorem dX7_leaderOf_82 : decode cX7_leaderOf 82 = .ok (.getfield 81, 3) := by decide +kernel
theorem dX7_leaderOf_85 : decode cX7_leaderOf 85 = .ok (.getfield 128, 3) := by decide +kernel
theorem dX7_leaderOf_88 : decode cX7_leaderOf 88 = .ok (.iload_n 1, 1) := by decide +kernel
theorem dX7_leaderOf_89 : decode cX7_leaderOf 89 = .ok (.iaload, 1) := by decide +kernel
theorem dX7_leaderOf_90 : decode cX7_leaderOf 90 = .ok (.iconst 2, 1) := by decide +kernel
theorem dX7_leaderOf_91 : decode cX7_leaderOf 91 = .ok (.if_icmp .ne 33, 3) := by decide +kernel
theorem dX7_leaderOf_94 : decode cX7_leaderOf 94 = .ok (.iload_n 3, 1) := by decide +kernel
theorem dX7_leaderOf_95 : decode cX7_leaderOf 95 = .ok (.iload_n 2, 1) := by decide +kernel
theorem dX7_leaderOf_96 : decode cX7_leaderOf 96 = .ok (.if_icmp .gt 25, 3) := by decide +kernel
theorem dX7_leaderOf_99 : decode cX7_leaderOf 99 = .ok (.aload_n 0, 1) := by decide +kernel
theorem dX7_leaderOf_100 : decode cX7_leaderOf 100 = .ok (.getfield 27, 3) := by decide +kernel
theorem dX7_leaderOf_103 : decode cX7_leaderOf 103 = .ok (.getfield 105, 3) := by decide +kernel
theorem dX7_leaderOf_106 : decode cX7_leaderOf 106 = .ok (.iconst 4, 1) := by decide +kernel
theorem dX7_leaderOf_107 : decode cX7_leaderOf 107 = .ok (.iload_n 3, 1) := by decide +kernel
theorem dX7_leaderOf_108 : decode cX7_leaderOf 108 = .ok (.iload_n 2, 1) := by decide +kernel
theorem dX7_leaderOf_109 : decode cX7_leaderOf 109 = .ok (.iload_n 3, 1) := by decide +kernel
theorem dX7_leaderOf_110 : decode cX7_leaderOf 110 = .ok (.isub, 1) := by decide +kernel
theorem dX7_leaderOf_111 : decode cX7_leaderOf 111 = .ok (.invokevirtual 129, 3) := by decide +kernel
theorem dX7_leaderOf_114 : decode cX7_leaderOf 114 = .ok (.ifCond .eq 7, 3) := by decide +kernel
theorem dX7_leaderOf_117 : decode cX7_leaderOf 117 = .ok (.iconst 1, 1) := by decide +kernel
theorem dX7_leaderOf_118 : decode cX7_leaderOf 118 = .ok (.goto 4, 3) := by decide +kernel
theorem dX7_leaderOf_121 : decode cX7_leaderOf 121 = .ok (.iconst 0, 1) := by decide +kernel
theorem dX7_leaderOf_122 : decode cX7_leaderOf 122 = .ok (.istore 5, 2) := by decide +kernel
theorem dX7_leaderOf_124 : decode cX7_leaderOf 124 = .ok (.iload 5, 2) := by decide +kernel
theorem dX7_leaderOf_126 : decode cX7_leaderOf 126 = .ok (.ifCond .eq 18, 3) := by decide +kernel
theorem dX7_leaderOf_129 : decode cX7_leaderOf 129 = .ok (.aload_n 0, 1) := by decide +kernel
theorem dX7_leaderOf_130 : decode cX7_leaderOf 130 = .ok (.getfield 27, 3) := by decide +kernel
theorem dX7_leaderOf_133 : decode cX7_leaderOf 133 = .ok (.getfield 81, 3) := by decide +kernel
theorem dX7_leaderOf_136 : decode cX7_leaderOf 136 = .ok (.getfield 132, 3) := by decide +kernel
theorem dX7_leaderOf_139 : decode cX7_leaderOf 139 = .ok (.iload_n 1, 1) := by decide +kernel
theorem dX7_leaderOf_140 : decode cX7_leaderOf 140 = .ok (.iaload, 1) := by decide +kernel
theorem dX7_leaderOf_141 : decode cX7_leaderOf 141 = .ok (.goto 4, 3) := by decide +kernel
theorem dX7_leaderOf_144 : decode cX7_leaderOf 144 = .ok (.iconst (-1), 1) := by decide +kernel
theorem dX7_leaderOf_145 : decode cX7_leaderOf 145 = .ok (.ireturn, 1) := by decide +kernel
theorem dX7_latestGain_0 : decode cX7_latestGain 0 = .ok (.aload_n 0, 1) := by decide +kernel
theorem dX7_latestGain_1 : decode cX7_latestGain 1 = .ok (.getfield 18, 3) := by decide +kernel
theorem dX7_latestGain_4 : decode cX7_latestGain 4 = .ok (.iload_n 1, 1) := by decide +kernel
theorem dX7_latestGain_5 : decode cX7_latestGain 5 = .ok (.iaload, 1) := by decide +kernel
theorem dX7_latestGain_6 : decode cX7_latestGain 6 = .ok (.istore_n 3, 1) := by decide +kernel
theorem dX7_latestGain_7 : decode cX7_latestGain 7 = .ok (.iload_n 3, 1) := by decide +kernel
theorem dX7_latestGain_8 : decode cX7_latestGain 8 = .ok (.iconst (-1), 1) := by decide +kernel
theorem dX7_latestGain_9 : decode cX7_latestGain 9 = .ok (.if_icmp .ne 8, 3) := by decide +kernel
theorem dX7_latestGain_12 : decode cX7_latestGain 12 = .ok (.bipush (-2), 2) := by decide +kernel
theorem dX7_latestGain_14 : decode cX7_latestGain 14 = .ok (.goto 4, 3) := by decide +kernel
theorem dX7_latestGain_17 : decode cX7_latestGain 17 = .ok (.iconst (-1), 1) := by decide +kernel
theorem dX7_latestGain_18 : decode cX7_latestGain 18 = .ok (.istore 4, 2) := by decide +kernel
theorem dX7_latestGain_20 : decode cX7_latestGain 20 = .ok (.iconst 0, 1) := by decide +kernel
theorem dX7_latestGain_21 : decode cX7_latestGain 21 = .ok (.istore 5, 2) := by decide +kernel
theorem dX7_latestGain_23 : decode cX7_latestGain 23 = .ok (.iload 5, 2) := by decide +kernel
theorem dX7_latestGain_25 : decode cX7_latestGain 25 = .ok (.aload_n 0, 1) := by decide +kernel
theorem dX7_latestGain_26 : decode cX7_latestGain 26 = .ok (.getfield 27, 3) := by decide +kernel
theorem dX7_latestGain_29 : decode cX7_latestGain 29 = .ok (.getfield 53, 3) := by decide +kernel
theorem dX7_latestGain_32 : decode cX7_latestGain 32 = .ok (.getfield 59, 3) := by decide +kernel
theorem dX7_latestGain_35 : decode cX7_latestGain 35 = .ok (.if_icmp .ge 86, 3) := by decide +kernel
theorem dX7_latestGain_38 : decode cX7_latestGain 38 = .ok (.aload_n 0, 1) := by decide +kernel
theorem dX7_latestGain_39 : decode cX7_latestGain 39 = .ok (.getfield 27, 3) := by decide +kernel
theorem dX7_latestGain_42 : decode cX7_latestGain 42 = .ok (.getfield 53, 3) := by decide +kernel
theorem dX7_latestGain_45 : decode cX7_latestGain 45 = .ok (.getfield 135, 3) := by decide +kernel
theorem dX7_latestGain_48 : decode cX7_latestGain 48 = .ok (.iload 5, 2) := by decide +kernel
theorem dX7_latestGain_50 : decode cX7_latestGain 50 = .ok (.iaload, 1) := by decide +kernel
theorem dX7_latestGain_51 : decode cX7_latestGain 51 = .ok (.aload_n 0, 1) := by decide +kernel
theorem dX7_latestGain_52 : decode cX7_latestGain 52 = .ok (.getfield 15, 3) := by decide +kernel
theorem dX7_latestGain_55 : decode cX7_latestGain 55 = .ok (.iload_n 1, 1) := by decide +kernel
theorem dX7_latestGain_56 : decode cX7_latestGain 56 = .ok (.iaload, 1) := by decide +kernel
theorem dX7_latestGain_57 : decode cX7_latestGain 57 = .ok (.if_icmp .ne 16, 3) := by decide +kernel
theorem dX7_latestGain_60 : decode cX7_latestGain 60 = .ok (.iload_n 2, 1) := by decide +kernel
theorem dX7_latestGain_61 : decode cX7_latestGain 61 = .ok (.iload 5, 2) := by decide +kernel
theorem dX7_latestGain_63 : decode cX7_latestGain 63 = .ok (.ishr, 1) := by decide +kernel
theorem dX7_latestGain_64 : decode cX7_latestGain 64 = .ok (.iconst 1, 1) := by decide +kernel
theorem dX7_latestGain_65 : decode cX7_latestGain 65 = .ok (.iand, 1) := by decide +kernel
theorem dX7_latestGain_66 : decode cX7_latestGain 66 = .ok (.ifCond .ne 7, 3) := by decide +kernel
theorem dX7_latestGain_69 : decode cX7_latestGain 69 = .ok (.iconst 1, 1) := by decide +kernel
theorem dX7_latestGain_70 : decode cX7_latestGain 70 = .ok (.goto 4, 3) := by decide +kernel
theorem dX7_latestGain_73 : decode cX7_latestGain 73 = .ok (.iconst 0, 1) := by decide +kernel
theorem dX7_latestGain_74 : decode cX7_latestGain 74 = .ok (.istore 6, 2) := by decide +kernel
theorem dX7_latestGain_76 : decode cX7_latestGain 76 = .ok (.iload 6, 2) := by decide +kernel
theorem dX7_latestGain_78 : decode cX7_latestGain 78 = .ok (.ifCond .eq 37, 3) := by decide +kernel
theorem dX7_latestGain_81 : decode cX7_latestGain 81 = .ok (.aload_n 0, 1) := by decide +kernel
theorem dX7_latestGain_82 : decode cX7_latestGain 82 = .ok (.getfield 9, 3) := by decide +kernel
theorem dX7_latestGain_85 : decode cX7_latestGain 85 = .ok (.iload 5, 2) := by decide +kernel
theorem dX7_latestGain_87 : decode cX7_latestGain 87 = .ok (.iaload, 1) := by decide +kernel
theorem dX7_latestGain_88 : decode cX7_latestGain 88 = .ok (.iconst (-1), 1) := by decide +kernel
theorem dX7_latestGain_89 : decode cX7_latestGain 89 = .ok (.if_icmp .eq 26, 3) := by decide +kernel
theorem dX7_latestGain_92 : decode cX7_latestGain 92 = .ok (.aload_n 0, 1) := by decide +kernel
theorem dX7_latestGain_93 : decode cX7_latestGain 93 = .ok (.getfield 9, 3) := by decide +kernel
theorem dX7_latestGain_96 : decode cX7_latestGain 96 = .ok (.iload 5, 2) := by decide +kernel
theorem dX7_latestGain_98 : decode cX7_latestGain 98 = .ok (.iaload, 1) := by decide +kernel
theorem dX7_latestGain_99 : decode cX7_latestGain 99 = .ok (.iload_n 3, 1) := by decide +kernel
theorem dX7_latestGain_100 : decode cX7_latestGain 100 = .ok (.if_icmp .lt 15, 3) := by decide +kernel
theorem dX7_latestGain_103 : decode cX7_latestGain 103 = .ok (.iload 5, 2) := by decide +kernel
theorem dX7_latestGain_105 : decode cX7_latestGain 105 = .ok (.istore 4, 2) := by decide +kernel
theorem dX7_latestGain_107 : decode cX7_latestGain 107 = .ok (.aload_n 0, 1) := by decide +kernel
theorem dX7_latestGain_108 : decode cX7_latestGain 108 = .ok (.getfield 9, 3) := by decide +kernel
theorem dX7_latestGain_111 : decode cX7_latestGain 111 = .ok (.iload 5, 2) := by decide +kernel
theorem dX7_latestGain_113 : decode cX7_latestGain 113 = .ok (.iaload, 1) := by decide +kernel
theorem dX7_latestGain_114 : decode cX7_latestGain 114 = .ok (.istore_n 3, 1) := by decide +kernel
theorem dX7_latestGain_115 : decode cX7_latestGain 115 = .ok (.iinc 5 1, 3) := by decide +kernel
theorem dX7_latestGain_118 : decode cX7_latestGain 118 = .ok (.goto (-95), 3) := by decide +kernel
theorem dX7_latestGain_121 : decode cX7_latestGain 121 = .ok (.iload 4, 2) := by decide +kernel
theorem dX7_latestGain_123 : decode cX7_latestGain 123 = .ok (.ireturn, 1) := by decide +kernel
theorem dX7_parishBy_0 : decode cX7_parishBy 0 = .ok (.iload_n 2, 1) := by decide +kernel
theorem dX7_parishBy_1 : decode cX7_parishBy 1 = .ok (.iconst (-1), 1) := by decide +kernel
theorem dX7_parishBy_2 : decode cX7_parishBy 2 = .ok (.if_icmp .ne 21, 3) := by decide +kernel
theorem dX7_parishBy_5 : decode cX7_parishBy 5 = .ok (.aload_n 0, 1) := by decide +kernel
theorem dX7_parishBy_6 : decode cX7_parishBy 6 = .ok (.getfield 27, 3) := by decide +kernel
theorem dX7_parishBy_9 : decode cX7_parishBy 9 = .ok (.getfield 81, 3) := by decide +kernel
theorem dX7_parishBy_12 : decode cX7_parishBy 12 = .ok (.getfield 138, 3) := by decide +kernel
theorem dX7_parishBy_15 : decode cX7_parishBy 15 = .ok (.aload_n 0, 1) := by decide +kernel
theorem dX7_parishBy_16 : decode cX7_parishBy 16 = .ok (.getfield 15, 3) := by decide +kernel
theorem dX7_parishBy_19 : decode cX7_parishBy 19 = .ok (.iload_n 1, 1) := by decide +kernel
theorem dX7_parishBy_20 : decode cX7_parishBy 20 = .ok (.iaload, 1) := by decide +kernel
theorem dX7_parishBy_21 : decode cX7_parishBy 21 = .ok (.iaload, 1) := by decide +kernel
theorem dX7_parishBy_22 : decode cX7_parishBy 22 = .ok (.ireturn, 1) := by decide +kernel
theorem dX7_parishBy_23 : decode cX7_parishBy 23 = .ok (.aload_n 0, 1) := by decide +kernel
theorem dX7_parishBy_24 : decode cX7_parishBy 24 = .ok (.getfield 27, 3) := by decide +kernel
theorem dX7_parishBy_27 : decode cX7_parishBy 27 = .ok (.getfield 53, 3) := by decide +kernel
theorem dX7_parishBy_30 : decode cX7_parishBy 30 = .ok (.iload_n 2, 1) := by decide +kernel
theorem dX7_parishBy_31 : decode cX7_parishBy 31 = .ok (.invokevirtual 141, 3) := by decide +kernel
theorem dX7_parishBy_34 : decode cX7_parishBy 34 = .ok (.ifCond .eq 18, 3) := by decide +kernel
theorem dX7_parishBy_37 : decode cX7_parishBy 37 = .ok (.aload_n 0, 1) := by decide +kernel
theorem dX7_parishBy_38 : decode cX7_parishBy 38 = .ok (.getfield 27, 3) := by decide +kernel
theorem dX7_parishBy_41 : decode cX7_parishBy 41 = .ok (.getfield 53, 3) := by decide +kernel
theorem dX7_parishBy_44 : decode cX7_parishBy 44 = .ok (.getfield 142, 3) := by decide +kernel
theorem dX7_parishBy_47 : decode cX7_parishBy 47 = .ok (.iload_n 2, 1) := by decide +kernel
theorem dX7_parishBy_48 : decode cX7_parishBy 48 = .ok (.iaload, 1) := by decide +kernel
theorem dX7_parishBy_49 : decode cX7_parishBy 49 = .ok (.goto 4, 3) := by decide +kernel
theorem dX7_parishBy_52 : decode cX7_parishBy 52 = .ok (.iconst (-1), 1) := by decide +kernel
theorem dX7_parishBy_53 : decode cX7_parishBy 53 = .ok (.ireturn, 1) := by decide +kernel
theorem dX7_teller_0 : decode cX7_teller 0 = .ok (.aload_n 0, 1) := by decide +kernel
theorem dX7_teller_1 : decode cX7_teller 1 = .ok (.getfield 78, 3) := by decide +kernel
theorem dX7_teller_4 : decode cX7_teller 4 = .ok (.iconst 1, 1) := by decide +kernel
theorem dX7_teller_5 : decode cX7_teller 5 = .ok (.isub, 1) := by decide +kernel
theorem dX7_teller_6 : decode cX7_teller 6 = .ok (.istore_n 2, 1) := by decide +kernel
theorem dX7_teller_7 : decode cX7_teller 7 = .ok (.iload_n 2, 1) := by decide +kernel
theorem dX7_teller_8 : decode cX7_teller 8 = .ok (.ifCond .le 22, 3) := by decide +kernel
theorem dX7_teller_11 : decode cX7_teller 11 = .ok (.aload_n 0, 1) := by decide +kernel
theorem dX7_teller_12 : decode cX7_teller 12 = .ok (.iload_n 2, 1) := by decide +kernel
theorem dX7_teller_13 : decode cX7_teller 13 = .ok (.iload_n 1, 1) := by decide +kernel
theorem dX7_teller_14 : decode cX7_teller 14 = .ok (.invokevirtual 35, 3) := by decide +kernel
theorem dX7_teller_17 : decode cX7_teller 17 = .ok (.bipush (-2), 2) := by decide +kernel
theorem dX7_teller_19 : decode cX7_teller 19 = .ok (.if_icmp .eq 5, 3) := by decide +kernel
theorem dX7_teller_22 : decode cX7_teller 22 = .ok (.iload_n 2, 1) := by decide +kernel
theorem dX7_teller_23 : decode cX7_teller 23 = .ok (.ireturn, 1) := by decide +kernel
theorem dX7_teller_24 : decode cX7_teller 24 = .ok (.iinc 2 (-1), 3) := by decide +kernel
theorem dX7_teller_27 : decode cX7_teller 27 = .ok (.goto (-20), 3) := by decide +kernel
theorem dX7_teller_30 : decode cX7_teller 30 = .ok (.iconst 0, 1) := by decide +kernel
theorem dX7_teller_31 : decode cX7_teller 31 = .ok (.ireturn, 1) := by decide +kernel
theorem dX7_takeTurns_0 : decode cX7_takeTurns 0 = .ok (.iconst 0, 1) := by decide +kernel
theorem dX7_takeTurns_1 : decode cX7_takeTurns 1 = .ok (.istore_n 1, 1) := by decide +kernel
theorem dX7_takeTurns_2 : decode cX7_takeTurns 2 = .ok (.iconst 1, 1) := by decide +kernel
theorem dX7_takeTurns_3 : decode cX7_takeTurns 3 = .ok (.istore_n 2, 1) := by decide +kernel
theorem dX7_takeTurns_4 : decode cX7_takeTurns 4 = .ok (.aload_n 0, 1) := by decide +kernel
theorem dX7_takeTurns_5 : decode cX7_takeTurns 5 = .ok (.iconst 0, 1) := by decide +kernel
theorem dX7_takeTurns_6 : decode cX7_takeTurns 6 = .ok (.putfield 145, 3) := by decide +kernel
theorem dX7_takeTurns_9 : decode cX7_takeTurns 9 = .ok (.aload_n 0, 1) := by decide +kernel
theorem dX7_takeTurns_10 : decode cX7_takeTurns 10 = .ok (.getfield 145, 3) := by decide +kernel
theorem dX7_takeTurns_13 : decode cX7_takeTurns 13 = .ok (.bipush 9, 2) := by decide +kernel
theorem dX7_takeTurns_15 : decode cX7_takeTurns 15 = .ok (.if_icmp .ge 129, 3) := by decide +kernel
theorem dX7_takeTurns_18 : decode cX7_takeTurns 18 = .ok (.iload_n 2, 1) := by decide +kernel
theorem dX7_takeTurns_19 : decode cX7_takeTurns 19 = .ok (.ifCond .eq 125, 3) := by decide +kernel
theorem dX7_takeTurns_22 : decode cX7_takeTurns 22 = .ok (.aload_n 0, 1) := by decide +kernel
theorem dX7_takeTurns_23 : decode cX7_takeTurns 23 = .ok (.iload_n 1, 1) := by decide +kernel
theorem dX7_takeTurns_24 : decode cX7_takeTurns 24 = .ok (.invokevirtual 42, 3) := by decide +kernel
theorem dX7_takeTurns_27 : decode cX7_takeTurns 27 = .ok (.istore_n 3, 1) := by decide +kernel
theorem dX7_takeTurns_28 : decode cX7_takeTurns 28 = .ok (.aload_n 0, 1) := by decide +kernel
theorem dX7_takeTurns_29 : decode cX7_takeTurns 29 = .ok (.iload_n 3, 1) := by decide +kernel
theorem dX7_takeTurns_30 : decode cX7_takeTurns 30 = .ok (.iload_n 1, 1) := by decide +kernel
theorem dX7_takeTurns_31 : decode cX7_takeTurns 31 = .ok (.invokevirtual 35, 3) := by decide +kernel
theorem dX7_takeTurns_34 : decode cX7_takeTurns 34 = .ok (.istore 4, 2) := by decide +kernel
theorem dX7_takeTurns_36 : decode cX7_takeTurns 36 = .ok (.aload_n 0, 1) := by decide +kernel
theorem dX7_takeTurns_37 : decode cX7_takeTurns 37 = .ok (.iload_n 3, 1) := by decide +kernel
theorem dX7_takeTurns_38 : decode cX7_takeTurns 38 = .ok (.iload 4, 2) := by decide +kernel
theorem dX7_takeTurns_40 : decode cX7_takeTurns 40 = .ok (.invokevirtual 39, 3) := by decide +kernel
theorem dX7_takeTurns_43 : decode cX7_takeTurns 43 = .ok (.istore 5, 2) := by decide +kernel
theorem dX7_takeTurns_45 : decode cX7_takeTurns 45 = .ok (.aload_n 0, 1) := by decide +kernel
theorem dX7_takeTurns_46 : decode cX7_takeTurns 46 = .ok (.getfield 21, 3) := by decide +kernel
theorem dX7_takeTurns_49 : decode cX7_takeTurns 49 = .ok (.aload_n 0, 1) := by decide +kernel
theorem dX7_takeTurns_50 : decode cX7_takeTurns 50 = .ok (.getfield 145, 3) := by decide +kernel
theorem dX7_takeTurns_53 : decode cX7_takeTurns 53 = .ok (.iload 4, 2) := by decide +kernel
theorem dX7_takeTurns_55 : decode cX7_takeTurns 55 = .ok (.iastore, 1) := by decide +kernel
theorem dX7_takeTurns_56 : decode cX7_takeTurns 56 = .ok (.aload_n 0, 1) := by decide +kernel
theorem dX7_takeTurns_57 : decode cX7_takeTurns 57 = .ok (.getfield 24, 3) := by decide +kernel
theorem dX7_takeTurns_60 : decode cX7_takeTurns 60 = .ok (.aload_n 0, 1) := by decide +kernel
theorem dX7_takeTurns_61 : decode cX7_takeTurns 61 = .ok (.getfield 145, 3) := by decide +kernel
theorem dX7_takeTurns_64 : decode cX7_takeTurns 64 = .ok (.iconst 1, 1) := by decide +kernel
theorem dX7_takeTurns_65 : decode cX7_takeTurns 65 = .ok (.iload 5, 2) := by decide +kernel
theorem dX7_takeTurns_67 : decode cX7_takeTurns 67 = .ok (.iconst (-1), 1) := by decide +kernel
theorem dX7_takeTurns_68 : decode cX7_takeTurns 68 = .ok (.if_icmp .ne 8, 3) := by decide +kernel
theorem dX7_takeTurns_71 : decode cX7_takeTurns 71 = .ok (.bipush 6, 2) := by decide +kernel
theorem dX7_takeTurns_73 : decode cX7_takeTurns 73 = .ok (.goto 5, 3) := by decide +kernel
theorem dX7_takeTurns_76 : decode cX7_takeTurns 76 = .ok (.iload 5, 2) := by decide +kernel
theorem dX7_takeTurns_78 : decode cX7_takeTurns 78 = .ok (.ishl, 1) := by decide +kernel
theorem dX7_takeTurns_79 : decode cX7_takeTurns 79 = .ok (.iastore, 1) := by decide +kernel
theorem dX7_takeTurns_80 : decode cX7_takeTurns 80 = .ok (.aload_n 0, 1) := by decide +kernel
theorem dX7_takeTurns_81 : decode cX7_takeTurns 81 = .ok (.dup, 1) := by decide +kernel
theorem dX7_takeTurns_82 : decode cX7_takeTurns 82 = .ok (.getfield 145, 3) := by decide +kernel
theorem dX7_takeTurns_85 : decode cX7_takeTurns 85 = .ok (.iconst 1, 1) := by decide +kernel
theorem dX7_takeTurns_86 : decode cX7_takeTurns 86 = .ok (.iadd, 1) := by decide +kernel
theorem dX7_takeTurns_87 : decode cX7_takeTurns 87 = .ok (.putfield 145, 3) := by decide +kernel
theorem dX7_takeTurns_90 : decode cX7_takeTurns 90 = .ok (.aload_n 0, 1) := by decide +kernel
theorem dX7_takeTurns_91 : decode cX7_takeTurns 91 = .ok (.getfield 27, 3) := by decide +kernel
theorem dX7_takeTurns_94 : decode cX7_takeTurns 94 = .ok (.getfield 53, 3) := by decide +kernel
theorem dX7_takeTurns_97 : decode cX7_takeTurns 97 = .ok (.iload 4, 2) := by decide +kernel
theorem dX7_takeTurns_99 : decode cX7_takeTurns 99 = .ok (.invokevirtual 141, 3) := by decide +kernel
theorem dX7_takeTurns_102 : decode cX7_takeTurns 102 = .ok (.ifCond .eq 22, 3) := by decide +kernel
theorem dX7_takeTurns_105 : decode cX7_takeTurns 105 = .ok (.aload_n 0, 1) := by decide +kernel
theorem dX7_takeTurns_106 : decode cX7_takeTurns 106 = .ok (.getfield 27, 3) := by decide +kernel
theorem dX7_takeTurns_109 : decode cX7_takeTurns 109 = .ok (.getfield 53, 3) := by decide +kernel
theorem dX7_takeTurns_112 : decode cX7_takeTurns 112 = .ok (.iload 4, 2) := by decide +kernel
theorem dX7_takeTurns_114 : decode cX7_takeTurns 114 = .ok (.invokevirtual 65, 3) := by decide +kernel
theorem dX7_takeTurns_117 : decode cX7_takeTurns 117 = .ok (.ifCond .eq 7, 3) := by decide +kernel
theorem dX7_takeTurns_120 : decode cX7_takeTurns 120 = .ok (.iconst 1, 1) := by decide +kernel
theorem dX7_takeTurns_121 : decode cX7_takeTurns 121 = .ok (.goto 4, 3) := by decide +kernel
theorem dX7_takeTurns_124 : decode cX7_takeTurns 124 = .ok (.iconst 0, 1) := by decide +kernel
theorem dX7_takeTurns_125 : decode cX7_takeTurns 125 = .ok (.istore_n 2, 1) := by decide +kernel
theorem dX7_takeTurns_126 : decode cX7_takeTurns 126 = .ok (.iload_n 1, 1) := by decide +kernel
theorem dX7_takeTurns_127 : decode cX7_takeTurns 127 = .ok (.iload_n 2, 1) := by decide +kernel
theorem dX7_takeTurns_128 : decode cX7_takeTurns 128 = .ok (.ifCond .eq 10, 3) := by decide +kernel
theorem dX7_takeTurns_131 : decode cX7_takeTurns 131 = .ok (.iconst 1, 1) := by decide +kernel
theorem dX7_takeTurns_132 : decode cX7_takeTurns 132 = .ok (.iload 4, 2) := by decide +kernel
theorem dX7_takeTurns_134 : decode cX7_takeTurns 134 = .ok (.ishl, 1) := by decide +kernel
theorem dX7_takeTurns_135 : decode cX7_takeTurns 135 = .ok (.goto 4, 3) := by decide +kernel
theorem dX7_takeTurns_138 : decode cX7_takeTurns 138 = .ok (.iconst 0, 1) := by decide +kernel
theorem dX7_takeTurns_139 : decode cX7_takeTurns 139 = .ok (.ior, 1) := by decide +kernel
theorem dX7_takeTurns_140 : decode cX7_takeTurns 140 = .ok (.istore_n 1, 1) := by decide +kernel
theorem dX7_takeTurns_141 : decode cX7_takeTurns 141 = .ok (.goto (-132), 3) := by decide +kernel
theorem dX7_takeTurns_144 : decode cX7_takeTurns 144 = .ok (.return_, 1) := by decide +kernel
theorem dX7_mostLeftBy_0 : decode cX7_mostLeftBy 0 = .ok (.aload_n 0, 1) := by decide +kernel
theorem dX7_mostLeftBy_1 : decode cX7_mostLeftBy 1 = .ok (.iload_n 1, 1) := by decide +kernel
theorem dX7_mostLeftBy_2 : decode cX7_mostLeftBy 2 = .ok (.invokevirtual 49, 3) := by decide +kernel
theorem dX7_mostLeftBy_5 : decode cX7_mostLeftBy 5 = .ok (.invokestatic 148, 3) := by decide +kernel
theorem dX7_mostLeftBy_8 : decode cX7_mostLeftBy 8 = .ok (.aload_n 0, 1) := by decide +kernel
theorem dX7_mostLeftBy_9 : decode cX7_mostLeftBy 9 = .ok (.iload_n 1, 1) := by decide +kernel
theorem dX7_mostLeftBy_10 : decode cX7_mostLeftBy 10 = .ok (.invokevirtual 153, 3) := by decide +kernel
theorem dX7_mostLeftBy_13 : decode cX7_mostLeftBy 13 = .ok (.invokestatic 148, 3) := by decide +kernel
theorem dX7_mostLeftBy_16 : decode cX7_mostLeftBy 16 = .ok (.invokestatic 156, 3) := by decide +kernel
theorem dX7_mostLeftBy_19 : decode cX7_mostLeftBy 19 = .ok (.ireturn, 1) := by decide +kernel
theorem dX7_setUpTo_0 : decode cX7_setUpTo 0 = .ok (.iconst 0, 1) := by decide +kernel
theorem dX7_setUpTo_1 : decode cX7_setUpTo 1 = .ok (.istore_n 2, 1) := by decide +kernel
theorem dX7_setUpTo_2 : decode cX7_setUpTo 2 = .ok (.iconst 0, 1) := by decide +kernel
theorem dX7_setUpTo_3 : decode cX7_setUpTo 3 = .ok (.istore_n 3, 1) := by decide +kernel
theorem dX7_setUpTo_4 : decode cX7_setUpTo 4 = .ok (.iload_n 3, 1) := by decide +kernel
theorem dX7_setUpTo_5 : decode cX7_setUpTo 5 = .ok (.aload_n 0, 1) := by decide +kernel
theorem dX7_setUpTo_6 : decode cX7_setUpTo 6 = .ok (.getfield 145, 3) := by decide +kernel
theorem dX7_setUpTo_9 : decode cX7_setUpTo 9 = .ok (.if_icmp .ge 30, 3) := by decide +kernel
theorem dX7_setUpTo_12 : decode cX7_setUpTo 12 = .ok (.iload_n 2, 1) := by decide +kernel
theorem dX7_setUpTo_13 : decode cX7_setUpTo 13 = .ok (.aload_n 0, 1) := by decide +kernel
theorem dX7_setUpTo_14 : decode cX7_setUpTo 14 = .ok (.getfield 24, 3) := by decide +kernel
theorem dX7_setUpTo_17 : decode cX7_setUpTo 17 = .ok (.iload_n 3, 1) := by decide +kernel
theorem dX7_setUpTo_18 : decode cX7_setUpTo 18 = .ok (.iaload, 1) := by decide +kernel
theorem dX7_setUpTo_19 : decode cX7_setUpTo 19 = .ok (.ior, 1) := by decide +kernel
theorem dX7_setUpTo_20 : decode cX7_setUpTo 20 = .ok (.istore_n 2, 1) := by decide +kernel
theorem dX7_setUpTo_21 : decode cX7_setUpTo 21 = .ok (.aload_n 0, 1) := by decide +kernel
theorem dX7_setUpTo_22 : decode cX7_setUpTo 22 = .ok (.getfield 21, 3) := by decide +kernel
theorem dX7_setUpTo_25 : decode cX7_setUpTo 25 = .ok (.iload_n 3, 1) := by decide +kernel
theorem dX7_setUpTo_26 : decode cX7_setUpTo 26 = .ok (.iaload, 1) := by decide +kernel
theorem dX7_setUpTo_27 : decode cX7_setUpTo 27 = .ok (.iload_n 1, 1) := by decide +kernel
theorem dX7_setUpTo_28 : decode cX7_setUpTo 28 = .ok (.if_icmp .ne 5, 3) := by decide +kernel
theorem dX7_setUpTo_31 : decode cX7_setUpTo 31 = .ok (.iload_n 2, 1) := by decide +kernel
theorem dX7_setUpTo_32 : decode cX7_setUpTo 32 = .ok (.ireturn, 1) := by decide +kernel
theorem dX7_setUpTo_33 : decode cX7_setUpTo 33 = .ok (.iinc 3 1, 3) := by decide +kernel
theorem dX7_setUpTo_36 : decode cX7_setUpTo 36 = .ok (.goto (-32), 3) := by decide +kernel
theorem dX7_setUpTo_39 : decode cX7_setUpTo 39 = .ok (.iload_n 2, 1) := by decide +kernel
theorem dX7_setUpTo_40 : decode cX7_setUpTo 40 = .ok (.ireturn, 1) := by decide +kernel
theorem dX7_setWithout_0 : decode cX7_setWithout 0 = .ok (.iconst 0, 1) := by decide +kernel
theorem dX7_setWithout_1 : decode cX7_setWithout 1 = .ok (.istore_n 2, 1) := by decide +kernel
theorem dX7_setWithout_2 : decode cX7_setWithout 2 = .ok (.iconst 0, 1) := by decide +kernel
theorem dX7_setWithout_3 : decode cX7_setWithout 3 = .ok (.istore_n 3, 1) := by decide +kernel
theorem dX7_setWithout_4 : decode cX7_setWithout 4 = .ok (.iload_n 3, 1) := by decide +kernel
theorem dX7_setWithout_5 : decode cX7_setWithout 5 = .ok (.aload_n 0, 1) := by decide +kernel
theorem dX7_setWithout_6 : decode cX7_setWithout 6 = .ok (.getfield 145, 3) := by decide +kernel
theorem dX7_setWithout_9 : decode cX7_setWithout 9 = .ok (.if_icmp .ge 32, 3) := by decide +kernel
theorem dX7_setWithout_12 : decode cX7_setWithout 12 = .ok (.iload_n 2, 1) := by decide +kernel
theorem dX7_setWithout_13 : decode cX7_setWithout 13 = .ok (.aload_n 0, 1) := by decide +kernel
theorem dX7_setWithout_14 : decode cX7_setWithout 14 = .ok (.getfield 21, 3) := by decide +kernel
theorem dX7_setWithout_17 : decode cX7_setWithout 17 = .ok (.iload_n 3, 1) := by decide +kernel
theorem dX7_setWithout_18 : decode cX7_setWithout 18 = .ok (.iaload, 1) := by decide +kernel
theorem dX7_setWithout_19 : decode cX7_setWithout 19 = .ok (.iload_n 1, 1) := by decide +kernel
theorem dX7_setWithout_20 : decode cX7_setWithout 20 = .ok (.if_icmp .ne 7, 3) := by decide +kernel
theorem dX7_setWithout_23 : decode cX7_setWithout 23 = .ok (.iconst 0, 1) := by decide +kernel
theorem dX7_setWithout_24 : decode cX7_setWithout 24 = .ok (.goto 9, 3) := by decide +kernel
theorem dX7_setWithout_27 : decode cX7_setWithout 27 = .ok (.aload_n 0, 1) := by decide +kernel
theorem dX7_setWithout_28 : decode cX7_setWithout 28 = .ok (.getfield 24, 3) := by decide +kernel
theorem dX7_setWithout_31 : decode cX7_setWithout 31 = .ok (.iload_n 3, 1) := by decide +kernel
theorem dX7_setWithout_32 : decode cX7_setWithout 32 = .ok (.iaload, 1) := by decide +kernel
theorem dX7_setWithout_33 : decode cX7_setWithout 33 = .ok (.ior, 1) := by decide +kernel
theorem dX7_setWithout_34 : decode cX7_setWithout 34 = .ok (.istore_n 2, 1) := by decide +kernel
theorem dX7_setWithout_35 : decode cX7_setWithout 35 = .ok (.iinc 3 1, 3) := by decide +kernel
theorem dX7_setWithout_38 : decode cX7_setWithout 38 = .ok (.goto (-34), 3) := by decide +kernel
theorem dX7_setWithout_41 : decode cX7_setWithout 41 = .ok (.iload_n 2, 1) := by decide +kernel
theorem dX7_setWithout_42 : decode cX7_setWithout 42 = .ok (.ireturn, 1) := by decide +kernel
theorem dX8_init_0 : decode cX8_init 0 = .ok (.aload_n 0, 1) := by decide +kernel
theorem dX8_init_1 : decode cX8_init 1 = .ok (.invokespecial 3, 3) := by decide +kernel
theorem dX8_init_4 : decode cX8_init 4 = .ok (.aload_n 0, 1) := by decide +kernel
theorem dX8_init_5 : decode cX8_init 5 = .ok (.bipush 60, 2) := by decide +kernel
theorem dX8_init_7 : decode cX8_init 7 = .ok (.newarray .int, 2) := by decide +kernel
theorem dX8_init_9 : decode cX8_init 9 = .ok (.putfield 9, 3) := by decide +kernel
theorem dX8_init_12 : decode cX8_init 12 = .ok (.return_, 1) := by decide +kernel
theorem dX8_isMissing_0 : decode cX8_isMissing 0 = .ok (.aload_n 0, 1) := by decide +kernel
theorem dX8_isMissing_1 : decode cX8_isMissing 1 = .ok (.getfield 15, 3) := by decide +kernel
theorem dX8_isMissing_4 : decode cX8_isMissing 4 = .ok (.ifCond .ne 7, 3) := by decide +kernel
theorem dX8_isMissing_7 : decode cX8_isMissing 7 = .ok (.iconst 1, 1) := by decide +kernel
theorem dX8_isMissing_8 : decode cX8_isMissing 8 = .ok (.goto 4, 3) := by decide +kernel
theorem dX8_isMissing_11 : decode cX8_isMissing 11 = .ok (.iconst 0, 1) := by decide +kernel
theorem dX8_isMissing_12 : decode cX8_isMissing 12 = .ok (.ireturn, 1) := by decide +kernel
theorem dX8_lay_0 : decode cX8_lay 0 = .ok (.aload_n 0, 1) := by decide +kernel
theorem dX8_lay_1 : decode cX8_lay 1 = .ok (.iload_n 1, 1) := by decide +kernel
theorem dX8_lay_2 : decode cX8_lay 2 = .ok (.putfield 15, 3) := by decide +kernel
theorem dX8_lay_5 : decode cX8_lay 5 = .ok (.aload_n 0, 1) := by decide +kernel
theorem dX8_lay_6 : decode cX8_lay 6 = .ok (.iload_n 2, 1) := by decide +kernel
theorem dX8_lay_7 : decode cX8_lay 7 = .ok (.putfield 19, 3) := by decide +kernel
theorem dX8_lay_10 : decode cX8_lay 10 = .ok (.aload_n 0, 1) := by decide +kernel
theorem dX8_lay_11 : decode cX8_lay 11 = .ok (.getfield 9, 3) := by decide +kernel
theorem dX8_lay_14 : decode cX8_lay 14 = .ok (.iconst 0, 1) := by decide +kernel
theorem dX8_lay_15 : decode cX8_lay 15 = .ok (.invokestatic 22, 3) := by decide +kernel
theorem dX8_lay_18 : decode cX8_lay 18 = .ok (.return_, 1) := by decide +kernel
theorem dX8_write_0 : decode cX8_write 0 = .ok (.bipush 32, 2) := by decide +kernel
theorem dX8_write_2 : decode cX8_write 2 = .ok (.aload_n 0, 1) := by decide +kernel
theorem dX8_write_3 : decode cX8_write 3 = .ok (.getfield 15, 3) := by decide +kernel
theorem dX8_write_6 : decode cX8_write 6 = .ok (.isub, 1) := by decide +kernel
theorem dX8_write_7 : decode cX8_write 7 = .ok (.istore_n 3, 1) := by decide +kernel
theorem dX8_write_8 : decode cX8_write 8 = .ok (.aload_n 0, 1) := by decide +kernel
theorem dX8_write_9 : decode cX8_write 9 = .ok (.getfield 9, 3) := by decide +kernel
theorem dX8_write_12 : decode cX8_write 12 = .ok (.iload_n 1, 1) := by decide +kernel
theorem dX8_write_13 : decode cX8_write 13 = .ok (.iload_n 2, 1) := by decide +kernel
theorem dX8_write_14 : decode cX8_write 14 = .ok (.iload_n 3, 1) := by decide +kernel
theorem dX8_write_15 : decode cX8_write 15 = .ok (.ishl, 1) := by decide +kernel
theorem dX8_write_16 : decode cX8_write 16 = .ok (.iload_n 3, 1) := by decide +kernel
theorem dX8_write_17 : decode cX8_write 17 = .ok (.ishr, 1) := by decide +kernel
theorem dX8_write_18 : decode cX8_write 18 = .ok (.iastore, 1) := by decide +kernel
theorem dX8_write_19 : decode cX8_write 19 = .ok (.return_, 1) := by decide +kernel
theorem dX8_hasRun_0 : decode cX8_hasRun 0 = .ok (.iload_n 1, 1) := by decide +kernel
theorem dX8_hasRun_1 : decode cX8_hasRun 1 = .ok (.ifCond .lt 29, 3) := by decide +kernel
theorem dX8_hasRun_4 : decode cX8_hasRun 4 = .ok (.iload_n 2, 1) := by decide +kernel
theorem dX8_hasRun_5 : decode cX8_hasRun 5 = .ok (.ifCond .lt 25, 3) := by decide +kernel
theorem dX8_hasRun_8 : decode cX8_hasRun 8 = .ok (.iload_n 2, 1) := by decide +kernel
theorem dX8_hasRun_9 : decode cX8_hasRun 9 = .ok (.aload_n 0, 1) := by decide +kernel
theorem dX8_hasRun_10 : decode cX8_hasRun 10 = .ok (.getfield 19, 3) := by decide +kernel
theorem dX8_hasRun_13 : decode cX8_hasRun 13 = .ok (.if_icmp .gt 17, 3) := by decide +kernel
theorem dX8_hasRun_16 : decode cX8_hasRun 16 = .ok (.iload_n 1, 1) := by decide +kernel
theorem dX8_hasRun_17 : decode cX8_hasRun 17 = .ok (.aload_n 0, 1) := by decide +kernel
theorem dX8_hasRun_18 : decode cX8_hasRun 18 = .ok (.getfield 19, 3) := by decide +kernel
theorem dX8_hasRun_21 : decode cX8_hasRun 21 = .ok (.iload_n 2, 1) := by decide +kernel
theorem dX8_hasRun_22 : decode cX8_hasRun 22 = .ok (.isub, 1) := by decide +kernel
theorem dX8_hasRun_23 : decode cX8_hasRun 23 = .ok (.if_icmp .gt 7, 3) := by decide +kernel
theorem dX8_hasRun_26 : decode cX8_hasRun 26 = .ok (.iconst 1, 1) := by decide +kernel
theorem dX8_hasRun_27 : decode cX8_hasRun 27 = .ok (.goto 4, 3) := by decide +kernel
theorem dX8_hasRun_30 : decode cX8_hasRun 30 = .ok (.iconst 0, 1) := by decide +kernel
theorem dX8_hasRun_31 : decode cX8_hasRun 31 = .ok (.ireturn, 1) := by decide +kernel
theorem dX9_init_0 : decode cX9_init 0 = .ok (.aload_n 0, 1) := by decide +kernel
theorem dX9_init_1 : decode cX9_init 1 = .ok (.invokespecial 1, 3) := by decide +kernel
theorem dX9_init_4 : decode cX9_init 4 = .ok (.aload_n 0, 1) := by decide +kernel
theorem dX9_init_5 : decode cX9_init 5 = .ok (.new 7, 3) := by decide +kernel
theorem dX9_init_8 : decode cX9_init 8 = .ok (.dup, 1) := by decide +kernel
theorem dX9_init_9 : decode cX9_init 9 = .ok (.invokespecial 9, 3) := by decide +kernel
theorem dX9_init_12 : decode cX9_init 12 = .ok (.putfield 10, 3) := by decide +kernel
theorem dX9_init_15 : decode cX9_init 15 = .ok (.aload_n 0, 1) := by decide +kernel
theorem dX9_init_16 : decode cX9_init 16 = .ok (.new 7, 3) := by decide +kernel
theorem dX9_init_19 : decode cX9_init 19 = .ok (.dup, 1) := by decide +kernel
theorem dX9_init_20 : decode cX9_init 20 = .ok (.invokespecial 9, 3) := by decide +kernel
theorem dX9_init_23 : decode cX9_init 23 = .ok (.putfield 16, 3) := by decide +kernel
theorem dX9_init_26 : decode cX9_init 26 = .ok (.aload_n 0, 1) := by decide +kernel
theorem dX9_init_27 : decode cX9_init 27 = .ok (.new 19, 3) := by decide +kernel
theorem dX9_init_30 : decode cX9_init 30 = .ok (.dup, 1) := by decide +kernel
theorem dX9_init_31 : decode cX9_init 31 = .ok (.aload_n 0, 1) := by decide +kernel
theorem dX9_init_32 : decode cX9_init 32 = .ok (.getfield 10, 3) := by decide +kernel
theorem dX9_init_35 : decode cX9_init 35 = .ok (.invokespecial 21, 3) := by decide +kernel
theorem dX9_init_38 : decode cX9_init 38 = .ok (.putfield 24, 3) := by decide +kernel
theorem dX9_init_41 : decode cX9_init 41 = .ok (.aload_n 0, 1) := by decide +kernel
theorem dX9_init_42 : decode cX9_init 42 = .ok (.iconst 4, 1) := by decide +kernel
theorem dX9_init_43 : decode cX9_init 43 = .ok (.anewarray 28, 3) := by decide +kernel
theorem dX9_init_46 : decode cX9_init 46 = .ok (.putfield 30, 3) := by decide +kernel
theorem dX9_init_49 : decode cX9_init 49 = .ok (.iconst 0, 1) := by decide +kernel
theorem dX9_init_50 : decode cX9_init 50 = .ok (.istore_n 1, 1) := by decide +kernel
theorem dX9_init_51 : decode cX9_init 51 = .ok (.iload_n 1, 1) := by decide +kernel
theorem dX9_init_52 : decode cX9_init 52 = .ok (.iconst 4, 1) := by decide +kernel
theorem dX9_init_53 : decode cX9_init 53 = .ok (.if_icmp .ge 22, 3) := by decide +kernel
theorem dX9_init_56 : decode cX9_init 56 = .ok (.aload_n 0, 1) := by decide +kernel
theorem dX9_init_57 : decode cX9_init 57 = .ok (.getfield 30, 3) := by decide +kernel
theorem dX9_init_60 : decode cX9_init 60 = .ok (.iload_n 1, 1) := by decide +kernel
theorem dX9_init_61 : decode cX9_init 61 = .ok (.new 28, 3) := by decide +kernel
theorem dX9_init_64 : decode cX9_init 64 = .ok (.dup, 1) := by decide +kernel
theorem dX9_init_65 : decode cX9_init 65 = .ok (.invokespecial 34, 3) := by decide +kernel
theorem dX9_init_68 : decode cX9_init 68 = .ok (.aastore, 1) := by decide +kernel
theorem dX9_init_69 : decode cX9_init 69 = .ok (.iinc 1 1, 3) := by decide +kernel
theorem dX9_init_72 : decode cX9_init 72 = .ok (.goto (-21), 3) := by decide +kernel
theorem dX9_init_75 : decode cX9_init 75 = .ok (.aload_n 0, 1) := by decide +kernel
theorem dX9_init_76 : decode cX9_init 76 = .ok (.iconst 0, 1) := by decide +kernel
theorem dX9_init_77 : decode cX9_init 77 = .ok (.putfield 35, 3) := by decide +kernel
theorem dX9_init_80 : decode cX9_init 80 = .ok (.aload_n 0, 1) := by decide +kernel
theorem dX9_init_81 : decode cX9_init 81 = .ok (.iconst 0, 1) := by decide +kernel
theorem dX9_init_82 : decode cX9_init 82 = .ok (.putfield 39, 3) := by decide +kernel
theorem dX9_init_85 : decode cX9_init 85 = .ok (.return_, 1) := by decide +kernel
theorem dX9_parish_0 : decode cX9_parish 0 = .ok (.iload_n 1, 1) := by decide +kernel
theorem dX9_parish_1 : decode cX9_parish 1 = .ok (.iconst 0, 1) := by decide +kernel
theorem dX9_parish_2 : decode cX9_parish 2 = .ok (.sipush 10000, 3) := by decide +kernel
theorem dX9_parish_5 : decode cX9_parish 5 = .ok (.invokestatic 43, 3) := by decide +kernel
theorem dX9_parish_8 : decode cX9_parish 8 = .ok (.ifCond .ne 10, 3) := by decide +kernel
theorem dX9_parish_11 : decode cX9_parish 11 = .ok (.aload_n 0, 1) := by decide +kernel
theorem dX9_parish_12 : decode cX9_parish 12 = .ok (.ldc 47, 2) := by decide +kernel
theorem dX9_parish_14 : decode cX9_parish 14 = .ok (.invokevirtual 48, 3) := by decide +kernel
theorem dX9_parish_17 : decode cX9_parish 17 = .ok (.ireturn, 1) := by decide +kernel
theorem dX9_parish_18 : decode cX9_parish 18 = .ok (.aload_n 0, 1) := by decide +kernel
theorem dX9_parish_19 : decode cX9_parish 19 = .ok (.getfield 10, 3) := by decide +kernel
theorem dX9_parish_22 : decode cX9_parish 22 = .ok (.getfield 52, 3) := by decide +kernel
theorem dX9_parish_25 : decode cX9_parish 25 = .ok (.getfield 56, 3) := by decide +kernel
theorem dX9_parish_28 : decode cX9_parish 28 = .ok (.bipush 6, 2) := by decide +kernel
theorem dX9_parish_30 : decode cX9_parish 30 = .ok (.if_icmp .lt 10, 3) := by decide +kernel
theorem dX9_parish_33 : decode cX9_parish 33 = .ok (.aload_n 0, 1) := by decide +kernel
theorem dX9_parish_34 : decode cX9_parish 34 = .ok (.ldc 61, 2) := by decide +kernel
theorem dX9_parish_36 : decode cX9_parish 36 = .ok (.invokevirtual 48, 3) := by decide +kernel
theorem dX9_parish_39 : decode cX9_parish 39 = .ok (.ireturn, 1) := by decide +kernel
theorem dX9_parish_40 : decode cX9_parish 40 = .ok (.aload_n 0, 1) := by decide +kernel
theorem dX9_parish_41 : decode cX9_parish 41 = .ok (.getfield 10, 3) := by decide +kernel
theorem dX9_parish_44 : decode cX9_parish 44 = .ok (.getfield 52, 3) := by decide +kernel
theorem dX9_parish_47 : decode cX9_parish 47 = .ok (.iload_n 1, 1) := by decide +kernel
theorem dX9_parish_48 : decode cX9_parish 48 = .ok (.invokevirtual 62, 3) := by decide +kernel
theorem dX9_parish_51 : decode cX9_parish 51 = .ok (.ireturn, 1) := by decide +kernel
theorem dX9_miles_0 : decode cX9_miles 0 = .ok (.aload_n 0, 1) := by decide +kernel
theorem dX9_miles_1 : decode cX9_miles 1 = .ok (.getfield 10, 3) := by decide +kernel
theorem dX9_miles_4 : decode cX9_miles 4 = .ok (.getfield 52, 3) := by decide +kernel
theorem dX9_miles_7 : decode cX9_miles 7 = .ok (.iload_n 1, 1) := by decide +kernel
theorem dX9_miles_8 : decode cX9_miles 8 = .ok (.invokevirtual 65, 3) := by decide +kernel
theorem dX9_miles_11 : decode cX9_miles 11 = .ok (.ifCond .eq 27, 3) := by decide +kernel
theorem dX9_miles_14 : decode cX9_miles 14 = .ok (.aload_n 0, 1) := by decide +kernel
theorem dX9_miles_15 : decode cX9_miles 15 = .ok (.getfield 10, 3) := by decide +kernel
theorem dX9_miles_18 : decode cX9_miles 18 = .ok (.getfield 52, 3) := by decide +kernel
theorem dX9_miles_21 : decode cX9_miles 21 = .ok (.iload_n 2, 1) := by decide +kernel
theorem dX9_miles_22 : decode cX9_miles 22 = .ok (.invokevirtual 65, 3) := by decide +kernel
theorem dX9_miles_25 : decode cX9_miles 25 = .ok (.ifCond .eq 13, 3) := by decide +kernel
theorem dX9_miles_28 : decode cX9_miles 28 = .ok (.iload_n 3, 1) := by decide +kernel
theorem dX9_miles_29 : decode cX9_miles 29 = .ok (.iconst 0, 1) := by decide +kernel
theorem dX9_miles_30 : decode cX9_miles 30 = .ok (.bipush 99, 2) := by decide +kernel
theorem dX9_miles_32 : decode cX9_miles 32 = .ok (.invokestatic 43, 3) := by decide +kernel
theorem dX9_miles_35 : decode cX9_miles 35 = .ok (.ifCond .ne 10, 3) := by decide +kernel
theorem dX9_miles_38 : decode cX9_miles 38 = .ok (.aload_n 0, 1) := by decide +kernel
theorem dX9_miles_39 : decode cX9_miles 39 = .ok (.ldc 47, 2) := by decide +kernel
theorem dX9_miles_41 : decode cX9_miles 41 = .ok (.invokevirtual 48, 3) := by decide +kernel
theorem dX9_miles_44 : decode cX9_miles 44 = .ok (.ireturn, 1) := by decide +kernel
theorem dX9_miles_45 : decode cX9_miles 45 = .ok (.iload_n 1, 1) := by decide +kernel
theorem dX9_miles_46 : decode cX9_miles 46 = .ok (.iload_n 2, 1) := by decide +kernel
theorem dX9_miles_47 : decode cX9_miles 47 = .ok (.if_icmp .ne 10, 3) := by decide +kernel
theorem dX9_miles_50 : decode cX9_miles 50 = .ok (.aload_n 0, 1) := by decide +kernel
theorem dX9_miles_51 : decode cX9_miles 51 = .ok (.ldc 69, 2) := by decide +kernel
theorem dX9_miles_53 : decode cX9_miles 53 = .ok (.invokevirtual 48, 3) := by decide +kernel
theorem dX9_miles_56 : decode cX9_miles 56 = .ok (.ireturn, 1) := by decide +kernel
theorem dX9_miles_57 : decode cX9_miles 57 = .ok (.aload_n 0, 1) := by decide +kernel
theorem dX9_miles_58 : decode cX9_miles 58 = .ok (.getfield 10, 3) := by decide +kernel
theorem dX9_miles_61 : decode cX9_miles 61 = .ok (.getfield 52, 3) := by decide +kernel
theorem dX9_miles_64 : decode cX9_miles 64 = .ok (.getfield 70, 3) := by decide +kernel
theorem dX9_miles_67 : decode cX9_miles 67 = .ok (.iload_n 1, 1) := by decide +kernel
theorem dX9_miles_68 : decode cX9_miles 68 = .ok (.aaload, 1) := by decide +kernel
theorem dX9_miles_69 : decode cX9_miles 69 = .ok (.iload_n 2, 1) := by decide +kernel
theorem dX9_miles_70 : decode cX9_miles 70 = .ok (.iaload, 1) := by decide +kernel
theorem dX9_miles_71 : decode cX9_miles 71 = .ok (.istore 4, 2) := by decide +kernel
theorem dX9_miles_73 : decode cX9_miles 73 = .ok (.aload_n 0, 1) := by decide +kernel
theorem dX9_miles_74 : decode cX9_miles 74 = .ok (.getfield 10, 3) := by decide +kernel
theorem dX9_miles_77 : decode cX9_miles 77 = .ok (.getfield 52, 3) := by decide +kernel
theorem dX9_miles_80 : decode cX9_miles 80 = .ok (.getfield 70, 3) := by decide +kernel
theorem dX9_miles_83 : decode cX9_miles 83 = .ok (.iload_n 1, 1) := by decide +kernel
theorem dX9_miles_84 : decode cX9_miles 84 = .ok (.aaload, 1) := by decide +kernel
theorem dX9_miles_85 : decode cX9_miles 85 = .ok (.iload_n 2, 1) := by decide +kernel
theorem dX9_miles_86 : decode cX9_miles 86 = .ok (.iload_n 3, 1) := by decide +kernel
theorem dX9_miles_87 : decode cX9_miles 87 = .ok (.iastore, 1) := by decide +kernel
theorem dX9_miles_88 : decode cX9_miles 88 = .ok (.aload_n 0, 1) := by decide +kernel
theorem dX9_miles_89 : decode cX9_miles 89 = .ok (.getfield 10, 3) := by decide +kernel
theorem dX9_miles_92 : decode cX9_miles 92 = .ok (.getfield 52, 3) := by decide +kernel
theorem dX9_miles_95 : decode cX9_miles 95 = .ok (.getfield 70, 3) := by decide +kernel
theorem dX9_miles_98 : decode cX9_miles 98 = .ok (.iload_n 2, 1) := by decide +kernel
theorem dX9_miles_99 : decode cX9_miles 99 = .ok (.aaload, 1) := by decide +kernel
theorem dX9_miles_100 : decode cX9_miles 100 = .ok (.iload_n 1, 1) := by decide +kernel
theorem dX9_miles_101 : decode cX9_miles 101 = .ok (.iload_n 3, 1) := by decide +kernel
theorem dX9_miles_102 : decode cX9_miles 102 = .ok (.iastore, 1) := by decide +kernel
theorem dX9_miles_103 : decode cX9_miles 103 = .ok (.iload 4, 2) := by decide +kernel
theorem dX9_miles_105 : decode cX9_miles 105 = .ok (.ireturn, 1) := by decide +kernel
theorem dX9_person_0 : decode cX9_person 0 = .ok (.iload_n 1, 1) := by decide +kernel
theorem dX9_person_1 : decode cX9_person 1 = .ok (.iconst 0, 1) := by decide +kernel
theorem dX9_person_2 : decode cX9_person 2 = .ok (.iconst 3, 1) := by decide +kernel
theorem dX9_person_3 : decode cX9_person 3 = .ok (.invokestatic 43, 3) := by decide +kernel
theorem dX9_person_6 : decode cX9_person 6 = .ok (.ifCond .eq 24, 3) := by decide +kernel
theorem dX9_person_9 : decode cX9_person 9 = .ok (.aload_n 0, 1) := by decide +kernel
theorem dX9_person_10 : decode cX9_person 10 = .ok (.getfield 10, 3) := by decide +kernel
theorem dX9_person_13 : decode cX9_person 13 = .ok (.getfield 52, 3) := by decide +kernel
theorem dX9_person_16 : decode cX9_person 16 = .ok (.iload_n 2, 1) := by decide +kernel
theorem dX9_person_17 : decode cX9_person 17 = .ok (.invokevirtual 65, 3) := by decide +kernel
theorem dX9_person_20 : decode cX9_person 20 = .ok (.ifCond .eq 10, 3) := by decide +kernel
theorem dX9_person_23 : decode cX9_person 23 = .ok (.iload_n 3, 1) := by decide +kernel
theorem dX9_person_24 : decode cX9_person 24 = .ok (.invokestatic 74, 3) := by decide +kernel
theorem dX9_person_27 : decode cX9_person 27 = .ok (.ifCond .ne 10, 3) := by decide +kernel
theorem dX9_person_30 : decode cX9_person 30 = .ok (.aload_n 0, 1) := by decide +kernel
theorem dX9_person_31 : decode cX9_person 31 = .ok (.ldc 47, 2) := by decide +kernel
theorem dX9_person_33 : decode cX9_person 33 = .ok (.invokevirtual 48, 3) := by decide +kernel
theorem dX9_person_36 : decode cX9_person 36 = .ok (.ireturn, 1) := by decide +kernel
theorem dX9_person_37 : decode cX9_person 37 = .ok (.aload_n 0, 1) := by decide +kernel
theorem dX9_person_38 : decode cX9_person 38 = .ok (.getfield 10, 3) := by decide +kernel
theorem dX9_person_41 : decode cX9_person 41 = .ok (.getfield 77, 3) := by decide +kernel
theorem dX9_person_44 : decode cX9_person 44 = .ok (.getfield 81, 3) := by decide +kernel
theorem dX9_person_47 : decode cX9_person 47 = .ok (.bipush 10, 2) := by decide +kernel
theorem dX9_person_49 : decode cX9_person 49 = .ok (.if_icmp .lt 10, 3) := by decide +kernel
theorem dX9_person_52 : decode cX9_person 52 = .ok (.aload_n 0, 1) := by decide +kernel
theorem dX9_person_53 : decode cX9_person 53 = .ok (.ldc 61, 2) := by decide +kernel
theorem dX9_person_55 : decode cX9_person 55 = .ok (.invokevirtual 48, 3) := by decide +kernel
theorem dX9_person_58 : decode cX9_person 58 = .ok (.ireturn, 1) := by decide +kernel
theorem dX9_person_59 : decode cX9_person 59 = .ok (.aload_n 0, 1) := by decide +kernel
theorem dX9_person_60 : decode cX9_person 60 = .ok (.getfield 10, 3) := by decide +kernel
theorem dX9_person_63 : decode cX9_person 63 = .ok (.getfield 77, 3) := by decide +kernel
theorem dX9_person_66 : decode cX9_person 66 = .ok (.iload_n 1, 1) := by decide +kernel
theorem dX9_person_67 : decode cX9_person 67 = .ok (.iload_n 2, 1) := by decide +kernel
theorem dX9_person_68 : decode cX9_person 68 = .ok (.iload_n 3, 1) := by decide +kernel
theorem dX9_person_69 : decode cX9_person 69 = .ok (.invokevirtual 84, 3) := by decide +kernel
theorem dX9_person_72 : decode cX9_person 72 = .ok (.istore 4, 2) := by decide +kernel
theorem dX9_person_74 : decode cX9_person 74 = .ok (.aload_n 0, 1) := by decide +kernel
theorem dX9_person_75 : decode cX9_person 75 = .ok (.getfield 10, 3) := by decide +kernel
theorem dX9_person_78 : decode cX9_person 78 = .ok (.getfield 87, 3) := by decide +kernel
theorem dX9_person_81 : decode cX9_person 81 = .ok (.iload 4, 2) := by decide +kernel
theorem dX9_person_83 : decode cX9_person 83 = .ok (.invokevirtual 91, 3) := by decide +kernel
theorem dX9_person_86 : decode cX9_person 86 = .ok (.iload 4, 2) := by decide +kernel
theorem dX9_person_88 : decode cX9_person 88 = .ok (.ireturn, 1) := by decide +kernel
theorem dX9_as_0 : decode cX9_as 0 = .ok (.aload_n 0, 1) := by decide +kernel
theorem dX9_as_1 : decode cX9_as 1 = .ok (.getfield 10, 3) := by decide +kernel
theorem dX9_as_4 : decode cX9_as 4 = .ok (.getfield 77, 3) := by decide +kernel
theorem dX9_as_7 : decode cX9_as 7 = .ok (.iload_n 1, 1) := by decide +kernel
theorem dX9_as_8 : decode cX9_as 8 = .ok (.invokevirtual 97, 3) := by decide +kernel
theorem dX9_as_11 : decode cX9_as 11 = .ok (.ifCond .eq 12, 3) := by decide +kernel
theorem dX9_as_14 : decode cX9_as 14 = .ok (.iload_n 2, 1) := by decide +kernel
theorem dX9_as_15 : decode cX9_as 15 = .ok (.iconst 0, 1) := by decide +kernel
theorem dX9_as_16 : decode cX9_as 16 = .ok (.iconst 3, 1) := by decide +kernel
theorem dX9_as_17 : decode cX9_as 17 = .ok (.invokestatic 43, 3) := by decide +kernel
theorem dX9_as_20 : decode cX9_as 20 = .ok (.ifCond .ne 10, 3) := by decide +kernel
theorem dX9_as_23 : decode cX9_as 23 = .ok (.aload_n 0, 1) := by decide +kernel
theorem dX9_as_24 : decode cX9_as 24 = .ok (.ldc 47, 2) := by decide +kernel
theorem dX9_as_26 : decode cX9_as 26 = .ok (.invokevirtual 48, 3) := by decide +kernel
theorem dX9_as_29 : decode cX9_as 29 = .ok (.ireturn, 1) := by decide +kernel
