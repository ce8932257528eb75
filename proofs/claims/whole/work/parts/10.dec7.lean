theorem dX7_knowsRing_20 : decode cX7_knowsRing 20 = .ok (.getfield 119, 3) := by decide +kernel
theorem dX7_knowsRing_23 : decode cX7_knowsRing 23 = .ok (.bipush 12, 2) := by decide +kernel
theorem dX7_knowsRing_25 : decode cX7_knowsRing 25 = .ok (.iload_n 1, 1) := by decide +kernel
theorem dX7_knowsRing_26 : decode cX7_knowsRing 26 = .ok (.imul, 1) := by decide +kernel
theorem dX7_knowsRing_27 : decode cX7_knowsRing 27 = .ok (.iload_n 2, 1) := by decide +kernel
theorem dX7_knowsRing_28 : decode cX7_knowsRing 28 = .ok (.iadd, 1) := by decide +kernel
theorem dX7_knowsRing_29 : decode cX7_knowsRing 29 = .ok (.iaload, 1) := by decide +kernel
theorem dX7_knowsRing_30 : decode cX7_knowsRing 30 = .ok (.iastore, 1) := by decide +kernel
theorem dX7_knowsRing_31 : decode cX7_knowsRing 31 = .ok (.aload_n 0, 1) := by decide +kernel
theorem dX7_knowsRing_32 : decode cX7_knowsRing 32 = .ok (.getfield 110, 3) := by decide +kernel
theorem dX7_knowsRing_35 : decode cX7_knowsRing 35 = .ok (.iconst 3, 1) := by decide +kernel
theorem dX7_knowsRing_36 : decode cX7_knowsRing 36 = .ok (.aload_n 0, 1) := by decide +kernel
theorem dX7_knowsRing_37 : decode cX7_knowsRing 37 = .ok (.getfield 122, 3) := by decide +kernel
theorem dX7_knowsRing_40 : decode cX7_knowsRing 40 = .ok (.bipush 12, 2) := by decide +kernel
theorem dX7_knowsRing_42 : decode cX7_knowsRing 42 = .ok (.iload_n 1, 1) := by decide +kernel
theorem dX7_knowsRing_43 : decode cX7_knowsRing 43 = .ok (.imul, 1) := by decide +kernel
theorem dX7_knowsRing_44 : decode cX7_knowsRing 44 = .ok (.iload_n 2, 1) := by decide +kernel
theorem dX7_knowsRing_45 : decode cX7_knowsRing 45 = .ok (.iadd, 1) := by decide +kernel
theorem dX7_knowsRing_46 : decode cX7_knowsRing 46 = .ok (.iaload, 1) := by decide +kernel
theorem dX7_knowsRing_47 : decode cX7_knowsRing 47 = .ok (.iastore, 1) := by decide +kernel
theorem dX7_knowsRing_48 : decode cX7_knowsRing 48 = .ok (.aload_n 0, 1) := by decide +kernel
theorem dX7_knowsRing_49 : decode cX7_knowsRing 49 = .ok (.getfield 110, 3) := by decide +kernel
theorem dX7_knowsRing_52 : decode cX7_knowsRing 52 = .ok (.iconst 4, 1) := by decide +kernel
theorem dX7_knowsRing_53 : decode cX7_knowsRing 53 = .ok (.iconst 0, 1) := by decide +kernel
theorem dX7_knowsRing_54 : decode cX7_knowsRing 54 = .ok (.iastore, 1) := by decide +kernel
theorem dX7_knowsRing_55 : decode cX7_knowsRing 55 = .ok (.aload_n 0, 1) := by decide +kernel
theorem dX7_knowsRing_56 : decode cX7_knowsRing 56 = .ok (.getfield 110, 3) := by decide +kernel
theorem dX7_knowsRing_59 : decode cX7_knowsRing 59 = .ok (.iconst 5, 1) := by decide +kernel
theorem dX7_knowsRing_60 : decode cX7_knowsRing 60 = .ok (.aload_n 0, 1) := by decide +kernel
theorem dX7_knowsRing_61 : decode cX7_knowsRing 61 = .ok (.iload_n 1, 1) := by decide +kernel
theorem dX7_knowsRing_62 : decode cX7_knowsRing 62 = .ok (.iload_n 2, 1) := by decide +kernel
theorem dX7_knowsRing_63 : decode cX7_knowsRing 63 = .ok (.invokevirtual 314, 3) := by decide +kernel
theorem dX7_knowsRing_66 : decode cX7_knowsRing 66 = .ok (.iastore, 1) := by decide +kernel
theorem dX7_knowsRing_67 : decode cX7_knowsRing 67 = .ok (.aload_n 0, 1) := by decide +kernel
theorem dX7_knowsRing_68 : decode cX7_knowsRing 68 = .ok (.getfield 110, 3) := by decide +kernel
theorem dX7_knowsRing_71 : decode cX7_knowsRing 71 = .ok (.bipush 6, 2) := by decide +kernel
theorem dX7_knowsRing_73 : decode cX7_knowsRing 73 = .ok (.iconst 0, 1) := by decide +kernel
theorem dX7_knowsRing_74 : decode cX7_knowsRing 74 = .ok (.iastore, 1) := by decide +kernel
theorem dX7_knowsRing_75 : decode cX7_knowsRing 75 = .ok (.aload_n 0, 1) := by decide +kernel
theorem dX7_knowsRing_76 : decode cX7_knowsRing 76 = .ok (.getfield 110, 3) := by decide +kernel
theorem dX7_knowsRing_79 : decode cX7_knowsRing 79 = .ok (.bipush 7, 2) := by decide +kernel
theorem dX7_knowsRing_81 : decode cX7_knowsRing 81 = .ok (.aload_n 0, 1) := by decide +kernel
theorem dX7_knowsRing_82 : decode cX7_knowsRing 82 = .ok (.getfield 137, 3) := by decide +kernel
theorem dX7_knowsRing_85 : decode cX7_knowsRing 85 = .ok (.iload_n 1, 1) := by decide +kernel
theorem dX7_knowsRing_86 : decode cX7_knowsRing 86 = .ok (.iaload, 1) := by decide +kernel
theorem dX7_knowsRing_87 : decode cX7_knowsRing 87 = .ok (.iastore, 1) := by decide +kernel
theorem dX7_knowsRing_88 : decode cX7_knowsRing 88 = .ok (.aload_n 0, 1) := by decide +kernel
theorem dX7_knowsRing_89 : decode cX7_knowsRing 89 = .ok (.getfield 110, 3) := by decide +kernel
theorem dX7_knowsRing_92 : decode cX7_knowsRing 92 = .ok (.bipush 8, 2) := by decide +kernel
theorem dX7_knowsRing_94 : decode cX7_knowsRing 94 = .ok (.aload_n 0, 1) := by decide +kernel
theorem dX7_knowsRing_95 : decode cX7_knowsRing 95 = .ok (.iload_n 1, 1) := by decide +kernel
theorem dX7_knowsRing_96 : decode cX7_knowsRing 96 = .ok (.invokevirtual 317, 3) := by decide +kernel
theorem dX7_knowsRing_99 : decode cX7_knowsRing 99 = .ok (.iastore, 1) := by decide +kernel
theorem dX7_knowsRing_100 : decode cX7_knowsRing 100 = .ok (.return_, 1) := by decide +kernel
theorem dX7_knowsDust_0 : decode cX7_knowsDust 0 = .ok (.aload_n 0, 1) := by decide +kernel
theorem dX7_knowsDust_1 : decode cX7_knowsDust 1 = .ok (.iload_n 1, 1) := by decide +kernel
theorem dX7_knowsDust_2 : decode cX7_knowsDust 2 = .ok (.iload_n 2, 1) := by decide +kernel
theorem dX7_knowsDust_3 : decode cX7_knowsDust 3 = .ok (.invokevirtual 320, 3) := by decide +kernel
theorem dX7_knowsDust_6 : decode cX7_knowsDust 6 = .ok (.aload_n 0, 1) := by decide +kernel
theorem dX7_knowsDust_7 : decode cX7_knowsDust 7 = .ok (.getfield 110, 3) := by decide +kernel
theorem dX7_knowsDust_10 : decode cX7_knowsDust 10 = .ok (.iconst 1, 1) := by decide +kernel
theorem dX7_knowsDust_11 : decode cX7_knowsDust 11 = .ok (.iload_n 3, 1) := by decide +kernel
theorem dX7_knowsDust_12 : decode cX7_knowsDust 12 = .ok (.iastore, 1) := by decide +kernel
theorem dX7_knowsDust_13 : decode cX7_knowsDust 13 = .ok (.aload_n 0, 1) := by decide +kernel
theorem dX7_knowsDust_14 : decode cX7_knowsDust 14 = .ok (.getfield 110, 3) := by decide +kernel
theorem dX7_knowsDust_17 : decode cX7_knowsDust 17 = .ok (.iconst 4, 1) := by decide +kernel
theorem dX7_knowsDust_18 : decode cX7_knowsDust 18 = .ok (.aload_n 0, 1) := by decide +kernel
theorem dX7_knowsDust_19 : decode cX7_knowsDust 19 = .ok (.getfield 128, 3) := by decide +kernel
theorem dX7_knowsDust_22 : decode cX7_knowsDust 22 = .ok (.bipush 60, 2) := by decide +kernel
theorem dX7_knowsDust_24 : decode cX7_knowsDust 24 = .ok (.iload_n 1, 1) := by decide +kernel
theorem dX7_knowsDust_25 : decode cX7_knowsDust 25 = .ok (.imul, 1) := by decide +kernel
theorem dX7_knowsDust_26 : decode cX7_knowsDust 26 = .ok (.iconst 5, 1) := by decide +kernel
theorem dX7_knowsDust_27 : decode cX7_knowsDust 27 = .ok (.iload_n 2, 1) := by decide +kernel
theorem dX7_knowsDust_28 : decode cX7_knowsDust 28 = .ok (.imul, 1) := by decide +kernel
theorem dX7_knowsDust_29 : decode cX7_knowsDust 29 = .ok (.iadd, 1) := by decide +kernel
theorem dX7_knowsDust_30 : decode cX7_knowsDust 30 = .ok (.iload_n 3, 1) := by decide +kernel
theorem dX7_knowsDust_31 : decode cX7_knowsDust 31 = .ok (.iadd, 1) := by decide +kernel
theorem dX7_knowsDust_32 : decode cX7_knowsDust 32 = .ok (.iaload, 1) := by decide +kernel
theorem dX7_knowsDust_33 : decode cX7_knowsDust 33 = .ok (.iastore, 1) := by decide +kernel
theorem dX7_knowsDust_34 : decode cX7_knowsDust 34 = .ok (.return_, 1) := by decide +kernel
theorem dX7_dustOf_0 : decode cX7_dustOf 0 = .ok (.iconst 0, 1) := by decide +kernel
theorem dX7_dustOf_1 : decode cX7_dustOf 1 = .ok (.istore_n 3, 1) := by decide +kernel
theorem dX7_dustOf_2 : decode cX7_dustOf 2 = .ok (.iconst 0, 1) := by decide +kernel
theorem dX7_dustOf_3 : decode cX7_dustOf 3 = .ok (.istore 4, 2) := by decide +kernel
theorem dX7_dustOf_5 : decode cX7_dustOf 5 = .ok (.iload 4, 2) := by decide +kernel
theorem dX7_dustOf_7 : decode cX7_dustOf 7 = .ok (.bipush 12, 2) := by decide +kernel
theorem dX7_dustOf_9 : decode cX7_dustOf 9 = .ok (.if_icmp .ge 29, 3) := by decide +kernel
theorem dX7_dustOf_12 : decode cX7_dustOf 12 = .ok (.iload_n 3, 1) := by decide +kernel
theorem dX7_dustOf_13 : decode cX7_dustOf 13 = .ok (.aload_n 0, 1) := by decide +kernel
theorem dX7_dustOf_14 : decode cX7_dustOf 14 = .ok (.getfield 167, 3) := by decide +kernel
theorem dX7_dustOf_17 : decode cX7_dustOf 17 = .ok (.bipush 12, 2) := by decide +kernel
theorem dX7_dustOf_19 : decode cX7_dustOf 19 = .ok (.bipush 30, 2) := by decide +kernel
theorem dX7_dustOf_21 : decode cX7_dustOf 21 = .ok (.iload_n 1, 1) := by decide +kernel
theorem dX7_dustOf_22 : decode cX7_dustOf 22 = .ok (.imul, 1) := by decide +kernel
theorem dX7_dustOf_23 : decode cX7_dustOf 23 = .ok (.iload_n 2, 1) := by decide +kernel
theorem dX7_dustOf_24 : decode cX7_dustOf 24 = .ok (.iadd, 1) := by decide +kernel
theorem dX7_dustOf_25 : decode cX7_dustOf 25 = .ok (.imul, 1) := by decide +kernel
theorem dX7_dustOf_26 : decode cX7_dustOf 26 = .ok (.iload 4, 2) := by decide +kernel
theorem dX7_dustOf_28 : decode cX7_dustOf 28 = .ok (.iadd, 1) := by decide +kernel
theorem dX7_dustOf_29 : decode cX7_dustOf 29 = .ok (.iaload, 1) := by decide +kernel
theorem dX7_dustOf_30 : decode cX7_dustOf 30 = .ok (.iadd, 1) := by decide +kernel
theorem dX7_dustOf_31 : decode cX7_dustOf 31 = .ok (.istore_n 3, 1) := by decide +kernel
theorem dX7_dustOf_32 : decode cX7_dustOf 32 = .ok (.iinc 4 1, 3) := by decide +kernel
theorem dX7_dustOf_35 : decode cX7_dustOf 35 = .ok (.goto (-30), 3) := by decide +kernel
theorem dX7_dustOf_38 : decode cX7_dustOf 38 = .ok (.iload_n 3, 1) := by decide +kernel
theorem dX7_dustOf_39 : decode cX7_dustOf 39 = .ok (.ireturn, 1) := by decide +kernel
theorem dX7_weightOf_0 : decode cX7_weightOf 0 = .ok (.aload_n 0, 1) := by decide +kernel
theorem dX7_weightOf_1 : decode cX7_weightOf 1 = .ok (.iload_n 1, 1) := by decide +kernel
theorem dX7_weightOf_2 : decode cX7_weightOf 2 = .ok (.iload_n 2, 1) := by decide +kernel
theorem dX7_weightOf_3 : decode cX7_weightOf 3 = .ok (.invokevirtual 323, 3) := by decide +kernel
theorem dX7_weightOf_6 : decode cX7_weightOf 6 = .ok (.aload_n 0, 1) := by decide +kernel
theorem dX7_weightOf_7 : decode cX7_weightOf 7 = .ok (.getfield 155, 3) := by decide +kernel
theorem dX7_weightOf_10 : decode cX7_weightOf 10 = .ok (.bipush 30, 2) := by decide +kernel
theorem dX7_weightOf_12 : decode cX7_weightOf 12 = .ok (.iload_n 1, 1) := by decide +kernel
theorem dX7_weightOf_13 : decode cX7_weightOf 13 = .ok (.imul, 1) := by decide +kernel
theorem dX7_weightOf_14 : decode cX7_weightOf 14 = .ok (.iload_n 2, 1) := by decide +kernel
theorem dX7_weightOf_15 : decode cX7_weightOf 15 = .ok (.iadd, 1) := by decide +kernel
theorem dX7_weightOf_16 : decode cX7_weightOf 16 = .ok (.iaload, 1) := by decide +kernel
theorem dX7_weightOf_17 : decode cX7_weightOf 17 = .ok (.iadd, 1) := by decide +kernel
theorem dX7_weightOf_18 : decode cX7_weightOf 18 = .ok (.ireturn, 1) := by decide +kernel
theorem dX7_knowsLump_0 : decode cX7_knowsLump 0 = .ok (.aload_n 0, 1) := by decide +kernel
theorem dX7_knowsLump_1 : decode cX7_knowsLump 1 = .ok (.iload_n 1, 1) := by decide +kernel
theorem dX7_knowsLump_2 : decode cX7_knowsLump 2 = .ok (.aload_n 0, 1) := by decide +kernel
theorem dX7_knowsLump_3 : decode cX7_knowsLump 3 = .ok (.getfield 152, 3) := by decide +kernel
theorem dX7_knowsLump_6 : decode cX7_knowsLump 6 = .ok (.bipush 30, 2) := by decide +kernel
theorem dX7_knowsLump_8 : decode cX7_knowsLump 8 = .ok (.iload_n 1, 1) := by decide +kernel
theorem dX7_knowsLump_9 : decode cX7_knowsLump 9 = .ok (.imul, 1) := by decide +kernel
theorem dX7_knowsLump_10 : decode cX7_knowsLump 10 = .ok (.iload_n 2, 1) := by decide +kernel
theorem dX7_knowsLump_11 : decode cX7_knowsLump 11 = .ok (.iadd, 1) := by decide +kernel
theorem dX7_knowsLump_12 : decode cX7_knowsLump 12 = .ok (.iaload, 1) := by decide +kernel
theorem dX7_knowsLump_13 : decode cX7_knowsLump 13 = .ok (.invokevirtual 320, 3) := by decide +kernel
theorem dX7_knowsLump_16 : decode cX7_knowsLump 16 = .ok (.aload_n 0, 1) := by decide +kernel
theorem dX7_knowsLump_17 : decode cX7_knowsLump 17 = .ok (.getfield 110, 3) := by decide +kernel
theorem dX7_knowsLump_20 : decode cX7_knowsLump 20 = .ok (.bipush 6, 2) := by decide +kernel
theorem dX7_knowsLump_22 : decode cX7_knowsLump 22 = .ok (.aload_n 0, 1) := by decide +kernel
theorem dX7_knowsLump_23 : decode cX7_knowsLump 23 = .ok (.iload_n 1, 1) := by decide +kernel
theorem dX7_knowsLump_24 : decode cX7_knowsLump 24 = .ok (.iload_n 2, 1) := by decide +kernel
theorem dX7_knowsLump_25 : decode cX7_knowsLump 25 = .ok (.invokevirtual 326, 3) := by decide +kernel
theorem dX7_knowsLump_28 : decode cX7_knowsLump 28 = .ok (.iastore, 1) := by decide +kernel
theorem dX7_knowsLump_29 : decode cX7_knowsLump 29 = .ok (.return_, 1) := by decide +kernel
theorem dX7_isThere_0 : decode cX7_isThere 0 = .ok (.aload_n 0, 1) := by decide +kernel
theorem dX7_isThere_1 : decode cX7_isThere 1 = .ok (.getfield 149, 3) := by decide +kernel
theorem dX7_isThere_4 : decode cX7_isThere 4 = .ok (.bipush 30, 2) := by decide +kernel
theorem dX7_isThere_6 : decode cX7_isThere 6 = .ok (.iload_n 1, 1) := by decide +kernel
theorem dX7_isThere_7 : decode cX7_isThere 7 = .ok (.imul, 1) := by decide +kernel
theorem dX7_isThere_8 : decode cX7_isThere 8 = .ok (.iload_n 2, 1) := by decide +kernel
theorem dX7_isThere_9 : decode cX7_isThere 9 = .ok (.iadd, 1) := by decide +kernel
theorem dX7_isThere_10 : decode cX7_isThere 10 = .ok (.iaload, 1) := by decide +kernel
theorem dX7_isThere_11 : decode cX7_isThere 11 = .ok (.ifCond .ne 7, 3) := by decide +kernel
theorem dX7_isThere_14 : decode cX7_isThere 14 = .ok (.iconst 1, 1) := by decide +kernel
theorem dX7_isThere_15 : decode cX7_isThere 15 = .ok (.goto 4, 3) := by decide +kernel
theorem dX7_isThere_18 : decode cX7_isThere 18 = .ok (.iconst 0, 1) := by decide +kernel
theorem dX7_isThere_19 : decode cX7_isThere 19 = .ok (.ireturn, 1) := by decide +kernel
theorem dX7_wayOf_0 : decode cX7_wayOf 0 = .ok (.aload_n 0, 1) := by decide +kernel
theorem dX7_wayOf_1 : decode cX7_wayOf 1 = .ok (.getfield 119, 3) := by decide +kernel
theorem dX7_wayOf_4 : decode cX7_wayOf 4 = .ok (.bipush 12, 2) := by decide +kernel
theorem dX7_wayOf_6 : decode cX7_wayOf 6 = .ok (.iload_n 1, 1) := by decide +kernel
theorem dX7_wayOf_7 : decode cX7_wayOf 7 = .ok (.imul, 1) := by decide +kernel
theorem dX7_wayOf_8 : decode cX7_wayOf 8 = .ok (.iload_n 2, 1) := by decide +kernel
theorem dX7_wayOf_9 : decode cX7_wayOf 9 = .ok (.iadd, 1) := by decide +kernel
theorem dX7_wayOf_10 : decode cX7_wayOf 10 = .ok (.iaload, 1) := by decide +kernel
theorem dX7_wayOf_11 : decode cX7_wayOf 11 = .ok (.istore_n 3, 1) := by decide +kernel
theorem dX7_wayOf_12 : decode cX7_wayOf 12 = .ok (.iload_n 2, 1) := by decide +kernel
theorem dX7_wayOf_13 : decode cX7_wayOf 13 = .ok (.ifCond .ne 12, 3) := by decide +kernel
theorem dX7_wayOf_16 : decode cX7_wayOf 16 = .ok (.aload_n 0, 1) := by decide +kernel
theorem dX7_wayOf_17 : decode cX7_wayOf 17 = .ok (.getfield 131, 3) := by decide +kernel
theorem dX7_wayOf_20 : decode cX7_wayOf 20 = .ok (.iload_n 1, 1) := by decide +kernel
theorem dX7_wayOf_21 : decode cX7_wayOf 21 = .ok (.iaload, 1) := by decide +kernel
theorem dX7_wayOf_22 : decode cX7_wayOf 22 = .ok (.goto 16, 3) := by decide +kernel
theorem dX7_wayOf_25 : decode cX7_wayOf 25 = .ok (.aload_n 0, 1) := by decide +kernel
theorem dX7_wayOf_26 : decode cX7_wayOf 26 = .ok (.getfield 119, 3) := by decide +kernel
theorem dX7_wayOf_29 : decode cX7_wayOf 29 = .ok (.bipush 12, 2) := by decide +kernel
theorem dX7_wayOf_31 : decode cX7_wayOf 31 = .ok (.iload_n 1, 1) := by decide +kernel
theorem dX7_wayOf_32 : decode cX7_wayOf 32 = .ok (.imul, 1) := by decide +kernel
theorem dX7_wayOf_33 : decode cX7_wayOf 33 = .ok (.iload_n 2, 1) := by decide +kernel
theorem dX7_wayOf_34 : decode cX7_wayOf 34 = .ok (.iadd, 1) := by decide +kernel
theorem dX7_wayOf_35 : decode cX7_wayOf 35 = .ok (.iconst 1, 1) := by decide +kernel
theorem dX7_wayOf_36 : decode cX7_wayOf 36 = .ok (.isub, 1) := by decide +kernel
theorem dX7_wayOf_37 : decode cX7_wayOf 37 = .ok (.iaload, 1) := by decide +kernel
theorem dX7_wayOf_38 : decode cX7_wayOf 38 = .ok (.istore 4, 2) := by decide +kernel
theorem dX7_wayOf_40 : decode cX7_wayOf 40 = .ok (.iload_n 2, 1) := by decide +kernel
theorem dX7_wayOf_41 : decode cX7_wayOf 41 = .ok (.aload_n 0, 1) := by decide +kernel
theorem dX7_wayOf_42 : decode cX7_wayOf 42 = .ok (.getfield 116, 3) := by decide +kernel
theorem dX7_wayOf_45 : decode cX7_wayOf 45 = .ok (.iload_n 1, 1) := by decide +kernel
theorem dX7_wayOf_46 : decode cX7_wayOf 46 = .ok (.iaload, 1) := by decide +kernel
theorem dX7_wayOf_47 : decode cX7_wayOf 47 = .ok (.iconst 1, 1) := by decide +kernel
theorem dX7_wayOf_48 : decode cX7_wayOf 48 = .ok (.isub, 1) := by decide +kernel
theorem dX7_wayOf_49 : decode cX7_wayOf 49 = .ok (.if_icmp .ne 7, 3) := by decide +kernel
theorem dX7_wayOf_52 : decode cX7_wayOf 52 = .ok (.iconst 0, 1) := by decide +kernel
theorem dX7_wayOf_53 : decode cX7_wayOf 53 = .ok (.goto 16, 3) := by decide +kernel
theorem dX7_wayOf_56 : decode cX7_wayOf 56 = .ok (.aload_n 0, 1) := by decide +kernel
theorem dX7_wayOf_57 : decode cX7_wayOf 57 = .ok (.getfield 119, 3) := by decide +kernel
theorem dX7_wayOf_60 : decode cX7_wayOf 60 = .ok (.bipush 12, 2) := by decide +kernel
theorem dX7_wayOf_62 : decode cX7_wayOf 62 = .ok (.iload_n 1, 1) := by decide +kernel
theorem dX7_wayOf_63 : decode cX7_wayOf 63 = .ok (.imul, 1) := by decide +kernel
theorem dX7_wayOf_64 : decode cX7_wayOf 64 = .ok (.iload_n 2, 1) := by decide +kernel
theorem dX7_wayOf_65 : decode cX7_wayOf 65 = .ok (.iadd, 1) := by decide +kernel
theorem dX7_wayOf_66 : decode cX7_wayOf 66 = .ok (.iconst 1, 1) := by decide +kernel
theorem dX7_wayOf_67 : decode cX7_wayOf 67 = .ok (.iadd, 1) := by decide +kernel
theorem dX7_wayOf_68 : decode cX7_wayOf 68 = .ok (.iaload, 1) := by decide +kernel
theorem dX7_wayOf_69 : decode cX7_wayOf 69 = .ok (.istore 5, 2) := by decide +kernel
theorem dX7_wayOf_71 : decode cX7_wayOf 71 = .ok (.iload 4, 2) := by decide +kernel
theorem dX7_wayOf_73 : decode cX7_wayOf 73 = .ok (.iload_n 3, 1) := by decide +kernel
theorem dX7_wayOf_74 : decode cX7_wayOf 74 = .ok (.if_icmp .le 8, 3) := by decide +kernel
theorem dX7_wayOf_77 : decode cX7_wayOf 77 = .ok (.iload 4, 2) := by decide +kernel
theorem dX7_wayOf_79 : decode cX7_wayOf 79 = .ok (.goto 4, 3) := by decide +kernel
theorem dX7_wayOf_82 : decode cX7_wayOf 82 = .ok (.iload_n 3, 1) := by decide +kernel
theorem dX7_wayOf_83 : decode cX7_wayOf 83 = .ok (.istore 6, 2) := by decide +kernel
theorem dX7_wayOf_85 : decode cX7_wayOf 85 = .ok (.iload 5, 2) := by decide +kernel
theorem dX7_wayOf_87 : decode cX7_wayOf 87 = .ok (.iload 6, 2) := by decide +kernel
theorem dX7_wayOf_89 : decode cX7_wayOf 89 = .ok (.if_icmp .le 7, 3) := by decide +kernel
theorem dX7_wayOf_92 : decode cX7_wayOf 92 = .ok (.iconst 1, 1) := by decide +kernel
theorem dX7_wayOf_93 : decode cX7_wayOf 93 = .ok (.goto 14, 3) := by decide +kernel
theorem dX7_wayOf_96 : decode cX7_wayOf 96 = .ok (.iload 4, 2) := by decide +kernel
theorem dX7_wayOf_98 : decode cX7_wayOf 98 = .ok (.iload_n 3, 1) := by decide +kernel
theorem dX7_wayOf_99 : decode cX7_wayOf 99 = .ok (.if_icmp .le 7, 3) := by decide +kernel
theorem dX7_wayOf_102 : decode cX7_wayOf 102 = .ok (.iconst (-1), 1) := by decide +kernel
theorem dX7_wayOf_103 : decode cX7_wayOf 103 = .ok (.goto 4, 3) := by decide +kernel
theorem dX7_wayOf_106 : decode cX7_wayOf 106 = .ok (.iconst 0, 1) := by decide +kernel
theorem dX7_wayOf_107 : decode cX7_wayOf 107 = .ok (.ireturn, 1) := by decide +kernel
theorem dX7_steps1_0 : decode cX7_steps1 0 = .ok (.aload_n 0, 1) := by decide +kernel
theorem dX7_steps1_1 : decode cX7_steps1 1 = .ok (.iload_n 1, 1) := by decide +kernel
theorem dX7_steps1_2 : decode cX7_steps1 2 = .ok (.invokevirtual 329, 3) := by decide +kernel
theorem dX7_steps1_5 : decode cX7_steps1 5 = .ok (.aload_n 0, 1) := by decide +kernel
theorem dX7_steps1_6 : decode cX7_steps1 6 = .ok (.iload_n 1, 1) := by decide +kernel
theorem dX7_steps1_7 : decode cX7_steps1 7 = .ok (.invokevirtual 332, 3) := by decide +kernel
theorem dX7_steps1_10 : decode cX7_steps1 10 = .ok (.aload_n 0, 1) := by decide +kernel
theorem dX7_steps1_11 : decode cX7_steps1 11 = .ok (.iload_n 1, 1) := by decide +kernel
theorem dX7_steps1_12 : decode cX7_steps1 12 = .ok (.invokevirtual 335, 3) := by decide +kernel
theorem dX7_steps1_15 : decode cX7_steps1 15 = .ok (.aload_n 0, 1) := by decide +kernel
theorem dX7_steps1_16 : decode cX7_steps1 16 = .ok (.iload_n 1, 1) := by decide +kernel
theorem dX7_steps1_17 : decode cX7_steps1 17 = .ok (.invokevirtual 338, 3) := by decide +kernel
theorem dX7_steps1_20 : decode cX7_steps1 20 = .ok (.aload_n 0, 1) := by decide +kernel
theorem dX7_steps1_21 : decode cX7_steps1 21 = .ok (.iload_n 1, 1) := by decide +kernel
theorem dX7_steps1_22 : decode cX7_steps1 22 = .ok (.invokevirtual 341, 3) := by decide +kernel
theorem dX7_steps1_25 : decode cX7_steps1 25 = .ok (.aload_n 0, 1) := by decide +kernel
theorem dX7_steps1_26 : decode cX7_steps1 26 = .ok (.iload_n 1, 1) := by decide +kernel
theorem dX7_steps1_27 : decode cX7_steps1 27 = .ok (.invokevirtual 344, 3) := by decide +kernel
theorem dX7_steps1_30 : decode cX7_steps1 30 = .ok (.aload_n 0, 1) := by decide +kernel
theorem dX7_steps1_31 : decode cX7_steps1 31 = .ok (.iload_n 1, 1) := by decide +kernel
theorem dX7_steps1_32 : decode cX7_steps1 32 = .ok (.invokevirtual 347, 3) := by decide +kernel
theorem dX7_steps1_35 : decode cX7_steps1 35 = .ok (.aload_n 0, 1) := by decide +kernel
theorem dX7_steps1_36 : decode cX7_steps1 36 = .ok (.iload_n 1, 1) := by decide +kernel
theorem dX7_steps1_37 : decode cX7_steps1 37 = .ok (.invokevirtual 350, 3) := by decide +kernel
theorem dX7_steps1_40 : decode cX7_steps1 40 = .ok (.aload_n 0, 1) := by decide +kernel
theorem dX7_steps1_41 : decode cX7_steps1 41 = .ok (.getfield 137, 3) := by decide +kernel
theorem dX7_steps1_44 : decode cX7_steps1 44 = .ok (.iload_n 1, 1) := by decide +kernel
theorem dX7_steps1_45 : decode cX7_steps1 45 = .ok (.dup2, 1) := by decide +kernel
theorem dX7_steps1_46 : decode cX7_steps1 46 = .ok (.iaload, 1) := by decide +kernel
theorem dX7_steps1_47 : decode cX7_steps1 47 = .ok (.iconst 1, 1) := by decide +kernel
theorem dX7_steps1_48 : decode cX7_steps1 48 = .ok (.iadd, 1) := by decide +kernel
theorem dX7_steps1_49 : decode cX7_steps1 49 = .ok (.iastore, 1) := by decide +kernel
theorem dX7_steps1_50 : decode cX7_steps1 50 = .ok (.return_, 1) := by decide +kernel
theorem dX7_part_0 : decode cX7_part 0 = .ok (.iload_n 0, 1) := by decide +kernel
theorem dX7_part_1 : decode cX7_part 1 = .ok (.i2l, 1) := by decide +kernel
theorem dX7_part_2 : decode cX7_part 2 = .ok (.iload_n 1, 1) := by decide +kernel
theorem dX7_part_3 : decode cX7_part 3 = .ok (.i2l, 1) := by decide +kernel
theorem dX7_part_4 : decode cX7_part 4 = .ok (.lmul, 1) := by decide +kernel
theorem dX7_part_5 : decode cX7_part 5 = .ok (.ldc2_w 353, 3) := by decide +kernel
theorem dX7_part_8 : decode cX7_part 8 = .ok (.ldiv, 1) := by decide +kernel
theorem dX7_part_9 : decode cX7_part 9 = .ok (.l2i, 1) := by decide +kernel
theorem dX7_part_10 : decode cX7_part 10 = .ok (.ireturn, 1) := by decide +kernel
theorem dX7_sticks_0 : decode cX7_sticks 0 = .ok (.iconst 0, 1) := by decide +kernel
theorem dX7_sticks_1 : decode cX7_sticks 1 = .ok (.istore_n 2, 1) := by decide +kernel
theorem dX7_sticks_2 : decode cX7_sticks 2 = .ok (.iload_n 2, 1) := by decide +kernel
theorem dX7_sticks_3 : decode cX7_sticks 3 = .ok (.aload_n 0, 1) := by decide +kernel
theorem dX7_sticks_4 : decode cX7_sticks 4 = .ok (.getfield 116, 3) := by decide +kernel
theorem dX7_sticks_7 : decode cX7_sticks 7 = .ok (.iload_n 1, 1) := by decide +kernel
theorem dX7_sticks_8 : decode cX7_sticks 8 = .ok (.iaload, 1) := by decide +kernel
theorem dX7_sticks_9 : decode cX7_sticks 9 = .ok (.if_icmp .ge 184, 3) := by decide +kernel
theorem dX7_sticks_12 : decode cX7_sticks 12 = .ok (.iconst 3, 1) := by decide +kernel
theorem dX7_sticks_13 : decode cX7_sticks 13 = .ok (.istore_n 3, 1) := by decide +kernel
theorem dX7_sticks_14 : decode cX7_sticks 14 = .ok (.iload_n 3, 1) := by decide +kernel
theorem dX7_sticks_15 : decode cX7_sticks 15 = .ok (.ifCond .lt 172, 3) := by decide +kernel
theorem dX7_sticks_18 : decode cX7_sticks 18 = .ok (.aload_n 0, 1) := by decide +kernel
theorem dX7_sticks_19 : decode cX7_sticks 19 = .ok (.iload_n 1, 1) := by decide +kernel
theorem dX7_sticks_20 : decode cX7_sticks 20 = .ok (.iload_n 2, 1) := by decide +kernel
theorem dX7_sticks_21 : decode cX7_sticks 21 = .ok (.iload_n 3, 1) := by decide +kernel
theorem dX7_sticks_22 : decode cX7_sticks 22 = .ok (.invokevirtual 355, 3) := by decide +kernel
theorem dX7_sticks_25 : decode cX7_sticks 25 = .ok (.aload_n 0, 1) := by decide +kernel
theorem dX7_sticks_26 : decode cX7_sticks 26 = .ok (.iconst 0, 1) := by decide +kernel
theorem dX7_sticks_27 : decode cX7_sticks 27 = .ok (.invokevirtual 359, 3) := by decide +kernel
theorem dX7_sticks_30 : decode cX7_sticks 30 = .ok (.istore 4, 2) := by decide +kernel
theorem dX7_sticks_32 : decode cX7_sticks 32 = .ok (.iload 4, 2) := by decide +kernel
theorem dX7_sticks_34 : decode cX7_sticks 34 = .ok (.ifCond .lt 90, 3) := by decide +kernel
theorem dX7_sticks_37 : decode cX7_sticks 37 = .ok (.aload_n 0, 1) := by decide +kernel
theorem dX7_sticks_38 : decode cX7_sticks 38 = .ok (.getfield 308, 3) := by decide +kernel
theorem dX7_sticks_41 : decode cX7_sticks 41 = .ok (.ifCond .le 83, 3) := by decide +kernel
theorem dX7_sticks_44 : decode cX7_sticks 44 = .ok (.aload_n 0, 1) := by decide +kernel
theorem dX7_sticks_45 : decode cX7_sticks 45 = .ok (.getfield 134, 3) := by decide +kernel
theorem dX7_sticks_48 : decode cX7_sticks 48 = .ok (.iload_n 1, 1) := by decide +kernel
theorem dX7_sticks_49 : decode cX7_sticks 49 = .ok (.aload_n 0, 1) := by decide +kernel
theorem dX7_sticks_50 : decode cX7_sticks 50 = .ok (.getfield 134, 3) := by decide +kernel
theorem dX7_sticks_53 : decode cX7_sticks 53 = .ok (.iload_n 1, 1) := by decide +kernel
theorem dX7_sticks_54 : decode cX7_sticks 54 = .ok (.iaload, 1) := by decide +kernel
theorem dX7_sticks_55 : decode cX7_sticks 55 = .ok (.i2l, 1) := by decide +kernel
theorem dX7_sticks_56 : decode cX7_sticks 56 = .ok (.ldc2_w 362, 3) := by decide +kernel
theorem dX7_sticks_59 : decode cX7_sticks 59 = .ok (.lmul, 1) := by decide +kernel
theorem dX7_sticks_60 : decode cX7_sticks 60 = .ok (.ldc2_w 364, 3) := by decide +kernel
theorem dX7_sticks_63 : decode cX7_sticks 63 = .ok (.ladd, 1) := by decide +kernel
theorem dX7_sticks_64 : decode cX7_sticks 64 = .ok (.ldc2_w 366, 3) := by decide +kernel
theorem dX7_sticks_67 : decode cX7_sticks 67 = .ok (.lrem, 1) := by decide +kernel
theorem dX7_sticks_68 : decode cX7_sticks 68 = .ok (.l2i, 1) := by decide +kernel
theorem dX7_sticks_69 : decode cX7_sticks 69 = .ok (.iastore, 1) := by decide +kernel
theorem dX7_sticks_70 : decode cX7_sticks 70 = .ok (.iload 4, 2) := by decide +kernel
theorem dX7_sticks_72 : decode cX7_sticks 72 = .ok (.aload_n 0, 1) := by decide +kernel
theorem dX7_sticks_73 : decode cX7_sticks 73 = .ok (.getfield 134, 3) := by decide +kernel
theorem dX7_sticks_76 : decode cX7_sticks 76 = .ok (.iload_n 1, 1) := by decide +kernel
theorem dX7_sticks_77 : decode cX7_sticks 77 = .ok (.iaload, 1) := by decide +kernel
theorem dX7_sticks_78 : decode cX7_sticks 78 = .ok (.ldc_w 368, 3) := by decide +kernel
theorem dX7_sticks_81 : decode cX7_sticks 81 = .ok (.idiv, 1) := by decide +kernel
theorem dX7_sticks_82 : decode cX7_sticks 82 = .ok (.iconst 2, 1) := by decide +kernel
theorem dX7_sticks_83 : decode cX7_sticks 83 = .ok (.aload_n 0, 1) := by decide +kernel
theorem dX7_sticks_84 : decode cX7_sticks 84 = .ok (.getfield 308, 3) := by decide +kernel
theorem dX7_sticks_87 : decode cX7_sticks 87 = .ok (.imul, 1) := by decide +kernel
theorem dX7_sticks_88 : decode cX7_sticks 88 = .ok (.iconst 1, 1) := by decide +kernel
theorem dX7_sticks_89 : decode cX7_sticks 89 = .ok (.iadd, 1) := by decide +kernel
theorem dX7_sticks_90 : decode cX7_sticks 90 = .ok (.irem, 1) := by decide +kernel
theorem dX7_sticks_91 : decode cX7_sticks 91 = .ok (.iadd, 1) := by decide +kernel
theorem dX7_sticks_92 : decode cX7_sticks 92 = .ok (.aload_n 0, 1) := by decide +kernel
theorem dX7_sticks_93 : decode cX7_sticks 93 = .ok (.getfield 308, 3) := by decide +kernel
theorem dX7_sticks_96 : decode cX7_sticks 96 = .ok (.isub, 1) := by decide +kernel
theorem dX7_sticks_97 : decode cX7_sticks 97 = .ok (.istore 4, 2) := by decide +kernel
theorem dX7_sticks_99 : decode cX7_sticks 99 = .ok (.iload 4, 2) := by decide +kernel
theorem dX7_sticks_101 : decode cX7_sticks 101 = .ok (.ifCond .ge 7, 3) := by decide +kernel
theorem dX7_sticks_104 : decode cX7_sticks 104 = .ok (.iconst 0, 1) := by decide +kernel
theorem dX7_sticks_105 : decode cX7_sticks 105 = .ok (.goto 17, 3) := by decide +kernel
theorem dX7_sticks_108 : decode cX7_sticks 108 = .ok (.iload 4, 2) := by decide +kernel
theorem dX7_sticks_110 : decode cX7_sticks 110 = .ok (.bipush 100, 2) := by decide +kernel
theorem dX7_sticks_112 : decode cX7_sticks 112 = .ok (.if_icmp .le 8, 3) := by decide +kernel
theorem dX7_sticks_115 : decode cX7_sticks 115 = .ok (.bipush 100, 2) := by decide +kernel
theorem dX7_sticks_117 : decode cX7_sticks 117 = .ok (.goto 5, 3) := by decide +kernel
theorem dX7_sticks_120 : decode cX7_sticks 120 = .ok (.iload 4, 2) := by decide +kernel
theorem dX7_sticks_122 : decode cX7_sticks 122 = .ok (.istore 4, 2) := by decide +kernel
theorem dX7_sticks_124 : decode cX7_sticks 124 = .ok (.iload 4, 2) := by decide +kernel
theorem dX7_sticks_126 : decode cX7_sticks 126 = .ok (.ifCond .le 55, 3) := by decide +kernel
theorem dX7_sticks_129 : decode cX7_sticks 129 = .ok (.bipush 60, 2) := by decide +kernel
theorem dX7_sticks_131 : decode cX7_sticks 131 = .ok (.iload_n 1, 1) := by decide +kernel
theorem dX7_sticks_132 : decode cX7_sticks 132 = .ok (.imul, 1) := by decide +kernel
theorem dX7_sticks_133 : decode cX7_sticks 133 = .ok (.iconst 5, 1) := by decide +kernel
theorem dX7_sticks_134 : decode cX7_sticks 134 = .ok (.iload_n 2, 1) := by decide +kernel
theorem dX7_sticks_135 : decode cX7_sticks 135 = .ok (.imul, 1) := by decide +kernel
theorem dX7_sticks_136 : decode cX7_sticks 136 = .ok (.iadd, 1) := by decide +kernel
theorem dX7_sticks_137 : decode cX7_sticks 137 = .ok (.iload_n 3, 1) := by decide +kernel
theorem dX7_sticks_138 : decode cX7_sticks 138 = .ok (.iadd, 1) := by decide +kernel
theorem dX7_sticks_139 : decode cX7_sticks 139 = .ok (.istore 5, 2) := by decide +kernel
theorem dX7_sticks_141 : decode cX7_sticks 141 = .ok (.aload_n 0, 1) := by decide +kernel
theorem dX7_sticks_142 : decode cX7_sticks 142 = .ok (.getfield 128, 3) := by decide +kernel
theorem dX7_sticks_145 : decode cX7_sticks 145 = .ok (.iload 5, 2) := by decide +kernel
theorem dX7_sticks_147 : decode cX7_sticks 147 = .ok (.iaload, 1) := by decide +kernel
theorem dX7_sticks_148 : decode cX7_sticks 148 = .ok (.iload 4, 2) := by decide +kernel
theorem dX7_sticks_150 : decode cX7_sticks 150 = .ok (.invokestatic 369, 3) := by decide +kernel
theorem dX7_sticks_153 : decode cX7_sticks 153 = .ok (.istore 6, 2) := by decide +kernel
theorem dX7_sticks_155 : decode cX7_sticks 155 = .ok (.aload_n 0, 1) := by decide +kernel
theorem dX7_sticks_156 : decode cX7_sticks 156 = .ok (.getfield 128, 3) := by decide +kernel
theorem dX7_sticks_159 : decode cX7_sticks 159 = .ok (.iload 5, 2) := by decide +kernel
theorem dX7_sticks_161 : decode cX7_sticks 161 = .ok (.dup2, 1) := by decide +kernel
theorem dX7_sticks_162 : decode cX7_sticks 162 = .ok (.iaload, 1) := by decide +kernel
theorem dX7_sticks_163 : decode cX7_sticks 163 = .ok (.iload 6, 2) := by decide +kernel
theorem dX7_sticks_165 : decode cX7_sticks 165 = .ok (.isub, 1) := by decide +kernel
theorem dX7_sticks_166 : decode cX7_sticks 166 = .ok (.iastore, 1) := by decide +kernel
theorem dX7_sticks_167 : decode cX7_sticks 167 = .ok (.aload_n 0, 1) := by decide +kernel
theorem dX7_sticks_168 : decode cX7_sticks 168 = .ok (.getfield 128, 3) := by decide +kernel
theorem dX7_sticks_171 : decode cX7_sticks 171 = .ok (.iload 5, 2) := by decide +kernel
theorem dX7_sticks_173 : decode cX7_sticks 173 = .ok (.iconst 1, 1) := by decide +kernel
theorem dX7_sticks_174 : decode cX7_sticks 174 = .ok (.iadd, 1) := by decide +kernel
theorem dX7_sticks_175 : decode cX7_sticks 175 = .ok (.dup2, 1) := by decide +kernel
theorem dX7_sticks_176 : decode cX7_sticks 176 = .ok (.iaload, 1) := by decide +kernel
theorem dX7_sticks_177 : decode cX7_sticks 177 = .ok (.iload 6, 2) := by decide +kernel
theorem dX7_sticks_179 : decode cX7_sticks 179 = .ok (.iadd, 1) := by decide +kernel
theorem dX7_sticks_180 : decode cX7_sticks 180 = .ok (.iastore, 1) := by decide +kernel
theorem dX7_sticks_181 : decode cX7_sticks 181 = .ok (.iinc 3 (-1), 3) := by decide +kernel
theorem dX7_sticks_184 : decode cX7_sticks 184 = .ok (.goto (-170), 3) := by decide +kernel
theorem dX7_sticks_187 : decode cX7_sticks 187 = .ok (.iinc 2 1, 3) := by decide +kernel
theorem dX7_sticks_190 : decode cX7_sticks 190 = .ok (.goto (-188), 3) := by decide +kernel
theorem dX7_sticks_193 : decode cX7_sticks 193 = .ok (.return_, 1) := by decide +kernel
theorem dX7_breaks_0 : decode cX7_breaks 0 = .ok (.iconst 0, 1) := by decide +kernel
theorem dX7_breaks_1 : decode cX7_breaks 1 = .ok (.istore_n 2, 1) := by decide +kernel
theorem dX7_breaks_2 : decode cX7_breaks 2 = .ok (.iload_n 2, 1) := by decide +kernel
theorem dX7_breaks_3 : decode cX7_breaks 3 = .ok (.aload_n 0, 1) := by decide +kernel
theorem dX7_breaks_4 : decode cX7_breaks 4 = .ok (.getfield 116, 3) := by decide +kernel
theorem dX7_breaks_7 : decode cX7_breaks 7 = .ok (.iload_n 1, 1) := by decide +kernel
theorem dX7_breaks_8 : decode cX7_breaks 8 = .ok (.iaload, 1) := by decide +kernel
theorem dX7_breaks_9 : decode cX7_breaks 9 = .ok (.if_icmp .ge 93, 3) := by decide +kernel
theorem dX7_breaks_12 : decode cX7_breaks 12 = .ok (.iconst 1, 1) := by decide +kernel
theorem dX7_breaks_13 : decode cX7_breaks 13 = .ok (.istore_n 3, 1) := by decide +kernel
theorem dX7_breaks_14 : decode cX7_breaks 14 = .ok (.iload_n 3, 1) := by decide +kernel
theorem dX7_breaks_15 : decode cX7_breaks 15 = .ok (.iconst 5, 1) := by decide +kernel
theorem dX7_breaks_16 : decode cX7_breaks 16 = .ok (.if_icmp .ge 80, 3) := by decide +kernel
theorem dX7_breaks_19 : decode cX7_breaks 19 = .ok (.aload_n 0, 1) := by decide +kernel
theorem dX7_breaks_20 : decode cX7_breaks 20 = .ok (.iload_n 1, 1) := by decide +kernel
theorem dX7_breaks_21 : decode cX7_breaks 21 = .ok (.iload_n 2, 1) := by decide +kernel
theorem dX7_breaks_22 : decode cX7_breaks 22 = .ok (.iload_n 3, 1) := by decide +kernel
theorem dX7_breaks_23 : decode cX7_breaks 23 = .ok (.invokevirtual 355, 3) := by decide +kernel
theorem dX7_breaks_26 : decode cX7_breaks 26 = .ok (.aload_n 0, 1) := by decide +kernel
theorem dX7_breaks_27 : decode cX7_breaks 27 = .ok (.iconst 1, 1) := by decide +kernel
theorem dX7_breaks_28 : decode cX7_breaks 28 = .ok (.invokevirtual 359, 3) := by decide +kernel
theorem dX7_breaks_31 : decode cX7_breaks 31 = .ok (.istore 4, 2) := by decide +kernel
theorem dX7_breaks_33 : decode cX7_breaks 33 = .ok (.iload 4, 2) := by decide +kernel
theorem dX7_breaks_35 : decode cX7_breaks 35 = .ok (.ifCond .le 55, 3) := by decide +kernel
theorem dX7_breaks_38 : decode cX7_breaks 38 = .ok (.bipush 60, 2) := by decide +kernel
theorem dX7_breaks_40 : decode cX7_breaks 40 = .ok (.iload_n 1, 1) := by decide +kernel
theorem dX7_breaks_41 : decode cX7_breaks 41 = .ok (.imul, 1) := by decide +kernel
theorem dX7_breaks_42 : decode cX7_breaks 42 = .ok (.iconst 5, 1) := by decide +kernel
theorem dX7_breaks_43 : decode cX7_breaks 43 = .ok (.iload_n 2, 1) := by decide +kernel
theorem dX7_breaks_44 : decode cX7_breaks 44 = .ok (.imul, 1) := by decide +kernel
theorem dX7_breaks_45 : decode cX7_breaks 45 = .ok (.iadd, 1) := by decide +kernel
theorem dX7_breaks_46 : decode cX7_breaks 46 = .ok (.iload_n 3, 1) := by decide +kernel
theorem dX7_breaks_47 : decode cX7_breaks 47 = .ok (.iadd, 1) := by decide +kernel
theorem dX7_breaks_48 : decode cX7_breaks 48 = .ok (.istore 5, 2) := by decide +kernel
theorem dX7_breaks_50 : decode cX7_breaks 50 = .ok (.aload_n 0, 1) := by decide +kernel
theorem dX7_breaks_51 : decode cX7_breaks 51 = .ok (.getfield 128, 3) := by decide +kernel
theorem dX7_breaks_54 : decode cX7_breaks 54 = .ok (.iload 5, 2) := by decide +kernel
theorem dX7_breaks_56 : decode cX7_breaks 56 = .ok (.iaload, 1) := by decide +kernel
theorem dX7_breaks_57 : decode cX7_breaks 57 = .ok (.iload 4, 2) := by decide +kernel
theorem dX7_breaks_59 : decode cX7_breaks 59 = .ok (.invokestatic 369, 3) := by decide +kernel
theorem dX7_breaks_62 : decode cX7_breaks 62 = .ok (.istore 6, 2) := by decide +kernel
theorem dX7_breaks_64 : decode cX7_breaks 64 = .ok (.aload_n 0, 1) := by decide +kernel
theorem dX7_breaks_65 : decode cX7_breaks 65 = .ok (.getfield 128, 3) := by decide +kernel
theorem dX7_breaks_68 : decode cX7_breaks 68 = .ok (.iload 5, 2) := by decide +kernel
theorem dX7_breaks_70 : decode cX7_breaks 70 = .ok (.dup2, 1) := by decide +kernel
theorem dX7_breaks_71 : decode cX7_breaks 71 = .ok (.iaload, 1) := by decide +kernel
theorem dX7_breaks_72 : decode cX7_breaks 72 = .ok (.iload 6, 2) := by decide +kernel
theorem dX7_breaks_74 : decode cX7_breaks 74 = .ok (.isub, 1) := by decide +kernel
theorem dX7_breaks_75 : decode cX7_breaks 75 = .ok (.iastore, 1) := by decide +kernel
theorem dX7_breaks_76 : decode cX7_breaks 76 = .ok (.aload_n 0, 1) := by decide +kernel
theorem dX7_breaks_77 : decode cX7_breaks 77 = .ok (.getfield 128, 3) := by decide +kernel
theorem dX7_breaks_80 : decode cX7_breaks 80 = .ok (.iload 5, 2) := by decide +kernel
theorem dX7_breaks_82 : decode cX7_breaks 82 = .ok (.iload_n 3, 1) := by decide +kernel
theorem dX7_breaks_83 : decode cX7_breaks 83 = .ok (.isub, 1) := by decide +kernel
theorem dX7_breaks_84 : decode cX7_breaks 84 = .ok (.dup2, 1) := by decide +kernel
theorem dX7_breaks_85 : decode cX7_breaks 85 = .ok (.iaload, 1) := by decide +kernel
theorem dX7_breaks_86 : decode cX7_breaks 86 = .ok (.iload 6, 2) := by decide +kernel
theorem dX7_breaks_88 : decode cX7_breaks 88 = .ok (.iadd, 1) := by decide +kernel
theorem dX7_breaks_89 : decode cX7_breaks 89 = .ok (.iastore, 1) := by decide +kernel
theorem dX7_breaks_90 : decode cX7_breaks 90 = .ok (.iinc 3 1, 3) := by decide +kernel
theorem dX7_breaks_93 : decode cX7_breaks 93 = .ok (.goto (-79), 3) := by decide +kernel
theorem dX7_breaks_96 : decode cX7_breaks 96 = .ok (.iinc 2 1, 3) := by decide +kernel
theorem dX7_breaks_99 : decode cX7_breaks 99 = .ok (.goto (-97), 3) := by decide +kernel
theorem dX7_breaks_102 : decode cX7_breaks 102 = .ok (.return_, 1) := by decide +kernel
theorem dX7_findHeld_0 : decode cX7_findHeld 0 = .ok (.iconst 0, 1) := by decide +kernel
theorem dX7_findHeld_1 : decode cX7_findHeld 1 = .ok (.istore_n 2, 1) := by decide +kernel
theorem dX7_findHeld_2 : decode cX7_findHeld 2 = .ok (.iload_n 2, 1) := by decide +kernel
theorem dX7_findHeld_3 : decode cX7_findHeld 3 = .ok (.bipush 12, 2) := by decide +kernel
theorem dX7_findHeld_5 : decode cX7_findHeld 5 = .ok (.if_icmp .ge 16, 3) := by decide +kernel
theorem dX7_findHeld_8 : decode cX7_findHeld 8 = .ok (.aload_n 0, 1) := by decide +kernel
theorem dX7_findHeld_9 : decode cX7_findHeld 9 = .ok (.getfield 173, 3) := by decide +kernel
theorem dX7_findHeld_12 : decode cX7_findHeld 12 = .ok (.iload_n 2, 1) := by decide +kernel
theorem dX7_findHeld_13 : decode cX7_findHeld 13 = .ok (.iconst 5, 1) := by decide +kernel
theorem dX7_findHeld_14 : decode cX7_findHeld 14 = .ok (.iastore, 1) := by decide +kernel
theorem dX7_findHeld_15 : decode cX7_findHeld 15 = .ok (.iinc 2 1, 3) := by decide +kernel
theorem dX7_findHeld_18 : decode cX7_findHeld 18 = .ok (.goto (-16), 3) := by decide +kernel
theorem dX7_findHeld_21 : decode cX7_findHeld 21 = .ok (.iconst 0, 1) := by decide +kernel
theorem dX7_findHeld_22 : decode cX7_findHeld 22 = .ok (.istore_n 2, 1) := by decide +kernel
theorem dX7_findHeld_23 : decode cX7_findHeld 23 = .ok (.iload_n 2, 1) := by decide +kernel
theorem dX7_findHeld_24 : decode cX7_findHeld 24 = .ok (.aload_n 0, 1) := by decide +kernel
theorem dX7_findHeld_25 : decode cX7_findHeld 25 = .ok (.getfield 146, 3) := by decide +kernel
theorem dX7_findHeld_28 : decode cX7_findHeld 28 = .ok (.iload_n 1, 1) := by decide +kernel
theorem dX7_findHeld_29 : decode cX7_findHeld 29 = .ok (.iaload, 1) := by decide +kernel
theorem dX7_findHeld_30 : decode cX7_findHeld 30 = .ok (.if_icmp .ge 77, 3) := by decide +kernel
theorem dX7_findHeld_33 : decode cX7_findHeld 33 = .ok (.aload_n 0, 1) := by decide +kernel
theorem dX7_findHeld_34 : decode cX7_findHeld 34 = .ok (.iload_n 1, 1) := by decide +kernel
theorem dX7_findHeld_35 : decode cX7_findHeld 35 = .ok (.iload_n 2, 1) := by decide +kernel
theorem dX7_findHeld_36 : decode cX7_findHeld 36 = .ok (.invokevirtual 372, 3) := by decide +kernel
theorem dX7_findHeld_39 : decode cX7_findHeld 39 = .ok (.ifCond .eq 62, 3) := by decide +kernel
theorem dX7_findHeld_42 : decode cX7_findHeld 42 = .ok (.aload_n 0, 1) := by decide +kernel
theorem dX7_findHeld_43 : decode cX7_findHeld 43 = .ok (.iload_n 1, 1) := by decide +kernel
theorem dX7_findHeld_44 : decode cX7_findHeld 44 = .ok (.iload_n 2, 1) := by decide +kernel
theorem dX7_findHeld_45 : decode cX7_findHeld 45 = .ok (.invokevirtual 376, 3) := by decide +kernel
theorem dX7_findHeld_48 : decode cX7_findHeld 48 = .ok (.aload_n 0, 1) := by decide +kernel
theorem dX7_findHeld_49 : decode cX7_findHeld 49 = .ok (.bipush 7, 2) := by decide +kernel
theorem dX7_findHeld_51 : decode cX7_findHeld 51 = .ok (.invokevirtual 359, 3) := by decide +kernel
theorem dX7_findHeld_54 : decode cX7_findHeld 54 = .ok (.istore_n 3, 1) := by decide +kernel
theorem dX7_findHeld_55 : decode cX7_findHeld 55 = .ok (.aload_n 0, 1) := by decide +kernel
theorem dX7_findHeld_56 : decode cX7_findHeld 56 = .ok (.getfield 152, 3) := by decide +kernel
theorem dX7_findHeld_59 : decode cX7_findHeld 59 = .ok (.bipush 30, 2) := by decide +kernel
theorem dX7_findHeld_61 : decode cX7_findHeld 61 = .ok (.iload_n 1, 1) := by decide +kernel
theorem dX7_findHeld_62 : decode cX7_findHeld 62 = .ok (.imul, 1) := by decide +kernel
theorem dX7_findHeld_63 : decode cX7_findHeld 63 = .ok (.iload_n 2, 1) := by decide +kernel
theorem dX7_findHeld_64 : decode cX7_findHeld 64 = .ok (.iadd, 1) := by decide +kernel
theorem dX7_findHeld_65 : decode cX7_findHeld 65 = .ok (.iaload, 1) := by decide +kernel
theorem dX7_findHeld_66 : decode cX7_findHeld 66 = .ok (.istore 4, 2) := by decide +kernel
theorem dX7_findHeld_68 : decode cX7_findHeld 68 = .ok (.aload_n 0, 1) := by decide +kernel
theorem dX7_findHeld_69 : decode cX7_findHeld 69 = .ok (.getfield 173, 3) := by decide +kernel
theorem dX7_findHeld_72 : decode cX7_findHeld 72 = .ok (.iload 4, 2) := by decide +kernel
theorem dX7_findHeld_74 : decode cX7_findHeld 74 = .ok (.iload_n 3, 1) := by decide +kernel
theorem dX7_findHeld_75 : decode cX7_findHeld 75 = .ok (.ifCond .lt 18, 3) := by decide +kernel
theorem dX7_findHeld_78 : decode cX7_findHeld 78 = .ok (.iload_n 3, 1) := by decide +kernel
theorem dX7_findHeld_79 : decode cX7_findHeld 79 = .ok (.aload_n 0, 1) := by decide +kernel
theorem dX7_findHeld_80 : decode cX7_findHeld 80 = .ok (.getfield 173, 3) := by decide +kernel
theorem dX7_findHeld_83 : decode cX7_findHeld 83 = .ok (.iload 4, 2) := by decide +kernel
theorem dX7_findHeld_85 : decode cX7_findHeld 85 = .ok (.iaload, 1) := by decide +kernel
theorem dX7_findHeld_86 : decode cX7_findHeld 86 = .ok (.if_icmp .ge 7, 3) := by decide +kernel
theorem dX7_findHeld_89 : decode cX7_findHeld 89 = .ok (.iload_n 3, 1) := by decide +kernel
theorem dX7_findHeld_90 : decode cX7_findHeld 90 = .ok (.goto 10, 3) := by decide +kernel
theorem dX7_findHeld_93 : decode cX7_findHeld 93 = .ok (.aload_n 0, 1) := by decide +kernel
theorem dX7_findHeld_94 : decode cX7_findHeld 94 = .ok (.getfield 173, 3) := by decide +kernel
theorem dX7_findHeld_97 : decode cX7_findHeld 97 = .ok (.iload 4, 2) := by decide +kernel
theorem dX7_findHeld_99 : decode cX7_findHeld 99 = .ok (.iaload, 1) := by decide +kernel
theorem dX7_findHeld_100 : decode cX7_findHeld 100 = .ok (.iastore, 1) := by decide +kernel
theorem dX7_findHeld_101 : decode cX7_findHeld 101 = .ok (.iinc 2 1, 3) := by decide +kernel
theorem dX7_findHeld_104 : decode cX7_findHeld 104 = .ok (.goto (-81), 3) := by decide +kernel
theorem dX7_findHeld_107 : decode cX7_findHeld 107 = .ok (.return_, 1) := by decide +kernel
theorem dX7_drifts_0 : decode cX7_drifts 0 = .ok (.aload_n 0, 1) := by decide +kernel
theorem dX7_drifts_1 : decode cX7_drifts 1 = .ok (.iload_n 1, 1) := by decide +kernel
theorem dX7_drifts_2 : decode cX7_drifts 2 = .ok (.invokevirtual 379, 3) := by decide +kernel
theorem dX7_drifts_5 : decode cX7_drifts 5 = .ok (.iconst 0, 1) := by decide +kernel
theorem dX7_drifts_6 : decode cX7_drifts 6 = .ok (.istore_n 2, 1) := by decide +kernel
theorem dX7_drifts_7 : decode cX7_drifts 7 = .ok (.iload_n 2, 1) := by decide +kernel
theorem dX7_drifts_8 : decode cX7_drifts 8 = .ok (.aload_n 0, 1) := by decide +kernel
theorem dX7_drifts_9 : decode cX7_drifts 9 = .ok (.getfield 116, 3) := by decide +kernel
theorem dX7_drifts_12 : decode cX7_drifts 12 = .ok (.iload_n 1, 1) := by decide +kernel
theorem dX7_drifts_13 : decode cX7_drifts 13 = .ok (.iaload, 1) := by decide +kernel
theorem dX7_drifts_14 : decode cX7_drifts 14 = .ok (.if_icmp .ge 118, 3) := by decide +kernel
theorem dX7_drifts_17 : decode cX7_drifts 17 = .ok (.aload_n 0, 1) := by decide +kernel
theorem dX7_drifts_18 : decode cX7_drifts 18 = .ok (.iload_n 1, 1) := by decide +kernel
theorem dX7_drifts_19 : decode cX7_drifts 19 = .ok (.iload_n 2, 1) := by decide +kernel
theorem dX7_drifts_20 : decode cX7_drifts 20 = .ok (.invokevirtual 382, 3) := by decide +kernel
theorem dX7_drifts_23 : decode cX7_drifts 23 = .ok (.istore_n 3, 1) := by decide +kernel
theorem dX7_drifts_24 : decode cX7_drifts 24 = .ok (.iconst 0, 1) := by decide +kernel
theorem dX7_drifts_25 : decode cX7_drifts 25 = .ok (.istore 4, 2) := by decide +kernel
theorem dX7_drifts_27 : decode cX7_drifts 27 = .ok (.iload 4, 2) := by decide +kernel
theorem dX7_drifts_29 : decode cX7_drifts 29 = .ok (.iconst 5, 1) := by decide +kernel
theorem dX7_drifts_30 : decode cX7_drifts 30 = .ok (.if_icmp .ge 96, 3) := by decide +kernel
theorem dX7_drifts_33 : decode cX7_drifts 33 = .ok (.aload_n 0, 1) := by decide +kernel
theorem dX7_drifts_34 : decode cX7_drifts 34 = .ok (.iload_n 1, 1) := by decide +kernel
theorem dX7_drifts_35 : decode cX7_drifts 35 = .ok (.iload_n 2, 1) := by decide +kernel
theorem dX7_drifts_36 : decode cX7_drifts 36 = .ok (.iload 4, 2) := by decide +kernel
theorem dX7_drifts_38 : decode cX7_drifts 38 = .ok (.invokevirtual 355, 3) := by decide +kernel
theorem dX7_drifts_41 : decode cX7_drifts 41 = .ok (.iload_n 3, 1) := by decide +kernel
theorem dX7_drifts_42 : decode cX7_drifts 42 = .ok (.ifCond .ne 7, 3) := by decide +kernel
theorem dX7_drifts_45 : decode cX7_drifts 45 = .ok (.iconst (-1), 1) := by decide +kernel
theorem dX7_drifts_46 : decode cX7_drifts 46 = .ok (.goto 8, 3) := by decide +kernel
theorem dX7_drifts_49 : decode cX7_drifts 49 = .ok (.aload_n 0, 1) := by decide +kernel
theorem dX7_drifts_50 : decode cX7_drifts 50 = .ok (.iconst 2, 1) := by decide +kernel
theorem dX7_drifts_51 : decode cX7_drifts 51 = .ok (.invokevirtual 359, 3) := by decide +kernel
theorem dX7_drifts_54 : decode cX7_drifts 54 = .ok (.istore 5, 2) := by decide +kernel
theorem dX7_drifts_56 : decode cX7_drifts 56 = .ok (.iload_n 3, 1) := by decide +kernel
theorem dX7_drifts_57 : decode cX7_drifts 57 = .ok (.ifCond .ge 24, 3) := by decide +kernel
theorem dX7_drifts_60 : decode cX7_drifts 60 = .ok (.iload_n 2, 1) := by decide +kernel
theorem dX7_drifts_61 : decode cX7_drifts 61 = .ok (.ifCond .le 20, 3) := by decide +kernel
theorem dX7_drifts_64 : decode cX7_drifts 64 = .ok (.aload_n 0, 1) := by decide +kernel
theorem dX7_drifts_65 : decode cX7_drifts 65 = .ok (.getfield 173, 3) := by decide +kernel
theorem dX7_drifts_68 : decode cX7_drifts 68 = .ok (.iload_n 2, 1) := by decide +kernel
theorem dX7_drifts_69 : decode cX7_drifts 69 = .ok (.iconst 1, 1) := by decide +kernel
theorem dX7_drifts_70 : decode cX7_drifts 70 = .ok (.isub, 1) := by decide +kernel
theorem dX7_drifts_71 : decode cX7_drifts 71 = .ok (.iaload, 1) := by decide +kernel
theorem dX7_drifts_72 : decode cX7_drifts 72 = .ok (.iload 4, 2) := by decide +kernel
theorem dX7_drifts_74 : decode cX7_drifts 74 = .ok (.if_icmp .gt 7, 3) := by decide +kernel
theorem dX7_drifts_77 : decode cX7_drifts 77 = .ok (.iconst 1, 1) := by decide +kernel
theorem dX7_drifts_78 : decode cX7_drifts 78 = .ok (.goto 4, 3) := by decide +kernel
theorem dX7_drifts_81 : decode cX7_drifts 81 = .ok (.iconst 0, 1) := by decide +kernel
theorem dX7_drifts_82 : decode cX7_drifts 82 = .ok (.istore 6, 2) := by decide +kernel
theorem dX7_drifts_84 : decode cX7_drifts 84 = .ok (.aload_n 0, 1) := by decide +kernel
theorem dX7_drifts_85 : decode cX7_drifts 85 = .ok (.getfield 170, 3) := by decide +kernel
theorem dX7_drifts_88 : decode cX7_drifts 88 = .ok (.iconst 5, 1) := by decide +kernel
theorem dX7_drifts_89 : decode cX7_drifts 89 = .ok (.iload_n 2, 1) := by decide +kernel
theorem dX7_drifts_90 : decode cX7_drifts 90 = .ok (.imul, 1) := by decide +kernel
theorem dX7_drifts_91 : decode cX7_drifts 91 = .ok (.iload 4, 2) := by decide +kernel
theorem dX7_drifts_93 : decode cX7_drifts 93 = .ok (.iadd, 1) := by decide +kernel
theorem dX7_drifts_94 : decode cX7_drifts 94 = .ok (.iload 5, 2) := by decide +kernel
theorem dX7_drifts_96 : decode cX7_drifts 96 = .ok (.ifCond .lt 8, 3) := by decide +kernel
theorem dX7_drifts_99 : decode cX7_drifts 99 = .ok (.iload 6, 2) := by decide +kernel
theorem dX7_drifts_101 : decode cX7_drifts 101 = .ok (.ifCond .eq 7, 3) := by decide +kernel
theorem dX7_drifts_104 : decode cX7_drifts 104 = .ok (.iconst 0, 1) := by decide +kernel
theorem dX7_drifts_105 : decode cX7_drifts 105 = .ok (.goto 14, 3) := by decide +kernel
theorem dX7_drifts_108 : decode cX7_drifts 108 = .ok (.aload_n 0, 1) := by decide +kernel
theorem dX7_drifts_109 : decode cX7_drifts 109 = .ok (.getfield 110, 3) := by decide +kernel
theorem dX7_drifts_112 : decode cX7_drifts 112 = .ok (.iconst 4, 1) := by decide +kernel
theorem dX7_drifts_113 : decode cX7_drifts 113 = .ok (.iaload, 1) := by decide +kernel
theorem dX7_drifts_114 : decode cX7_drifts 114 = .ok (.iload 5, 2) := by decide +kernel
theorem dX7_drifts_116 : decode cX7_drifts 116 = .ok (.invokestatic 369, 3) := by decide +kernel
theorem dX7_drifts_119 : decode cX7_drifts 119 = .ok (.iastore, 1) := by decide +kernel
theorem dX7_drifts_120 : decode cX7_drifts 120 = .ok (.iinc 4 1, 3) := by decide +kernel
theorem dX7_drifts_123 : decode cX7_drifts 123 = .ok (.goto (-96), 3) := by decide +kernel
theorem dX7_drifts_126 : decode cX7_drifts 126 = .ok (.iinc 2 1, 3) := by decide +kernel
theorem dX7_drifts_129 : decode cX7_drifts 129 = .ok (.goto (-122), 3) := by decide +kernel
theorem dX7_drifts_132 : decode cX7_drifts 132 = .ok (.iconst 0, 1) := by decide +kernel
theorem dX7_drifts_133 : decode cX7_drifts 133 = .ok (.istore_n 2, 1) := by decide +kernel
theorem dX7_drifts_134 : decode cX7_drifts 134 = .ok (.iload_n 2, 1) := by decide +kernel
theorem dX7_drifts_135 : decode cX7_drifts 135 = .ok (.aload_n 0, 1) := by decide +kernel
theorem dX7_drifts_136 : decode cX7_drifts 136 = .ok (.getfield 116, 3) := by decide +kernel
theorem dX7_drifts_139 : decode cX7_drifts 139 = .ok (.iload_n 1, 1) := by decide +kernel
theorem dX7_drifts_140 : decode cX7_drifts 140 = .ok (.iaload, 1) := by decide +kernel
theorem dX7_drifts_141 : decode cX7_drifts 141 = .ok (.if_icmp .ge 109, 3) := by decide +kernel
theorem dX7_drifts_144 : decode cX7_drifts 144 = .ok (.aload_n 0, 1) := by decide +kernel
theorem dX7_drifts_145 : decode cX7_drifts 145 = .ok (.iload_n 1, 1) := by decide +kernel
theorem dX7_drifts_146 : decode cX7_drifts 146 = .ok (.iload_n 2, 1) := by decide +kernel
theorem dX7_drifts_147 : decode cX7_drifts 147 = .ok (.invokevirtual 382, 3) := by decide +kernel
theorem dX7_drifts_150 : decode cX7_drifts 150 = .ok (.istore_n 3, 1) := by decide +kernel
theorem dX7_drifts_151 : decode cX7_drifts 151 = .ok (.iconst 0, 1) := by decide +kernel
theorem dX7_drifts_152 : decode cX7_drifts 152 = .ok (.istore 4, 2) := by decide +kernel
theorem dX7_drifts_154 : decode cX7_drifts 154 = .ok (.iload 4, 2) := by decide +kernel
theorem dX7_drifts_156 : decode cX7_drifts 156 = .ok (.iconst 5, 1) := by decide +kernel
theorem dX7_drifts_157 : decode cX7_drifts 157 = .ok (.if_icmp .ge 87, 3) := by decide +kernel
theorem dX7_drifts_160 : decode cX7_drifts 160 = .ok (.aload_n 0, 1) := by decide +kernel
theorem dX7_drifts_161 : decode cX7_drifts 161 = .ok (.getfield 170, 3) := by decide +kernel
theorem dX7_drifts_164 : decode cX7_drifts 164 = .ok (.iconst 5, 1) := by decide +kernel
theorem dX7_drifts_165 : decode cX7_drifts 165 = .ok (.iload_n 2, 1) := by decide +kernel
theorem dX7_drifts_166 : decode cX7_drifts 166 = .ok (.imul, 1) := by decide +kernel
theorem dX7_drifts_167 : decode cX7_drifts 167 = .ok (.iload 4, 2) := by decide +kernel
theorem dX7_drifts_169 : decode cX7_drifts 169 = .ok (.iadd, 1) := by decide +kernel
theorem dX7_drifts_170 : decode cX7_drifts 170 = .ok (.iaload, 1) := by decide +kernel
theorem dX7_drifts_171 : decode cX7_drifts 171 = .ok (.istore 5, 2) := by decide +kernel
theorem dX7_drifts_173 : decode cX7_drifts 173 = .ok (.aload_n 0, 1) := by decide +kernel
theorem dX7_drifts_174 : decode cX7_drifts 174 = .ok (.getfield 128, 3) := by decide +kernel
theorem dX7_drifts_177 : decode cX7_drifts 177 = .ok (.bipush 60, 2) := by decide +kernel
theorem dX7_drifts_179 : decode cX7_drifts 179 = .ok (.iload_n 1, 1) := by decide +kernel
theorem dX7_drifts_180 : decode cX7_drifts 180 = .ok (.imul, 1) := by decide +kernel
theorem dX7_drifts_181 : decode cX7_drifts 181 = .ok (.iconst 5, 1) := by decide +kernel
theorem dX7_drifts_182 : decode cX7_drifts 182 = .ok (.iload_n 2, 1) := by decide +kernel
theorem dX7_drifts_183 : decode cX7_drifts 183 = .ok (.imul, 1) := by decide +kernel
theorem dX7_drifts_184 : decode cX7_drifts 184 = .ok (.iadd, 1) := by decide +kernel
theorem dX7_drifts_185 : decode cX7_drifts 185 = .ok (.iload 4, 2) := by decide +kernel
theorem dX7_drifts_187 : decode cX7_drifts 187 = .ok (.iadd, 1) := by decide +kernel
theorem dX7_drifts_188 : decode cX7_drifts 188 = .ok (.dup2, 1) := by decide +kernel
theorem dX7_drifts_189 : decode cX7_drifts 189 = .ok (.iaload, 1) := by decide +kernel
theorem dX7_drifts_190 : decode cX7_drifts 190 = .ok (.iload 5, 2) := by decide +kernel
theorem dX7_drifts_192 : decode cX7_drifts 192 = .ok (.isub, 1) := by decide +kernel
theorem dX7_drifts_193 : decode cX7_drifts 193 = .ok (.iastore, 1) := by decide +kernel
theorem dX7_drifts_194 : decode cX7_drifts 194 = .ok (.iload_n 2, 1) := by decide +kernel
theorem dX7_drifts_195 : decode cX7_drifts 195 = .ok (.iload_n 3, 1) := by decide +kernel
theorem dX7_drifts_196 : decode cX7_drifts 196 = .ok (.iadd, 1) := by decide +kernel
theorem dX7_drifts_197 : decode cX7_drifts 197 = .ok (.ifCond .ge 18, 3) := by decide +kernel
theorem dX7_drifts_200 : decode cX7_drifts 200 = .ok (.aload_n 0, 1) := by decide +kernel
theorem dX7_drifts_201 : decode cX7_drifts 201 = .ok (.getfield 140, 3) := by decide +kernel
theorem dX7_drifts_204 : decode cX7_drifts 204 = .ok (.iload_n 1, 1) := by decide +kernel
theorem dX7_drifts_205 : decode cX7_drifts 205 = .ok (.dup2, 1) := by decide +kernel
theorem dX7_drifts_206 : decode cX7_drifts 206 = .ok (.laload, 1) := by decide +kernel
theorem dX7_drifts_207 : decode cX7_drifts 207 = .ok (.iload 5, 2) := by decide +kernel
theorem dX7_drifts_209 : decode cX7_drifts 209 = .ok (.i2l, 1) := by decide +kernel
theorem dX7_drifts_210 : decode cX7_drifts 210 = .ok (.ladd, 1) := by decide +kernel
theorem dX7_drifts_211 : decode cX7_drifts 211 = .ok (.lastore, 1) := by decide +kernel
theorem dX7_drifts_212 : decode cX7_drifts 212 = .ok (.goto 26, 3) := by decide +kernel
theorem dX7_drifts_215 : decode cX7_drifts 215 = .ok (.aload_n 0, 1) := by decide +kernel
theorem dX7_drifts_216 : decode cX7_drifts 216 = .ok (.getfield 128, 3) := by decide +kernel
theorem dX7_drifts_219 : decode cX7_drifts 219 = .ok (.bipush 60, 2) := by decide +kernel
theorem dX7_drifts_221 : decode cX7_drifts 221 = .ok (.iload_n 1, 1) := by decide +kernel
theorem dX7_drifts_222 : decode cX7_drifts 222 = .ok (.imul, 1) := by decide +kernel
theorem dX7_drifts_223 : decode cX7_drifts 223 = .ok (.iconst 5, 1) := by decide +kernel
theorem dX7_drifts_224 : decode cX7_drifts 224 = .ok (.iload_n 2, 1) := by decide +kernel
theorem dX7_drifts_225 : decode cX7_drifts 225 = .ok (.iload_n 3, 1) := by decide +kernel
theorem dX7_drifts_226 : decode cX7_drifts 226 = .ok (.iadd, 1) := by decide +kernel
theorem dX7_drifts_227 : decode cX7_drifts 227 = .ok (.imul, 1) := by decide +kernel
theorem dX7_drifts_228 : decode cX7_drifts 228 = .ok (.iadd, 1) := by decide +kernel
theorem dX7_drifts_229 : decode cX7_drifts 229 = .ok (.iload 4, 2) := by decide +kernel
theorem dX7_drifts_231 : decode cX7_drifts 231 = .ok (.iadd, 1) := by decide +kernel
theorem dX7_drifts_232 : decode cX7_drifts 232 = .ok (.dup2, 1) := by decide +kernel
theorem dX7_drifts_233 : decode cX7_drifts 233 = .ok (.iaload, 1) := by decide +kernel
theorem dX7_drifts_234 : decode cX7_drifts 234 = .ok (.iload 5, 2) := by decide +kernel
theorem dX7_drifts_236 : decode cX7_drifts 236 = .ok (.iadd, 1) := by decide +kernel
theorem dX7_drifts_237 : decode cX7_drifts 237 = .ok (.iastore, 1) := by decide +kernel
theorem dX7_drifts_238 : decode cX7_drifts 238 = .ok (.iinc 4 1, 3) := by decide +kernel
theorem dX7_drifts_241 : decode cX7_drifts 241 = .ok (.goto (-87), 3) := by decide +kernel
theorem dX7_drifts_244 : decode cX7_drifts 244 = .ok (.iinc 2 1, 3) := by decide +kernel
theorem dX7_drifts_247 : decode cX7_drifts 247 = .ok (.goto (-113), 3) := by decide +kernel
theorem dX7_drifts_250 : decode cX7_drifts 250 = .ok (.return_, 1) := by decide +kernel
theorem dX7_gathers_0 : decode cX7_gathers 0 = .ok (.iconst 0, 1) := by decide +kernel
theorem dX7_gathers_1 : decode cX7_gathers 1 = .ok (.istore_n 2, 1) := by decide +kernel
theorem dX7_gathers_2 : decode cX7_gathers 2 = .ok (.iload_n 2, 1) := by decide +kernel
theorem dX7_gathers_3 : decode cX7_gathers 3 = .ok (.aload_n 0, 1) := by decide +kernel
theorem dX7_gathers_4 : decode cX7_gathers 4 = .ok (.getfield 116, 3) := by decide +kernel
theorem dX7_gathers_7 : decode cX7_gathers 7 = .ok (.iload_n 1, 1) := by decide +kernel
theorem dX7_gathers_8 : decode cX7_gathers 8 = .ok (.iaload, 1) := by decide +kernel
theorem dX7_gathers_9 : decode cX7_gathers 9 = .ok (.if_icmp .ge 199, 3) := by decide +kernel
theorem dX7_gathers_12 : decode cX7_gathers 12 = .ok (.iconst 4, 1) := by decide +kernel
theorem dX7_gathers_13 : decode cX7_gathers 13 = .ok (.istore_n 3, 1) := by decide +kernel
theorem dX7_gathers_14 : decode cX7_gathers 14 = .ok (.iload_n 3, 1) := by decide +kernel
theorem dX7_gathers_15 : decode cX7_gathers 15 = .ok (.ifCond .lt 187, 3) := by decide +kernel
theorem dX7_gathers_18 : decode cX7_gathers 18 = .ok (.aload_n 0, 1) := by decide +kernel
theorem dX7_gathers_19 : decode cX7_gathers 19 = .ok (.iload_n 1, 1) := by decide +kernel
theorem dX7_gathers_20 : decode cX7_gathers 20 = .ok (.iload_n 2, 1) := by decide +kernel
theorem dX7_gathers_21 : decode cX7_gathers 21 = .ok (.iload_n 3, 1) := by decide +kernel
theorem dX7_gathers_22 : decode cX7_gathers 22 = .ok (.invokevirtual 355, 3) := by decide +kernel
theorem dX7_gathers_25 : decode cX7_gathers 25 = .ok (.aload_n 0, 1) := by decide +kernel
theorem dX7_gathers_26 : decode cX7_gathers 26 = .ok (.iconst 3, 1) := by decide +kernel
theorem dX7_gathers_27 : decode cX7_gathers 27 = .ok (.invokevirtual 359, 3) := by decide +kernel
theorem dX7_gathers_30 : decode cX7_gathers 30 = .ok (.istore 4, 2) := by decide +kernel
theorem dX7_gathers_32 : decode cX7_gathers 32 = .ok (.iload 4, 2) := by decide +kernel
theorem dX7_gathers_34 : decode cX7_gathers 34 = .ok (.ifCond .lt 162, 3) := by decide +kernel
theorem dX7_gathers_37 : decode cX7_gathers 37 = .ok (.aload_n 0, 1) := by decide +kernel
theorem dX7_gathers_38 : decode cX7_gathers 38 = .ok (.getfield 110, 3) := by decide +kernel
theorem dX7_gathers_41 : decode cX7_gathers 41 = .ok (.iconst 4, 1) := by decide +kernel
theorem dX7_gathers_42 : decode cX7_gathers 42 = .ok (.iaload, 1) := by decide +kernel
theorem dX7_gathers_43 : decode cX7_gathers 43 = .ok (.iload 4, 2) := by decide +kernel
theorem dX7_gathers_45 : decode cX7_gathers 45 = .ok (.if_icmp .lt 151, 3) := by decide +kernel
theorem dX7_gathers_48 : decode cX7_gathers 48 = .ok (.aload_n 0, 1) := by decide +kernel
theorem dX7_gathers_49 : decode cX7_gathers 49 = .ok (.getfield 146, 3) := by decide +kernel
theorem dX7_gathers_52 : decode cX7_gathers 52 = .ok (.iload_n 1, 1) := by decide +kernel
theorem dX7_gathers_53 : decode cX7_gathers 53 = .ok (.iaload, 1) := by decide +kernel
theorem dX7_gathers_54 : decode cX7_gathers 54 = .ok (.bipush 30, 2) := by decide +kernel
theorem dX7_gathers_56 : decode cX7_gathers 56 = .ok (.if_icmp .ge 140, 3) := by decide +kernel
theorem dX7_gathers_59 : decode cX7_gathers 59 = .ok (.bipush 30, 2) := by decide +kernel
theorem dX7_gathers_61 : decode cX7_gathers 61 = .ok (.iload_n 1, 1) := by decide +kernel
theorem dX7_gathers_62 : decode cX7_gathers 62 = .ok (.imul, 1) := by decide +kernel
theorem dX7_gathers_63 : decode cX7_gathers 63 = .ok (.aload_n 0, 1) := by decide +kernel
theorem dX7_gathers_64 : decode cX7_gathers 64 = .ok (.getfield 146, 3) := by decide +kernel
theorem dX7_gathers_67 : decode cX7_gathers 67 = .ok (.iload_n 1, 1) := by decide +kernel
theorem dX7_gathers_68 : decode cX7_gathers 68 = .ok (.iaload, 1) := by decide +kernel
theorem dX7_gathers_69 : decode cX7_gathers 69 = .ok (.iadd, 1) := by decide +kernel
theorem dX7_gathers_70 : decode cX7_gathers 70 = .ok (.istore 5, 2) := by decide +kernel
theorem dX7_gathers_72 : decode cX7_gathers 72 = .ok (.aload_n 0, 1) := by decide +kernel
theorem dX7_gathers_73 : decode cX7_gathers 73 = .ok (.getfield 149, 3) := by decide +kernel
theorem dX7_gathers_76 : decode cX7_gathers 76 = .ok (.iload 5, 2) := by decide +kernel
theorem dX7_gathers_78 : decode cX7_gathers 78 = .ok (.iconst 0, 1) := by decide +kernel
theorem dX7_gathers_79 : decode cX7_gathers 79 = .ok (.iastore, 1) := by decide +kernel
theorem dX7_gathers_80 : decode cX7_gathers 80 = .ok (.aload_n 0, 1) := by decide +kernel
theorem dX7_gathers_81 : decode cX7_gathers 81 = .ok (.getfield 152, 3) := by decide +kernel
theorem dX7_gathers_84 : decode cX7_gathers 84 = .ok (.iload 5, 2) := by decide +kernel
theorem dX7_gathers_86 : decode cX7_gathers 86 = .ok (.iload_n 2, 1) := by decide +kernel
theorem dX7_gathers_87 : decode cX7_gathers 87 = .ok (.iastore, 1) := by decide +kernel
theorem dX7_gathers_88 : decode cX7_gathers 88 = .ok (.aload_n 0, 1) := by decide +kernel
theorem dX7_gathers_89 : decode cX7_gathers 89 = .ok (.getfield 155, 3) := by decide +kernel
theorem dX7_gathers_92 : decode cX7_gathers 92 = .ok (.iload 5, 2) := by decide +kernel
theorem dX7_gathers_94 : decode cX7_gathers 94 = .ok (.iconst 0, 1) := by decide +kernel
theorem dX7_gathers_95 : decode cX7_gathers 95 = .ok (.iastore, 1) := by decide +kernel
theorem dX7_gathers_96 : decode cX7_gathers 96 = .ok (.aload_n 0, 1) := by decide +kernel
theorem dX7_gathers_97 : decode cX7_gathers 97 = .ok (.getfield 158, 3) := by decide +kernel
theorem dX7_gathers_100 : decode cX7_gathers 100 = .ok (.iload 5, 2) := by decide +kernel
theorem dX7_gathers_102 : decode cX7_gathers 102 = .ok (.iconst 0, 1) := by decide +kernel
theorem dX7_gathers_103 : decode cX7_gathers 103 = .ok (.iastore, 1) := by decide +kernel
theorem dX7_gathers_104 : decode cX7_gathers 104 = .ok (.aload_n 0, 1) := by decide +kernel
theorem dX7_gathers_105 : decode cX7_gathers 105 = .ok (.getfield 161, 3) := by decide +kernel
theorem dX7_gathers_108 : decode cX7_gathers 108 = .ok (.iload 5, 2) := by decide +kernel
theorem dX7_gathers_110 : decode cX7_gathers 110 = .ok (.aload_n 0, 1) := by decide +kernel
theorem dX7_gathers_111 : decode cX7_gathers 111 = .ok (.getfield 137, 3) := by decide +kernel
theorem dX7_gathers_114 : decode cX7_gathers 114 = .ok (.iload_n 1, 1) := by decide +kernel
theorem dX7_gathers_115 : decode cX7_gathers 115 = .ok (.iaload, 1) := by decide +kernel
theorem dX7_gathers_116 : decode cX7_gathers 116 = .ok (.iastore, 1) := by decide +kernel
theorem dX7_gathers_117 : decode cX7_gathers 117 = .ok (.aload_n 0, 1) := by decide +kernel
theorem dX7_gathers_118 : decode cX7_gathers 118 = .ok (.getfield 164, 3) := by decide +kernel
theorem dX7_gathers_121 : decode cX7_gathers 121 = .ok (.iload 5, 2) := by decide +kernel
theorem dX7_gathers_123 : decode cX7_gathers 123 = .ok (.iconst (-1), 1) := by decide +kernel
theorem dX7_gathers_124 : decode cX7_gathers 124 = .ok (.iastore, 1) := by decide +kernel
theorem dX7_gathers_125 : decode cX7_gathers 125 = .ok (.iconst 0, 1) := by decide +kernel
theorem dX7_gathers_126 : decode cX7_gathers 126 = .ok (.istore 6, 2) := by decide +kernel
theorem dX7_gathers_128 : decode cX7_gathers 128 = .ok (.iload 6, 2) := by decide +kernel
theorem dX7_gathers_130 : decode cX7_gathers 130 = .ok (.bipush 12, 2) := by decide +kernel
theorem dX7_gathers_132 : decode cX7_gathers 132 = .ok (.if_icmp .ge 38, 3) := by decide +kernel
theorem dX7_gathers_135 : decode cX7_gathers 135 = .ok (.aload_n 0, 1) := by decide +kernel
theorem dX7_gathers_136 : decode cX7_gathers 136 = .ok (.getfield 167, 3) := by decide +kernel
theorem dX7_gathers_139 : decode cX7_gathers 139 = .ok (.bipush 12, 2) := by decide +kernel
theorem dX7_gathers_141 : decode cX7_gathers 141 = .ok (.iload 5, 2) := by decide +kernel
theorem dX7_gathers_143 : decode cX7_gathers 143 = .ok (.imul, 1) := by decide +kernel
theorem dX7_gathers_144 : decode cX7_gathers 144 = .ok (.iload 6, 2) := by decide +kernel
theorem dX7_gathers_146 : decode cX7_gathers 146 = .ok (.iadd, 1) := by decide +kernel
theorem dX7_gathers_147 : decode cX7_gathers 147 = .ok (.iload 6, 2) := by decide +kernel
theorem dX7_gathers_149 : decode cX7_gathers 149 = .ok (.iload_n 2, 1) := by decide +kernel
theorem dX7_gathers_150 : decode cX7_gathers 150 = .ok (.if_icmp .ne 12, 3) := by decide +kernel
theorem dX7_gathers_153 : decode cX7_gathers 153 = .ok (.aload_n 0, 1) := by decide +kernel
theorem dX7_gathers_154 : decode cX7_gathers 154 = .ok (.getfield 110, 3) := by decide +kernel
theorem dX7_gathers_157 : decode cX7_gathers 157 = .ok (.iconst 4, 1) := by decide +kernel
theorem dX7_gathers_158 : decode cX7_gathers 158 = .ok (.iaload, 1) := by decide +kernel
theorem dX7_gathers_159 : decode cX7_gathers 159 = .ok (.goto 4, 3) := by decide +kernel
theorem dX7_gathers_162 : decode cX7_gathers 162 = .ok (.iconst 0, 1) := by decide +kernel
theorem dX7_gathers_163 : decode cX7_gathers 163 = .ok (.iastore, 1) := by decide +kernel
theorem dX7_gathers_164 : decode cX7_gathers 164 = .ok (.iinc 6 1, 3) := by decide +kernel
theorem dX7_gathers_167 : decode cX7_gathers 167 = .ok (.goto (-39), 3) := by decide +kernel
theorem dX7_gathers_170 : decode cX7_gathers 170 = .ok (.aload_n 0, 1) := by decide +kernel
theorem dX7_gathers_171 : decode cX7_gathers 171 = .ok (.getfield 128, 3) := by decide +kernel
theorem dX7_gathers_174 : decode cX7_gathers 174 = .ok (.bipush 60, 2) := by decide +kernel
theorem dX7_gathers_176 : decode cX7_gathers 176 = .ok (.iload_n 1, 1) := by decide +kernel
theorem dX7_gathers_177 : decode cX7_gathers 177 = .ok (.imul, 1) := by decide +kernel
theorem dX7_gathers_178 : decode cX7_gathers 178 = .ok (.iconst 5, 1) := by decide +kernel
theorem dX7_gathers_179 : decode cX7_gathers 179 = .ok (.iload_n 2, 1) := by decide +kernel
theorem dX7_gathers_180 : decode cX7_gathers 180 = .ok (.imul, 1) := by decide +kernel
theorem dX7_gathers_181 : decode cX7_gathers 181 = .ok (.iadd, 1) := by decide +kernel
theorem dX7_gathers_182 : decode cX7_gathers 182 = .ok (.iload_n 3, 1) := by decide +kernel
theorem dX7_gathers_183 : decode cX7_gathers 183 = .ok (.iadd, 1) := by decide +kernel
theorem dX7_gathers_184 : decode cX7_gathers 184 = .ok (.iconst 0, 1) := by decide +kernel
theorem dX7_gathers_185 : decode cX7_gathers 185 = .ok (.iastore, 1) := by decide +kernel
theorem dX7_gathers_186 : decode cX7_gathers 186 = .ok (.aload_n 0, 1) := by decide +kernel
theorem dX7_gathers_187 : decode cX7_gathers 187 = .ok (.getfield 146, 3) := by decide +kernel
theorem dX7_gathers_190 : decode cX7_gathers 190 = .ok (.iload_n 1, 1) := by decide +kernel
theorem dX7_gathers_191 : decode cX7_gathers 191 = .ok (.dup2, 1) := by decide +kernel
theorem dX7_gathers_192 : decode cX7_gathers 192 = .ok (.iaload, 1) := by decide +kernel
theorem dX7_gathers_193 : decode cX7_gathers 193 = .ok (.iconst 1, 1) := by decide +kernel
theorem dX7_gathers_194 : decode cX7_gathers 194 = .ok (.iadd, 1) := by decide +kernel
theorem dX7_gathers_195 : decode cX7_gathers 195 = .ok (.iastore, 1) := by decide +kernel
theorem dX7_gathers_196 : decode cX7_gathers 196 = .ok (.iinc 3 (-1), 3) := by decide +kernel
theorem dX7_gathers_199 : decode cX7_gathers 199 = .ok (.goto (-185), 3) := by decide +kernel
theorem dX7_gathers_202 : decode cX7_gathers 202 = .ok (.iinc 2 1, 3) := by decide +kernel
theorem dX7_gathers_205 : decode cX7_gathers 205 = .ok (.goto (-203), 3) := by decide +kernel
theorem dX7_gathers_208 : decode cX7_gathers 208 = .ok (.return_, 1) := by decide +kernel
theorem dX7_feeds_0 : decode cX7_feeds 0 = .ok (.iconst 0, 1) := by decide +kernel
theorem dX7_feeds_1 : decode cX7_feeds 1 = .ok (.istore_n 2, 1) := by decide +kernel
theorem dX7_feeds_2 : decode cX7_feeds 2 = .ok (.iload_n 2, 1) := by decide +kernel
theorem dX7_feeds_3 : decode cX7_feeds 3 = .ok (.aload_n 0, 1) := by decide +kernel
theorem dX7_feeds_4 : decode cX7_feeds 4 = .ok (.getfield 146, 3) := by decide +kernel
theorem dX7_feeds_7 : decode cX7_feeds 7 = .ok (.iload_n 1, 1) := by decide +kernel
theorem dX7_feeds_8 : decode cX7_feeds 8 = .ok (.iaload, 1) := by decide +kernel
theorem dX7_feeds_9 : decode cX7_feeds 9 = .ok (.if_icmp .ge 123, 3) := by decide +kernel
theorem dX7_feeds_12 : decode cX7_feeds 12 = .ok (.aload_n 0, 1) := by decide +kernel
theorem dX7_feeds_13 : decode cX7_feeds 13 = .ok (.iload_n 1, 1) := by decide +kernel
theorem dX7_feeds_14 : decode cX7_feeds 14 = .ok (.iload_n 2, 1) := by decide +kernel
theorem dX7_feeds_15 : decode cX7_feeds 15 = .ok (.invokevirtual 372, 3) := by decide +kernel
theorem dX7_feeds_18 : decode cX7_feeds 18 = .ok (.ifCond .eq 108, 3) := by decide +kernel
theorem dX7_feeds_21 : decode cX7_feeds 21 = .ok (.aload_n 0, 1) := by decide +kernel
theorem dX7_feeds_22 : decode cX7_feeds 22 = .ok (.iload_n 1, 1) := by decide +kernel
theorem dX7_feeds_23 : decode cX7_feeds 23 = .ok (.iload_n 2, 1) := by decide +kernel
theorem dX7_feeds_24 : decode cX7_feeds 24 = .ok (.invokevirtual 376, 3) := by decide +kernel
theorem dX7_feeds_27 : decode cX7_feeds 27 = .ok (.aload_n 0, 1) := by decide +kernel
theorem dX7_feeds_28 : decode cX7_feeds 28 = .ok (.iconst 4, 1) := by decide +kernel
theorem dX7_feeds_29 : decode cX7_feeds 29 = .ok (.invokevirtual 359, 3) := by decide +kernel
theorem dX7_feeds_32 : decode cX7_feeds 32 = .ok (.istore_n 3, 1) := by decide +kernel
theorem dX7_feeds_33 : decode cX7_feeds 33 = .ok (.aload_n 0, 1) := by decide +kernel
theorem dX7_feeds_34 : decode cX7_feeds 34 = .ok (.getfield 152, 3) := by decide +kernel
theorem dX7_feeds_37 : decode cX7_feeds 37 = .ok (.bipush 30, 2) := by decide +kernel
theorem dX7_feeds_39 : decode cX7_feeds 39 = .ok (.iload_n 1, 1) := by decide +kernel
theorem dX7_feeds_40 : decode cX7_feeds 40 = .ok (.imul, 1) := by decide +kernel
theorem dX7_feeds_41 : decode cX7_feeds 41 = .ok (.iload_n 2, 1) := by decide +kernel
theorem dX7_feeds_42 : decode cX7_feeds 42 = .ok (.iadd, 1) := by decide +kernel
theorem dX7_feeds_43 : decode cX7_feeds 43 = .ok (.iaload, 1) := by decide +kernel
theorem dX7_feeds_44 : decode cX7_feeds 44 = .ok (.istore 4, 2) := by decide +kernel
theorem dX7_feeds_46 : decode cX7_feeds 46 = .ok (.iconst 0, 1) := by decide +kernel
theorem dX7_feeds_47 : decode cX7_feeds 47 = .ok (.istore 5, 2) := by decide +kernel
theorem dX7_feeds_49 : decode cX7_feeds 49 = .ok (.iload 5, 2) := by decide +kernel
theorem dX7_feeds_51 : decode cX7_feeds 51 = .ok (.iconst 5, 1) := by decide +kernel
theorem dX7_feeds_52 : decode cX7_feeds 52 = .ok (.if_icmp .ge 74, 3) := by decide +kernel
theorem dX7_feeds_55 : decode cX7_feeds 55 = .ok (.iload_n 3, 1) := by decide +kernel
theorem dX7_feeds_56 : decode cX7_feeds 56 = .ok (.ifCond .le 70, 3) := by decide +kernel
theorem dX7_feeds_59 : decode cX7_feeds 59 = .ok (.bipush 60, 2) := by decide +kernel
theorem dX7_feeds_61 : decode cX7_feeds 61 = .ok (.iload_n 1, 1) := by decide +kernel
theorem dX7_feeds_62 : decode cX7_feeds 62 = .ok (.imul, 1) := by decide +kernel
theorem dX7_feeds_63 : decode cX7_feeds 63 = .ok (.iconst 5, 1) := by decide +kernel
theorem dX7_feeds_64 : decode cX7_feeds 64 = .ok (.iload 4, 2) := by decide +kernel
theorem dX7_feeds_66 : decode cX7_feeds 66 = .ok (.imul, 1) := by decide +kernel
theorem dX7_feeds_67 : decode cX7_feeds 67 = .ok (.iadd, 1) := by decide +kernel
theorem dX7_feeds_68 : decode cX7_feeds 68 = .ok (.iload 5, 2) := by decide +kernel
theorem dX7_feeds_70 : decode cX7_feeds 70 = .ok (.iadd, 1) := by decide +kernel
theorem dX7_feeds_71 : decode cX7_feeds 71 = .ok (.istore 6, 2) := by decide +kernel
theorem dX7_feeds_73 : decode cX7_feeds 73 = .ok (.aload_n 0, 1) := by decide +kernel
theorem dX7_feeds_74 : decode cX7_feeds 74 = .ok (.getfield 128, 3) := by decide +kernel
theorem dX7_feeds_77 : decode cX7_feeds 77 = .ok (.iload 6, 2) := by decide +kernel
theorem dX7_feeds_79 : decode cX7_feeds 79 = .ok (.iaload, 1) := by decide +kernel
theorem dX7_feeds_80 : decode cX7_feeds 80 = .ok (.iload_n 3, 1) := by decide +kernel
theorem dX7_feeds_81 : decode cX7_feeds 81 = .ok (.invokestatic 369, 3) := by decide +kernel
theorem dX7_feeds_84 : decode cX7_feeds 84 = .ok (.istore 7, 2) := by decide +kernel
theorem dX7_feeds_86 : decode cX7_feeds 86 = .ok (.aload_n 0, 1) := by decide +kernel
theorem dX7_feeds_87 : decode cX7_feeds 87 = .ok (.getfield 128, 3) := by decide +kernel
theorem dX7_feeds_90 : decode cX7_feeds 90 = .ok (.iload 6, 2) := by decide +kernel
theorem dX7_feeds_92 : decode cX7_feeds 92 = .ok (.dup2, 1) := by decide +kernel
theorem dX7_feeds_93 : decode cX7_feeds 93 = .ok (.iaload, 1) := by decide +kernel
theorem dX7_feeds_94 : decode cX7_feeds 94 = .ok (.iload 7, 2) := by decide +kernel
theorem dX7_feeds_96 : decode cX7_feeds 96 = .ok (.isub, 1) := by decide +kernel
theorem dX7_feeds_97 : decode cX7_feeds 97 = .ok (.iastore, 1) := by decide +kernel
theorem dX7_feeds_98 : decode cX7_feeds 98 = .ok (.aload_n 0, 1) := by decide +kernel
theorem dX7_feeds_99 : decode cX7_feeds 99 = .ok (.getfield 167, 3) := by decide +kernel
theorem dX7_feeds_102 : decode cX7_feeds 102 = .ok (.bipush 12, 2) := by decide +kernel
theorem dX7_feeds_104 : decode cX7_feeds 104 = .ok (.bipush 30, 2) := by decide +kernel
theorem dX7_feeds_106 : decode cX7_feeds 106 = .ok (.iload_n 1, 1) := by decide +kernel
theorem dX7_feeds_107 : decode cX7_feeds 107 = .ok (.imul, 1) := by decide +kernel
theorem dX7_feeds_108 : decode cX7_feeds 108 = .ok (.iload_n 2, 1) := by decide +kernel
theorem dX7_feeds_109 : decode cX7_feeds 109 = .ok (.iadd, 1) := by decide +kernel
theorem dX7_feeds_110 : decode cX7_feeds 110 = .ok (.imul, 1) := by decide +kernel
theorem dX7_feeds_111 : decode cX7_feeds 111 = .ok (.iload 4, 2) := by decide +kernel
theorem dX7_feeds_113 : decode cX7_feeds 113 = .ok (.iadd, 1) := by decide +kernel
theorem dX7_feeds_114 : decode cX7_feeds 114 = .ok (.dup2, 1) := by decide +kernel
theorem dX7_feeds_115 : decode cX7_feeds 115 = .ok (.iaload, 1) := by decide +kernel
theorem dX7_feeds_116 : decode cX7_feeds 116 = .ok (.iload 7, 2) := by decide +kernel
theorem dX7_feeds_118 : decode cX7_feeds 118 = .ok (.iadd, 1) := by decide +kernel
theorem dX7_feeds_119 : decode cX7_feeds 119 = .ok (.iastore, 1) := by decide +kernel
theorem dX7_feeds_120 : decode cX7_feeds 120 = .ok (.iinc 5 1, 3) := by decide +kernel
theorem dX7_feeds_123 : decode cX7_feeds 123 = .ok (.goto (-74), 3) := by decide +kernel
theorem dX7_feeds_126 : decode cX7_feeds 126 = .ok (.iinc 2 1, 3) := by decide +kernel
theorem dX7_feeds_129 : decode cX7_feeds 129 = .ok (.goto (-127), 3) := by decide +kernel
theorem dX7_feeds_132 : decode cX7_feeds 132 = .ok (.return_, 1) := by decide +kernel
theorem dX7_eats_0 : decode cX7_eats 0 = .ok (.iconst 0, 1) := by decide +kernel
theorem dX7_eats_1 : decode cX7_eats 1 = .ok (.istore_n 2, 1) := by decide +kernel
theorem dX7_eats_2 : decode cX7_eats 2 = .ok (.iload_n 2, 1) := by decide +kernel
theorem dX7_eats_3 : decode cX7_eats 3 = .ok (.aload_n 0, 1) := by decide +kernel
theorem dX7_eats_4 : decode cX7_eats 4 = .ok (.getfield 146, 3) := by decide +kernel
theorem dX7_eats_7 : decode cX7_eats 7 = .ok (.iload_n 1, 1) := by decide +kernel
theorem dX7_eats_8 : decode cX7_eats 8 = .ok (.iaload, 1) := by decide +kernel
theorem dX7_eats_9 : decode cX7_eats 9 = .ok (.if_icmp .ge 97, 3) := by decide +kernel
theorem dX7_eats_12 : decode cX7_eats 12 = .ok (.aload_n 0, 1) := by decide +kernel
theorem dX7_eats_13 : decode cX7_eats 13 = .ok (.iload_n 1, 1) := by decide +kernel
theorem dX7_eats_14 : decode cX7_eats 14 = .ok (.iload_n 2, 1) := by decide +kernel
theorem dX7_eats_15 : decode cX7_eats 15 = .ok (.invokevirtual 372, 3) := by decide +kernel
theorem dX7_eats_18 : decode cX7_eats 18 = .ok (.ifCond .eq 82, 3) := by decide +kernel
theorem dX7_eats_21 : decode cX7_eats 21 = .ok (.aload_n 0, 1) := by decide +kernel
theorem dX7_eats_22 : decode cX7_eats 22 = .ok (.iload_n 1, 1) := by decide +kernel
theorem dX7_eats_23 : decode cX7_eats 23 = .ok (.iload_n 2, 1) := by decide +kernel
theorem dX7_eats_24 : decode cX7_eats 24 = .ok (.invokevirtual 376, 3) := by decide +kernel
theorem dX7_eats_27 : decode cX7_eats 27 = .ok (.aload_n 0, 1) := by decide +kernel
theorem dX7_eats_28 : decode cX7_eats 28 = .ok (.iconst 5, 1) := by decide +kernel
theorem dX7_eats_29 : decode cX7_eats 29 = .ok (.invokevirtual 359, 3) := by decide +kernel
theorem dX7_eats_32 : decode cX7_eats 32 = .ok (.istore_n 3, 1) := by decide +kernel
theorem dX7_eats_33 : decode cX7_eats 33 = .ok (.bipush 12, 2) := by decide +kernel
theorem dX7_eats_35 : decode cX7_eats 35 = .ok (.iload_n 1, 1) := by decide +kernel
theorem dX7_eats_36 : decode cX7_eats 36 = .ok (.imul, 1) := by decide +kernel
theorem dX7_eats_37 : decode cX7_eats 37 = .ok (.aload_n 0, 1) := by decide +kernel
theorem dX7_eats_38 : decode cX7_eats 38 = .ok (.getfield 152, 3) := by decide +kernel
theorem dX7_eats_41 : decode cX7_eats 41 = .ok (.bipush 30, 2) := by decide +kernel
theorem dX7_eats_43 : decode cX7_eats 43 = .ok (.iload_n 1, 1) := by decide +kernel
theorem dX7_eats_44 : decode cX7_eats 44 = .ok (.imul, 1) := by decide +kernel
theorem dX7_eats_45 : decode cX7_eats 45 = .ok (.iload_n 2, 1) := by decide +kernel
theorem dX7_eats_46 : decode cX7_eats 46 = .ok (.iadd, 1) := by decide +kernel
theorem dX7_eats_47 : decode cX7_eats 47 = .ok (.iaload, 1) := by decide +kernel
theorem dX7_eats_48 : decode cX7_eats 48 = .ok (.iadd, 1) := by decide +kernel
theorem dX7_eats_49 : decode cX7_eats 49 = .ok (.istore 4, 2) := by decide +kernel
theorem dX7_eats_51 : decode cX7_eats 51 = .ok (.iload_n 3, 1) := by decide +kernel
theorem dX7_eats_52 : decode cX7_eats 52 = .ok (.ifCond .le 17, 3) := by decide +kernel
theorem dX7_eats_55 : decode cX7_eats 55 = .ok (.aload_n 0, 1) := by decide +kernel
theorem dX7_eats_56 : decode cX7_eats 56 = .ok (.getfield 119, 3) := by decide +kernel
theorem dX7_eats_59 : decode cX7_eats 59 = .ok (.iload 4, 2) := by decide +kernel
theorem dX7_eats_61 : decode cX7_eats 61 = .ok (.iaload, 1) := by decide +kernel
theorem dX7_eats_62 : decode cX7_eats 62 = .ok (.iload_n 3, 1) := by decide +kernel
theorem dX7_eats_63 : decode cX7_eats 63 = .ok (.invokestatic 369, 3) := by decide +kernel
theorem dX7_eats_66 : decode cX7_eats 66 = .ok (.goto 4, 3) := by decide +kernel
theorem dX7_eats_69 : decode cX7_eats 69 = .ok (.iconst 0, 1) := by decide +kernel
theorem dX7_eats_70 : decode cX7_eats 70 = .ok (.istore 5, 2) := by decide +kernel
theorem dX7_eats_72 : decode cX7_eats 72 = .ok (.aload_n 0, 1) := by decide +kernel
theorem dX7_eats_73 : decode cX7_eats 73 = .ok (.getfield 119, 3) := by decide +kernel
theorem dX7_eats_76 : decode cX7_eats 76 = .ok (.iload 4, 2) := by decide +kernel
theorem dX7_eats_78 : decode cX7_eats 78 = .ok (.dup2, 1) := by decide +kernel
theorem dX7_eats_79 : decode cX7_eats 79 = .ok (.iaload, 1) := by decide +kernel
theorem dX7_eats_80 : decode cX7_eats 80 = .ok (.iload 5, 2) := by decide +kernel
theorem dX7_eats_82 : decode cX7_eats 82 = .ok (.isub, 1) := by decide +kernel
theorem dX7_eats_83 : decode cX7_eats 83 = .ok (.iastore, 1) := by decide +kernel
theorem dX7_eats_84 : decode cX7_eats 84 = .ok (.aload_n 0, 1) := by decide +kernel
theorem dX7_eats_85 : decode cX7_eats 85 = .ok (.getfield 155, 3) := by decide +kernel
theorem dX7_eats_88 : decode cX7_eats 88 = .ok (.bipush 30, 2) := by decide +kernel
theorem dX7_eats_90 : decode cX7_eats 90 = .ok (.iload_n 1, 1) := by decide +kernel
theorem dX7_eats_91 : decode cX7_eats 91 = .ok (.imul, 1) := by decide +kernel
theorem dX7_eats_92 : decode cX7_eats 92 = .ok (.iload_n 2, 1) := by decide +kernel
theorem dX7_eats_93 : decode cX7_eats 93 = .ok (.iadd, 1) := by decide +kernel
theorem dX7_eats_94 : decode cX7_eats 94 = .ok (.dup2, 1) := by decide +kernel
theorem dX7_eats_95 : decode cX7_eats 95 = .ok (.iaload, 1) := by decide +kernel
theorem dX7_eats_96 : decode cX7_eats 96 = .ok (.iload 5, 2) := by decide +kernel
theorem dX7_eats_98 : decode cX7_eats 98 = .ok (.iadd, 1) := by decide +kernel
theorem dX7_eats_99 : decode cX7_eats 99 = .ok (.iastore, 1) := by decide +kernel
theorem dX7_eats_100 : decode cX7_eats 100 = .ok (.iinc 2 1, 3) := by decide +kernel
theorem dX7_eats_103 : decode cX7_eats 103 = .ok (.goto (-101), 3) := by decide +kernel
theorem dX7_eats_106 : decode cX7_eats 106 = .ok (.return_, 1) := by decide +kernel
theorem dX7_isLocked_0 : decode cX7_isLocked 0 = .ok (.aload_n 0, 1) := by decide +kernel
theorem dX7_isLocked_1 : decode cX7_isLocked 1 = .ok (.getfield 152, 3) := by decide +kernel
theorem dX7_isLocked_4 : decode cX7_isLocked 4 = .ok (.bipush 30, 2) := by decide +kernel
theorem dX7_isLocked_6 : decode cX7_isLocked 6 = .ok (.iload_n 1, 1) := by decide +kernel
theorem dX7_isLocked_7 : decode cX7_isLocked 7 = .ok (.imul, 1) := by decide +kernel
theorem dX7_isLocked_8 : decode cX7_isLocked 8 = .ok (.iload_n 2, 1) := by decide +kernel
theorem dX7_isLocked_9 : decode cX7_isLocked 9 = .ok (.iadd, 1) := by decide +kernel
theorem dX7_isLocked_10 : decode cX7_isLocked 10 = .ok (.iaload, 1) := by decide +kernel
theorem dX7_isLocked_11 : decode cX7_isLocked 11 = .ok (.istore_n 3, 1) := by decide +kernel
theorem dX7_isLocked_12 : decode cX7_isLocked 12 = .ok (.iconst 0, 1) := by decide +kernel
theorem dX7_isLocked_13 : decode cX7_isLocked 13 = .ok (.istore 4, 2) := by decide +kernel
theorem dX7_isLocked_15 : decode cX7_isLocked 15 = .ok (.iconst 0, 1) := by decide +kernel
theorem dX7_isLocked_16 : decode cX7_isLocked 16 = .ok (.istore 5, 2) := by decide +kernel
theorem dX7_isLocked_18 : decode cX7_isLocked 18 = .ok (.iload 5, 2) := by decide +kernel
theorem dX7_isLocked_20 : decode cX7_isLocked 20 = .ok (.aload_n 0, 1) := by decide +kernel
theorem dX7_isLocked_21 : decode cX7_isLocked 21 = .ok (.getfield 146, 3) := by decide +kernel
theorem dX7_isLocked_24 : decode cX7_isLocked 24 = .ok (.iload_n 1, 1) := by decide +kernel
theorem dX7_isLocked_25 : decode cX7_isLocked 25 = .ok (.iaload, 1) := by decide +kernel
theorem dX7_isLocked_26 : decode cX7_isLocked 26 = .ok (.if_icmp .ge 98, 3) := by decide +kernel
theorem dX7_isLocked_29 : decode cX7_isLocked 29 = .ok (.aload_n 0, 1) := by decide +kernel
theorem dX7_isLocked_30 : decode cX7_isLocked 30 = .ok (.getfield 152, 3) := by decide +kernel
theorem dX7_isLocked_33 : decode cX7_isLocked 33 = .ok (.bipush 30, 2) := by decide +kernel
theorem dX7_isLocked_35 : decode cX7_isLocked 35 = .ok (.iload_n 1, 1) := by decide +kernel
theorem dX7_isLocked_36 : decode cX7_isLocked 36 = .ok (.imul, 1) := by decide +kernel
theorem dX7_isLocked_37 : decode cX7_isLocked 37 = .ok (.iload 5, 2) := by decide +kernel
theorem dX7_isLocked_39 : decode cX7_isLocked 39 = .ok (.iadd, 1) := by decide +kernel
theorem dX7_isLocked_40 : decode cX7_isLocked 40 = .ok (.iaload, 1) := by decide +kernel
theorem dX7_isLocked_41 : decode cX7_isLocked 41 = .ok (.istore 6, 2) := by decide +kernel
theorem dX7_isLocked_43 : decode cX7_isLocked 43 = .ok (.aload_n 0, 1) := by decide +kernel
theorem dX7_isLocked_44 : decode cX7_isLocked 44 = .ok (.iload_n 1, 1) := by decide +kernel
theorem dX7_isLocked_45 : decode cX7_isLocked 45 = .ok (.iload 5, 2) := by decide +kernel
theorem dX7_isLocked_47 : decode cX7_isLocked 47 = .ok (.invokevirtual 372, 3) := by decide +kernel
theorem dX7_isLocked_50 : decode cX7_isLocked 50 = .ok (.ifCond .eq 68, 3) := by decide +kernel
theorem dX7_isLocked_53 : decode cX7_isLocked 53 = .ok (.iload 6, 2) := by decide +kernel
theorem dX7_isLocked_55 : decode cX7_isLocked 55 = .ok (.iload_n 3, 1) := by decide +kernel
theorem dX7_isLocked_56 : decode cX7_isLocked 56 = .ok (.if_icmp .ge 62, 3) := by decide +kernel
theorem dX7_isLocked_59 : decode cX7_isLocked 59 = .ok (.aload_n 0, 1) := by decide +kernel
theorem dX7_isLocked_60 : decode cX7_isLocked 60 = .ok (.getfield 125, 3) := by decide +kernel
theorem dX7_isLocked_63 : decode cX7_isLocked 63 = .ok (.bipush 12, 2) := by decide +kernel
theorem dX7_isLocked_65 : decode cX7_isLocked 65 = .ok (.iload_n 1, 1) := by decide +kernel
theorem dX7_isLocked_66 : decode cX7_isLocked 66 = .ok (.imul, 1) := by decide +kernel
theorem dX7_isLocked_67 : decode cX7_isLocked 67 = .ok (.iload_n 3, 1) := by decide +kernel
theorem dX7_isLocked_68 : decode cX7_isLocked 68 = .ok (.iadd, 1) := by decide +kernel
theorem dX7_isLocked_69 : decode cX7_isLocked 69 = .ok (.iaload, 1) := by decide +kernel
theorem dX7_isLocked_70 : decode cX7_isLocked 70 = .ok (.istore 7, 2) := by decide +kernel
theorem dX7_isLocked_72 : decode cX7_isLocked 72 = .ok (.aload_n 0, 1) := by decide +kernel
theorem dX7_isLocked_73 : decode cX7_isLocked 73 = .ok (.getfield 125, 3) := by decide +kernel
theorem dX7_isLocked_76 : decode cX7_isLocked 76 = .ok (.bipush 12, 2) := by decide +kernel
theorem dX7_isLocked_78 : decode cX7_isLocked 78 = .ok (.iload_n 1, 1) := by decide +kernel
theorem dX7_isLocked_79 : decode cX7_isLocked 79 = .ok (.imul, 1) := by decide +kernel
theorem dX7_isLocked_80 : decode cX7_isLocked 80 = .ok (.iload 6, 2) := by decide +kernel
theorem dX7_isLocked_82 : decode cX7_isLocked 82 = .ok (.iadd, 1) := by decide +kernel
theorem dX7_isLocked_83 : decode cX7_isLocked 83 = .ok (.iaload, 1) := by decide +kernel
theorem dX7_isLocked_84 : decode cX7_isLocked 84 = .ok (.istore 8, 2) := by decide +kernel
theorem dX7_isLocked_86 : decode cX7_isLocked 86 = .ok (.iload 4, 2) := by decide +kernel
theorem dX7_isLocked_88 : decode cX7_isLocked 88 = .ok (.ifCond .ne 23, 3) := by decide +kernel
theorem dX7_isLocked_91 : decode cX7_isLocked 91 = .ok (.iload 7, 2) := by decide +kernel
theorem dX7_isLocked_93 : decode cX7_isLocked 93 = .ok (.iconst 2, 1) := by decide +kernel
theorem dX7_isLocked_94 : decode cX7_isLocked 94 = .ok (.iload 8, 2) := by decide +kernel
theorem dX7_isLocked_96 : decode cX7_isLocked 96 = .ok (.imul, 1) := by decide +kernel
theorem dX7_isLocked_97 : decode cX7_isLocked 97 = .ok (.if_icmp .eq 14, 3) := by decide +kernel
theorem dX7_isLocked_100 : decode cX7_isLocked 100 = .ok (.iconst 2, 1) := by decide +kernel
theorem dX7_isLocked_101 : decode cX7_isLocked 101 = .ok (.iload 7, 2) := by decide +kernel
theorem dX7_isLocked_103 : decode cX7_isLocked 103 = .ok (.imul, 1) := by decide +kernel
theorem dX7_isLocked_104 : decode cX7_isLocked 104 = .ok (.iconst 3, 1) := by decide +kernel
