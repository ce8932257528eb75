theorem dX1_clear_26 : decode cX1_clear 26 = .ok (.istore_n 2, 1) := by decide +kernel
theorem dX1_clear_27 : decode cX1_clear 27 = .ok (.iload_n 2, 1) := by decide +kernel
theorem dX1_clear_28 : decode cX1_clear 28 = .ok (.bipush 12, 2) := by decide +kernel
theorem dX1_clear_30 : decode cX1_clear 30 = .ok (.if_icmp .ge 35, 3) := by decide +kernel
theorem dX1_clear_33 : decode cX1_clear 33 = .ok (.aload_n 0, 1) := by decide +kernel
theorem dX1_clear_34 : decode cX1_clear 34 = .ok (.getfield 9, 3) := by decide +kernel
theorem dX1_clear_37 : decode cX1_clear 37 = .ok (.iload_n 2, 1) := by decide +kernel
theorem dX1_clear_38 : decode cX1_clear 38 = .ok (.iconst 0, 1) := by decide +kernel
theorem dX1_clear_39 : decode cX1_clear 39 = .ok (.iastore, 1) := by decide +kernel
theorem dX1_clear_40 : decode cX1_clear 40 = .ok (.aload_n 0, 1) := by decide +kernel
theorem dX1_clear_41 : decode cX1_clear 41 = .ok (.getfield 15, 3) := by decide +kernel
theorem dX1_clear_44 : decode cX1_clear 44 = .ok (.iload_n 2, 1) := by decide +kernel
theorem dX1_clear_45 : decode cX1_clear 45 = .ok (.iconst 0, 1) := by decide +kernel
theorem dX1_clear_46 : decode cX1_clear 46 = .ok (.iastore, 1) := by decide +kernel
theorem dX1_clear_47 : decode cX1_clear 47 = .ok (.aload_n 0, 1) := by decide +kernel
theorem dX1_clear_48 : decode cX1_clear 48 = .ok (.getfield 18, 3) := by decide +kernel
theorem dX1_clear_51 : decode cX1_clear 51 = .ok (.iload_n 2, 1) := by decide +kernel
theorem dX1_clear_52 : decode cX1_clear 52 = .ok (.bipush 100, 2) := by decide +kernel
theorem dX1_clear_54 : decode cX1_clear 54 = .ok (.iload_n 2, 1) := by decide +kernel
theorem dX1_clear_55 : decode cX1_clear 55 = .ok (.iconst 1, 1) := by decide +kernel
theorem dX1_clear_56 : decode cX1_clear 56 = .ok (.iadd, 1) := by decide +kernel
theorem dX1_clear_57 : decode cX1_clear 57 = .ok (.imul, 1) := by decide +kernel
theorem dX1_clear_58 : decode cX1_clear 58 = .ok (.iastore, 1) := by decide +kernel
theorem dX1_clear_59 : decode cX1_clear 59 = .ok (.iinc 2 1, 3) := by decide +kernel
theorem dX1_clear_62 : decode cX1_clear 62 = .ok (.goto (-35), 3) := by decide +kernel
theorem dX1_clear_65 : decode cX1_clear 65 = .ok (.iconst 0, 1) := by decide +kernel
theorem dX1_clear_66 : decode cX1_clear 66 = .ok (.istore_n 2, 1) := by decide +kernel
theorem dX1_clear_67 : decode cX1_clear 67 = .ok (.iload_n 2, 1) := by decide +kernel
theorem dX1_clear_68 : decode cX1_clear 68 = .ok (.bipush 60, 2) := by decide +kernel
theorem dX1_clear_70 : decode cX1_clear 70 = .ok (.if_icmp .ge 16, 3) := by decide +kernel
theorem dX1_clear_73 : decode cX1_clear 73 = .ok (.aload_n 0, 1) := by decide +kernel
theorem dX1_clear_74 : decode cX1_clear 74 = .ok (.getfield 21, 3) := by decide +kernel
theorem dX1_clear_77 : decode cX1_clear 77 = .ok (.iload_n 2, 1) := by decide +kernel
theorem dX1_clear_78 : decode cX1_clear 78 = .ok (.iconst 0, 1) := by decide +kernel
theorem dX1_clear_79 : decode cX1_clear 79 = .ok (.iastore, 1) := by decide +kernel
theorem dX1_clear_80 : decode cX1_clear 80 = .ok (.iinc 2 1, 3) := by decide +kernel
theorem dX1_clear_83 : decode cX1_clear 83 = .ok (.goto (-16), 3) := by decide +kernel
theorem dX1_clear_86 : decode cX1_clear 86 = .ok (.return_, 1) := by decide +kernel
theorem dX1_becomeLike_0 : decode cX1_becomeLike 0 = .ok (.aload_n 0, 1) := by decide +kernel
theorem dX1_becomeLike_1 : decode cX1_becomeLike 1 = .ok (.aload_n 1, 1) := by decide +kernel
theorem dX1_becomeLike_2 : decode cX1_becomeLike 2 = .ok (.getfield 35, 3) := by decide +kernel
theorem dX1_becomeLike_5 : decode cX1_becomeLike 5 = .ok (.putfield 35, 3) := by decide +kernel
theorem dX1_becomeLike_8 : decode cX1_becomeLike 8 = .ok (.aload_n 0, 1) := by decide +kernel
theorem dX1_becomeLike_9 : decode cX1_becomeLike 9 = .ok (.aload_n 1, 1) := by decide +kernel
theorem dX1_becomeLike_10 : decode cX1_becomeLike 10 = .ok (.getfield 51, 3) := by decide +kernel
theorem dX1_becomeLike_13 : decode cX1_becomeLike 13 = .ok (.putfield 51, 3) := by decide +kernel
theorem dX1_becomeLike_16 : decode cX1_becomeLike 16 = .ok (.aload_n 0, 1) := by decide +kernel
theorem dX1_becomeLike_17 : decode cX1_becomeLike 17 = .ok (.aload_n 1, 1) := by decide +kernel
theorem dX1_becomeLike_18 : decode cX1_becomeLike 18 = .ok (.getfield 54, 3) := by decide +kernel
theorem dX1_becomeLike_21 : decode cX1_becomeLike 21 = .ok (.putfield 54, 3) := by decide +kernel
theorem dX1_becomeLike_24 : decode cX1_becomeLike 24 = .ok (.aload_n 0, 1) := by decide +kernel
theorem dX1_becomeLike_25 : decode cX1_becomeLike 25 = .ok (.aload_n 1, 1) := by decide +kernel
theorem dX1_becomeLike_26 : decode cX1_becomeLike 26 = .ok (.getfield 57, 3) := by decide +kernel
theorem dX1_becomeLike_29 : decode cX1_becomeLike 29 = .ok (.putfield 57, 3) := by decide +kernel
theorem dX1_becomeLike_32 : decode cX1_becomeLike 32 = .ok (.aload_n 0, 1) := by decide +kernel
theorem dX1_becomeLike_33 : decode cX1_becomeLike 33 = .ok (.aload_n 1, 1) := by decide +kernel
theorem dX1_becomeLike_34 : decode cX1_becomeLike 34 = .ok (.getfield 39, 3) := by decide +kernel
theorem dX1_becomeLike_37 : decode cX1_becomeLike 37 = .ok (.putfield 39, 3) := by decide +kernel
theorem dX1_becomeLike_40 : decode cX1_becomeLike 40 = .ok (.aload_n 0, 1) := by decide +kernel
theorem dX1_becomeLike_41 : decode cX1_becomeLike 41 = .ok (.aload_n 1, 1) := by decide +kernel
theorem dX1_becomeLike_42 : decode cX1_becomeLike 42 = .ok (.getfield 42, 3) := by decide +kernel
theorem dX1_becomeLike_45 : decode cX1_becomeLike 45 = .ok (.putfield 42, 3) := by decide +kernel
theorem dX1_becomeLike_48 : decode cX1_becomeLike 48 = .ok (.aload_n 0, 1) := by decide +kernel
theorem dX1_becomeLike_49 : decode cX1_becomeLike 49 = .ok (.aload_n 1, 1) := by decide +kernel
theorem dX1_becomeLike_50 : decode cX1_becomeLike 50 = .ok (.getfield 45, 3) := by decide +kernel
theorem dX1_becomeLike_53 : decode cX1_becomeLike 53 = .ok (.putfield 45, 3) := by decide +kernel
theorem dX1_becomeLike_56 : decode cX1_becomeLike 56 = .ok (.aload_n 0, 1) := by decide +kernel
theorem dX1_becomeLike_57 : decode cX1_becomeLike 57 = .ok (.aload_n 1, 1) := by decide +kernel
theorem dX1_becomeLike_58 : decode cX1_becomeLike 58 = .ok (.getfield 48, 3) := by decide +kernel
theorem dX1_becomeLike_61 : decode cX1_becomeLike 61 = .ok (.putfield 48, 3) := by decide +kernel
theorem dX1_becomeLike_64 : decode cX1_becomeLike 64 = .ok (.aload_n 1, 1) := by decide +kernel
theorem dX1_becomeLike_65 : decode cX1_becomeLike 65 = .ok (.getfield 9, 3) := by decide +kernel
theorem dX1_becomeLike_68 : decode cX1_becomeLike 68 = .ok (.iconst 0, 1) := by decide +kernel
theorem dX1_becomeLike_69 : decode cX1_becomeLike 69 = .ok (.aload_n 0, 1) := by decide +kernel
theorem dX1_becomeLike_70 : decode cX1_becomeLike 70 = .ok (.getfield 9, 3) := by decide +kernel
theorem dX1_becomeLike_73 : decode cX1_becomeLike 73 = .ok (.iconst 0, 1) := by decide +kernel
theorem dX1_becomeLike_74 : decode cX1_becomeLike 74 = .ok (.bipush 12, 2) := by decide +kernel
theorem dX1_becomeLike_76 : decode cX1_becomeLike 76 = .ok (.invokestatic 61, 3) := by decide +kernel
theorem dX1_becomeLike_79 : decode cX1_becomeLike 79 = .ok (.aload_n 1, 1) := by decide +kernel
theorem dX1_becomeLike_80 : decode cX1_becomeLike 80 = .ok (.getfield 15, 3) := by decide +kernel
theorem dX1_becomeLike_83 : decode cX1_becomeLike 83 = .ok (.iconst 0, 1) := by decide +kernel
theorem dX1_becomeLike_84 : decode cX1_becomeLike 84 = .ok (.aload_n 0, 1) := by decide +kernel
theorem dX1_becomeLike_85 : decode cX1_becomeLike 85 = .ok (.getfield 15, 3) := by decide +kernel
theorem dX1_becomeLike_88 : decode cX1_becomeLike 88 = .ok (.iconst 0, 1) := by decide +kernel
theorem dX1_becomeLike_89 : decode cX1_becomeLike 89 = .ok (.bipush 12, 2) := by decide +kernel
theorem dX1_becomeLike_91 : decode cX1_becomeLike 91 = .ok (.invokestatic 61, 3) := by decide +kernel
theorem dX1_becomeLike_94 : decode cX1_becomeLike 94 = .ok (.aload_n 1, 1) := by decide +kernel
theorem dX1_becomeLike_95 : decode cX1_becomeLike 95 = .ok (.getfield 18, 3) := by decide +kernel
theorem dX1_becomeLike_98 : decode cX1_becomeLike 98 = .ok (.iconst 0, 1) := by decide +kernel
theorem dX1_becomeLike_99 : decode cX1_becomeLike 99 = .ok (.aload_n 0, 1) := by decide +kernel
theorem dX1_becomeLike_100 : decode cX1_becomeLike 100 = .ok (.getfield 18, 3) := by decide +kernel
theorem dX1_becomeLike_103 : decode cX1_becomeLike 103 = .ok (.iconst 0, 1) := by decide +kernel
theorem dX1_becomeLike_104 : decode cX1_becomeLike 104 = .ok (.bipush 12, 2) := by decide +kernel
theorem dX1_becomeLike_106 : decode cX1_becomeLike 106 = .ok (.invokestatic 61, 3) := by decide +kernel
theorem dX1_becomeLike_109 : decode cX1_becomeLike 109 = .ok (.aload_n 1, 1) := by decide +kernel
theorem dX1_becomeLike_110 : decode cX1_becomeLike 110 = .ok (.getfield 21, 3) := by decide +kernel
theorem dX1_becomeLike_113 : decode cX1_becomeLike 113 = .ok (.iconst 0, 1) := by decide +kernel
theorem dX1_becomeLike_114 : decode cX1_becomeLike 114 = .ok (.aload_n 0, 1) := by decide +kernel
theorem dX1_becomeLike_115 : decode cX1_becomeLike 115 = .ok (.getfield 21, 3) := by decide +kernel
theorem dX1_becomeLike_118 : decode cX1_becomeLike 118 = .ok (.iconst 0, 1) := by decide +kernel
theorem dX1_becomeLike_119 : decode cX1_becomeLike 119 = .ok (.bipush 60, 2) := by decide +kernel
theorem dX1_becomeLike_121 : decode cX1_becomeLike 121 = .ok (.invokestatic 61, 3) := by decide +kernel
theorem dX1_becomeLike_124 : decode cX1_becomeLike 124 = .ok (.iconst 0, 1) := by decide +kernel
theorem dX1_becomeLike_125 : decode cX1_becomeLike 125 = .ok (.istore_n 2, 1) := by decide +kernel
theorem dX1_becomeLike_126 : decode cX1_becomeLike 126 = .ok (.iload_n 2, 1) := by decide +kernel
theorem dX1_becomeLike_127 : decode cX1_becomeLike 127 = .ok (.aload_n 0, 1) := by decide +kernel
theorem dX1_becomeLike_128 : decode cX1_becomeLike 128 = .ok (.getfield 45, 3) := by decide +kernel
theorem dX1_becomeLike_131 : decode cX1_becomeLike 131 = .ok (.if_icmp .ge 24, 3) := by decide +kernel
theorem dX1_becomeLike_134 : decode cX1_becomeLike 134 = .ok (.aload_n 0, 1) := by decide +kernel
theorem dX1_becomeLike_135 : decode cX1_becomeLike 135 = .ok (.getfield 26, 3) := by decide +kernel
theorem dX1_becomeLike_138 : decode cX1_becomeLike 138 = .ok (.iload_n 2, 1) := by decide +kernel
theorem dX1_becomeLike_139 : decode cX1_becomeLike 139 = .ok (.aaload, 1) := by decide +kernel
theorem dX1_becomeLike_140 : decode cX1_becomeLike 140 = .ok (.aload_n 1, 1) := by decide +kernel
theorem dX1_becomeLike_141 : decode cX1_becomeLike 141 = .ok (.getfield 26, 3) := by decide +kernel
theorem dX1_becomeLike_144 : decode cX1_becomeLike 144 = .ok (.iload_n 2, 1) := by decide +kernel
theorem dX1_becomeLike_145 : decode cX1_becomeLike 145 = .ok (.aaload, 1) := by decide +kernel
theorem dX1_becomeLike_146 : decode cX1_becomeLike 146 = .ok (.invokevirtual 67, 3) := by decide +kernel
theorem dX1_becomeLike_149 : decode cX1_becomeLike 149 = .ok (.iinc 2 1, 3) := by decide +kernel
theorem dX1_becomeLike_152 : decode cX1_becomeLike 152 = .ok (.goto (-26), 3) := by decide +kernel
theorem dX1_becomeLike_155 : decode cX1_becomeLike 155 = .ok (.return_, 1) := by decide +kernel
theorem dX1_isRing_0 : decode cX1_isRing 0 = .ok (.iload_n 1, 1) := by decide +kernel
theorem dX1_isRing_1 : decode cX1_isRing 1 = .ok (.iconst 0, 1) := by decide +kernel
theorem dX1_isRing_2 : decode cX1_isRing 2 = .ok (.aload_n 0, 1) := by decide +kernel
theorem dX1_isRing_3 : decode cX1_isRing 3 = .ok (.getfield 35, 3) := by decide +kernel
theorem dX1_isRing_6 : decode cX1_isRing 6 = .ok (.iconst 1, 1) := by decide +kernel
theorem dX1_isRing_7 : decode cX1_isRing 7 = .ok (.isub, 1) := by decide +kernel
theorem dX1_isRing_8 : decode cX1_isRing 8 = .ok (.invokestatic 71, 3) := by decide +kernel
theorem dX1_isRing_11 : decode cX1_isRing 11 = .ok (.ireturn, 1) := by decide +kernel
theorem dX1_isLump_0 : decode cX1_isLump 0 = .ok (.iload_n 1, 1) := by decide +kernel
theorem dX1_isLump_1 : decode cX1_isLump 1 = .ok (.iconst 0, 1) := by decide +kernel
theorem dX1_isLump_2 : decode cX1_isLump 2 = .ok (.aload_n 0, 1) := by decide +kernel
theorem dX1_isLump_3 : decode cX1_isLump 3 = .ok (.getfield 45, 3) := by decide +kernel
theorem dX1_isLump_6 : decode cX1_isLump 6 = .ok (.iconst 1, 1) := by decide +kernel
theorem dX1_isLump_7 : decode cX1_isLump 7 = .ok (.isub, 1) := by decide +kernel
theorem dX1_isLump_8 : decode cX1_isLump 8 = .ok (.invokestatic 71, 3) := by decide +kernel
theorem dX1_isLump_11 : decode cX1_isLump 11 = .ok (.ireturn, 1) := by decide +kernel
theorem dX1_allDustIn_0 : decode cX1_allDustIn 0 = .ok (.iload_n 1, 1) := by decide +kernel
theorem dX1_allDustIn_1 : decode cX1_allDustIn 1 = .ok (.iconst 5, 1) := by decide +kernel
theorem dX1_allDustIn_2 : decode cX1_allDustIn 2 = .ok (.imul, 1) := by decide +kernel
theorem dX1_allDustIn_3 : decode cX1_allDustIn 3 = .ok (.istore_n 2, 1) := by decide +kernel
theorem dX1_allDustIn_4 : decode cX1_allDustIn 4 = .ok (.aload_n 0, 1) := by decide +kernel
theorem dX1_allDustIn_5 : decode cX1_allDustIn 5 = .ok (.getfield 21, 3) := by decide +kernel
theorem dX1_allDustIn_8 : decode cX1_allDustIn 8 = .ok (.iload_n 2, 1) := by decide +kernel
theorem dX1_allDustIn_9 : decode cX1_allDustIn 9 = .ok (.iaload, 1) := by decide +kernel
theorem dX1_allDustIn_10 : decode cX1_allDustIn 10 = .ok (.aload_n 0, 1) := by decide +kernel
theorem dX1_allDustIn_11 : decode cX1_allDustIn 11 = .ok (.getfield 21, 3) := by decide +kernel
theorem dX1_allDustIn_14 : decode cX1_allDustIn 14 = .ok (.iload_n 2, 1) := by decide +kernel
theorem dX1_allDustIn_15 : decode cX1_allDustIn 15 = .ok (.iconst 1, 1) := by decide +kernel
theorem dX1_allDustIn_16 : decode cX1_allDustIn 16 = .ok (.iadd, 1) := by decide +kernel
theorem dX1_allDustIn_17 : decode cX1_allDustIn 17 = .ok (.iaload, 1) := by decide +kernel
theorem dX1_allDustIn_18 : decode cX1_allDustIn 18 = .ok (.iadd, 1) := by decide +kernel
theorem dX1_allDustIn_19 : decode cX1_allDustIn 19 = .ok (.aload_n 0, 1) := by decide +kernel
theorem dX1_allDustIn_20 : decode cX1_allDustIn 20 = .ok (.getfield 21, 3) := by decide +kernel
theorem dX1_allDustIn_23 : decode cX1_allDustIn 23 = .ok (.iload_n 2, 1) := by decide +kernel
theorem dX1_allDustIn_24 : decode cX1_allDustIn 24 = .ok (.iconst 2, 1) := by decide +kernel
theorem dX1_allDustIn_25 : decode cX1_allDustIn 25 = .ok (.iadd, 1) := by decide +kernel
theorem dX1_allDustIn_26 : decode cX1_allDustIn 26 = .ok (.iaload, 1) := by decide +kernel
theorem dX1_allDustIn_27 : decode cX1_allDustIn 27 = .ok (.iadd, 1) := by decide +kernel
theorem dX1_allDustIn_28 : decode cX1_allDustIn 28 = .ok (.aload_n 0, 1) := by decide +kernel
theorem dX1_allDustIn_29 : decode cX1_allDustIn 29 = .ok (.getfield 21, 3) := by decide +kernel
theorem dX1_allDustIn_32 : decode cX1_allDustIn 32 = .ok (.iload_n 2, 1) := by decide +kernel
theorem dX1_allDustIn_33 : decode cX1_allDustIn 33 = .ok (.iconst 3, 1) := by decide +kernel
theorem dX1_allDustIn_34 : decode cX1_allDustIn 34 = .ok (.iadd, 1) := by decide +kernel
theorem dX1_allDustIn_35 : decode cX1_allDustIn 35 = .ok (.iaload, 1) := by decide +kernel
theorem dX1_allDustIn_36 : decode cX1_allDustIn 36 = .ok (.iadd, 1) := by decide +kernel
theorem dX1_allDustIn_37 : decode cX1_allDustIn 37 = .ok (.aload_n 0, 1) := by decide +kernel
theorem dX1_allDustIn_38 : decode cX1_allDustIn 38 = .ok (.getfield 21, 3) := by decide +kernel
theorem dX1_allDustIn_41 : decode cX1_allDustIn 41 = .ok (.iload_n 2, 1) := by decide +kernel
theorem dX1_allDustIn_42 : decode cX1_allDustIn 42 = .ok (.iconst 4, 1) := by decide +kernel
theorem dX1_allDustIn_43 : decode cX1_allDustIn 43 = .ok (.iadd, 1) := by decide +kernel
theorem dX1_allDustIn_44 : decode cX1_allDustIn 44 = .ok (.iaload, 1) := by decide +kernel
theorem dX1_allDustIn_45 : decode cX1_allDustIn 45 = .ok (.iadd, 1) := by decide +kernel
theorem dX1_allDustIn_46 : decode cX1_allDustIn 46 = .ok (.ireturn, 1) := by decide +kernel
theorem dX1_wayFrom_0 : decode cX1_wayFrom 0 = .ok (.aload_n 0, 1) := by decide +kernel
theorem dX1_wayFrom_1 : decode cX1_wayFrom 1 = .ok (.getfield 9, 3) := by decide +kernel
theorem dX1_wayFrom_4 : decode cX1_wayFrom 4 = .ok (.iload_n 1, 1) := by decide +kernel
theorem dX1_wayFrom_5 : decode cX1_wayFrom 5 = .ok (.iaload, 1) := by decide +kernel
theorem dX1_wayFrom_6 : decode cX1_wayFrom 6 = .ok (.istore_n 2, 1) := by decide +kernel
theorem dX1_wayFrom_7 : decode cX1_wayFrom 7 = .ok (.iload_n 1, 1) := by decide +kernel
theorem dX1_wayFrom_8 : decode cX1_wayFrom 8 = .ok (.istore_n 3, 1) := by decide +kernel
theorem dX1_wayFrom_9 : decode cX1_wayFrom 9 = .ok (.iload_n 1, 1) := by decide +kernel
theorem dX1_wayFrom_10 : decode cX1_wayFrom 10 = .ok (.ifCond .ne 10, 3) := by decide +kernel
theorem dX1_wayFrom_13 : decode cX1_wayFrom 13 = .ok (.aload_n 0, 1) := by decide +kernel
theorem dX1_wayFrom_14 : decode cX1_wayFrom 14 = .ok (.getfield 54, 3) := by decide +kernel
theorem dX1_wayFrom_17 : decode cX1_wayFrom 17 = .ok (.goto 11, 3) := by decide +kernel
theorem dX1_wayFrom_20 : decode cX1_wayFrom 20 = .ok (.aload_n 0, 1) := by decide +kernel
theorem dX1_wayFrom_21 : decode cX1_wayFrom 21 = .ok (.getfield 9, 3) := by decide +kernel
theorem dX1_wayFrom_24 : decode cX1_wayFrom 24 = .ok (.iload_n 1, 1) := by decide +kernel
theorem dX1_wayFrom_25 : decode cX1_wayFrom 25 = .ok (.iconst 1, 1) := by decide +kernel
theorem dX1_wayFrom_26 : decode cX1_wayFrom 26 = .ok (.isub, 1) := by decide +kernel
theorem dX1_wayFrom_27 : decode cX1_wayFrom 27 = .ok (.iaload, 1) := by decide +kernel
theorem dX1_wayFrom_28 : decode cX1_wayFrom 28 = .ok (.istore 4, 2) := by decide +kernel
theorem dX1_wayFrom_30 : decode cX1_wayFrom 30 = .ok (.iload 4, 2) := by decide +kernel
theorem dX1_wayFrom_32 : decode cX1_wayFrom 32 = .ok (.iload_n 2, 1) := by decide +kernel
theorem dX1_wayFrom_33 : decode cX1_wayFrom 33 = .ok (.if_icmp .le 10, 3) := by decide +kernel
theorem dX1_wayFrom_36 : decode cX1_wayFrom 36 = .ok (.iload 4, 2) := by decide +kernel
theorem dX1_wayFrom_38 : decode cX1_wayFrom 38 = .ok (.istore_n 2, 1) := by decide +kernel
theorem dX1_wayFrom_39 : decode cX1_wayFrom 39 = .ok (.iload_n 1, 1) := by decide +kernel
theorem dX1_wayFrom_40 : decode cX1_wayFrom 40 = .ok (.iconst 1, 1) := by decide +kernel
theorem dX1_wayFrom_41 : decode cX1_wayFrom 41 = .ok (.isub, 1) := by decide +kernel
theorem dX1_wayFrom_42 : decode cX1_wayFrom 42 = .ok (.istore_n 3, 1) := by decide +kernel
theorem dX1_wayFrom_43 : decode cX1_wayFrom 43 = .ok (.iload_n 1, 1) := by decide +kernel
theorem dX1_wayFrom_44 : decode cX1_wayFrom 44 = .ok (.iconst 1, 1) := by decide +kernel
theorem dX1_wayFrom_45 : decode cX1_wayFrom 45 = .ok (.iadd, 1) := by decide +kernel
theorem dX1_wayFrom_46 : decode cX1_wayFrom 46 = .ok (.aload_n 0, 1) := by decide +kernel
theorem dX1_wayFrom_47 : decode cX1_wayFrom 47 = .ok (.getfield 35, 3) := by decide +kernel
theorem dX1_wayFrom_50 : decode cX1_wayFrom 50 = .ok (.if_icmp .ge 14, 3) := by decide +kernel
theorem dX1_wayFrom_53 : decode cX1_wayFrom 53 = .ok (.aload_n 0, 1) := by decide +kernel
theorem dX1_wayFrom_54 : decode cX1_wayFrom 54 = .ok (.getfield 9, 3) := by decide +kernel
theorem dX1_wayFrom_57 : decode cX1_wayFrom 57 = .ok (.iload_n 1, 1) := by decide +kernel
theorem dX1_wayFrom_58 : decode cX1_wayFrom 58 = .ok (.iconst 1, 1) := by decide +kernel
theorem dX1_wayFrom_59 : decode cX1_wayFrom 59 = .ok (.iadd, 1) := by decide +kernel
theorem dX1_wayFrom_60 : decode cX1_wayFrom 60 = .ok (.iaload, 1) := by decide +kernel
theorem dX1_wayFrom_61 : decode cX1_wayFrom 61 = .ok (.goto 4, 3) := by decide +kernel
theorem dX1_wayFrom_64 : decode cX1_wayFrom 64 = .ok (.iconst 0, 1) := by decide +kernel
theorem dX1_wayFrom_65 : decode cX1_wayFrom 65 = .ok (.istore 5, 2) := by decide +kernel
theorem dX1_wayFrom_67 : decode cX1_wayFrom 67 = .ok (.iload 5, 2) := by decide +kernel
theorem dX1_wayFrom_69 : decode cX1_wayFrom 69 = .ok (.iload_n 2, 1) := by decide +kernel
theorem dX1_wayFrom_70 : decode cX1_wayFrom 70 = .ok (.if_icmp .le 7, 3) := by decide +kernel
theorem dX1_wayFrom_73 : decode cX1_wayFrom 73 = .ok (.iload_n 1, 1) := by decide +kernel
theorem dX1_wayFrom_74 : decode cX1_wayFrom 74 = .ok (.iconst 1, 1) := by decide +kernel
theorem dX1_wayFrom_75 : decode cX1_wayFrom 75 = .ok (.iadd, 1) := by decide +kernel
theorem dX1_wayFrom_76 : decode cX1_wayFrom 76 = .ok (.istore_n 3, 1) := by decide +kernel
theorem dX1_wayFrom_77 : decode cX1_wayFrom 77 = .ok (.iload_n 3, 1) := by decide +kernel
theorem dX1_wayFrom_78 : decode cX1_wayFrom 78 = .ok (.ireturn, 1) := by decide +kernel
theorem dX1_isTrap_0 : decode cX1_isTrap 0 = .ok (.aload_n 0, 1) := by decide +kernel
theorem dX1_isTrap_1 : decode cX1_isTrap 1 = .ok (.iload_n 1, 1) := by decide +kernel
theorem dX1_isTrap_2 : decode cX1_isTrap 2 = .ok (.invokevirtual 75, 3) := by decide +kernel
theorem dX1_isTrap_5 : decode cX1_isTrap 5 = .ok (.iload_n 1, 1) := by decide +kernel
theorem dX1_isTrap_6 : decode cX1_isTrap 6 = .ok (.if_icmp .ne 7, 3) := by decide +kernel
theorem dX1_isTrap_9 : decode cX1_isTrap 9 = .ok (.iconst 1, 1) := by decide +kernel
theorem dX1_isTrap_10 : decode cX1_isTrap 10 = .ok (.goto 4, 3) := by decide +kernel
theorem dX1_isTrap_13 : decode cX1_isTrap 13 = .ok (.iconst 0, 1) := by decide +kernel
theorem dX1_isTrap_14 : decode cX1_isTrap 14 = .ok (.ireturn, 1) := by decide +kernel
theorem dX1_howManyTraps_0 : decode cX1_howManyTraps 0 = .ok (.iconst 0, 1) := by decide +kernel
theorem dX1_howManyTraps_1 : decode cX1_howManyTraps 1 = .ok (.istore_n 1, 1) := by decide +kernel
theorem dX1_howManyTraps_2 : decode cX1_howManyTraps 2 = .ok (.iconst 0, 1) := by decide +kernel
theorem dX1_howManyTraps_3 : decode cX1_howManyTraps 3 = .ok (.istore_n 2, 1) := by decide +kernel
theorem dX1_howManyTraps_4 : decode cX1_howManyTraps 4 = .ok (.iload_n 2, 1) := by decide +kernel
theorem dX1_howManyTraps_5 : decode cX1_howManyTraps 5 = .ok (.aload_n 0, 1) := by decide +kernel
theorem dX1_howManyTraps_6 : decode cX1_howManyTraps 6 = .ok (.getfield 35, 3) := by decide +kernel
theorem dX1_howManyTraps_9 : decode cX1_howManyTraps 9 = .ok (.if_icmp .ge 20, 3) := by decide +kernel
theorem dX1_howManyTraps_12 : decode cX1_howManyTraps 12 = .ok (.aload_n 0, 1) := by decide +kernel
theorem dX1_howManyTraps_13 : decode cX1_howManyTraps 13 = .ok (.iload_n 2, 1) := by decide +kernel
theorem dX1_howManyTraps_14 : decode cX1_howManyTraps 14 = .ok (.invokevirtual 79, 3) := by decide +kernel
theorem dX1_howManyTraps_17 : decode cX1_howManyTraps 17 = .ok (.ifCond .eq 6, 3) := by decide +kernel
theorem dX1_howManyTraps_20 : decode cX1_howManyTraps 20 = .ok (.iinc 1 1, 3) := by decide +kernel
theorem dX1_howManyTraps_23 : decode cX1_howManyTraps 23 = .ok (.iinc 2 1, 3) := by decide +kernel
theorem dX1_howManyTraps_26 : decode cX1_howManyTraps 26 = .ok (.goto (-22), 3) := by decide +kernel
theorem dX1_howManyTraps_29 : decode cX1_howManyTraps 29 = .ok (.iload_n 1, 1) := by decide +kernel
theorem dX1_howManyTraps_30 : decode cX1_howManyTraps 30 = .ok (.ireturn, 1) := by decide +kernel
theorem dX1_howManyFamilies_0 : decode cX1_howManyFamilies 0 = .ok (.iconst 0, 1) := by decide +kernel
theorem dX1_howManyFamilies_1 : decode cX1_howManyFamilies 1 = .ok (.istore_n 1, 1) := by decide +kernel
theorem dX1_howManyFamilies_2 : decode cX1_howManyFamilies 2 = .ok (.iconst 0, 1) := by decide +kernel
theorem dX1_howManyFamilies_3 : decode cX1_howManyFamilies 3 = .ok (.istore_n 2, 1) := by decide +kernel
theorem dX1_howManyFamilies_4 : decode cX1_howManyFamilies 4 = .ok (.iload_n 2, 1) := by decide +kernel
theorem dX1_howManyFamilies_5 : decode cX1_howManyFamilies 5 = .ok (.aload_n 0, 1) := by decide +kernel
theorem dX1_howManyFamilies_6 : decode cX1_howManyFamilies 6 = .ok (.getfield 35, 3) := by decide +kernel
theorem dX1_howManyFamilies_9 : decode cX1_howManyFamilies 9 = .ok (.if_icmp .ge 20, 3) := by decide +kernel
theorem dX1_howManyFamilies_12 : decode cX1_howManyFamilies 12 = .ok (.aload_n 0, 1) := by decide +kernel
theorem dX1_howManyFamilies_13 : decode cX1_howManyFamilies 13 = .ok (.iload_n 2, 1) := by decide +kernel
theorem dX1_howManyFamilies_14 : decode cX1_howManyFamilies 14 = .ok (.invokevirtual 83, 3) := by decide +kernel
theorem dX1_howManyFamilies_17 : decode cX1_howManyFamilies 17 = .ok (.ifCond .eq 6, 3) := by decide +kernel
theorem dX1_howManyFamilies_20 : decode cX1_howManyFamilies 20 = .ok (.iinc 1 1, 3) := by decide +kernel
theorem dX1_howManyFamilies_23 : decode cX1_howManyFamilies 23 = .ok (.iinc 2 1, 3) := by decide +kernel
theorem dX1_howManyFamilies_26 : decode cX1_howManyFamilies 26 = .ok (.goto (-22), 3) := by decide +kernel
theorem dX1_howManyFamilies_29 : decode cX1_howManyFamilies 29 = .ok (.iload_n 1, 1) := by decide +kernel
theorem dX1_howManyFamilies_30 : decode cX1_howManyFamilies 30 = .ok (.ireturn, 1) := by decide +kernel
theorem dX1_hasLumpOfFamily_0 : decode cX1_hasLumpOfFamily 0 = .ok (.iconst 0, 1) := by decide +kernel
theorem dX1_hasLumpOfFamily_1 : decode cX1_hasLumpOfFamily 1 = .ok (.istore_n 2, 1) := by decide +kernel
theorem dX1_hasLumpOfFamily_2 : decode cX1_hasLumpOfFamily 2 = .ok (.iload_n 2, 1) := by decide +kernel
theorem dX1_hasLumpOfFamily_3 : decode cX1_hasLumpOfFamily 3 = .ok (.aload_n 0, 1) := by decide +kernel
theorem dX1_hasLumpOfFamily_4 : decode cX1_hasLumpOfFamily 4 = .ok (.getfield 45, 3) := by decide +kernel
theorem dX1_hasLumpOfFamily_7 : decode cX1_hasLumpOfFamily 7 = .ok (.if_icmp .ge 40, 3) := by decide +kernel
theorem dX1_hasLumpOfFamily_10 : decode cX1_hasLumpOfFamily 10 = .ok (.aload_n 0, 1) := by decide +kernel
theorem dX1_hasLumpOfFamily_11 : decode cX1_hasLumpOfFamily 11 = .ok (.getfield 26, 3) := by decide +kernel
theorem dX1_hasLumpOfFamily_14 : decode cX1_hasLumpOfFamily 14 = .ok (.iload_n 2, 1) := by decide +kernel
theorem dX1_hasLumpOfFamily_15 : decode cX1_hasLumpOfFamily 15 = .ok (.aaload, 1) := by decide +kernel
theorem dX1_hasLumpOfFamily_16 : decode cX1_hasLumpOfFamily 16 = .ok (.getfield 86, 3) := by decide +kernel
theorem dX1_hasLumpOfFamily_19 : decode cX1_hasLumpOfFamily 19 = .ok (.ifCond .ne 22, 3) := by decide +kernel
theorem dX1_hasLumpOfFamily_22 : decode cX1_hasLumpOfFamily 22 = .ok (.aload_n 0, 1) := by decide +kernel
theorem dX1_hasLumpOfFamily_23 : decode cX1_hasLumpOfFamily 23 = .ok (.getfield 26, 3) := by decide +kernel
theorem dX1_hasLumpOfFamily_26 : decode cX1_hasLumpOfFamily 26 = .ok (.iload_n 2, 1) := by decide +kernel
theorem dX1_hasLumpOfFamily_27 : decode cX1_hasLumpOfFamily 27 = .ok (.aaload, 1) := by decide +kernel
theorem dX1_hasLumpOfFamily_28 : decode cX1_hasLumpOfFamily 28 = .ok (.aload_n 0, 1) := by decide +kernel
theorem dX1_hasLumpOfFamily_29 : decode cX1_hasLumpOfFamily 29 = .ok (.getfield 35, 3) := by decide +kernel
theorem dX1_hasLumpOfFamily_32 : decode cX1_hasLumpOfFamily 32 = .ok (.invokevirtual 89, 3) := by decide +kernel
theorem dX1_hasLumpOfFamily_35 : decode cX1_hasLumpOfFamily 35 = .ok (.iload_n 1, 1) := by decide +kernel
theorem dX1_hasLumpOfFamily_36 : decode cX1_hasLumpOfFamily 36 = .ok (.if_icmp .ne 5, 3) := by decide +kernel
theorem dX1_hasLumpOfFamily_39 : decode cX1_hasLumpOfFamily 39 = .ok (.iconst 1, 1) := by decide +kernel
theorem dX1_hasLumpOfFamily_40 : decode cX1_hasLumpOfFamily 40 = .ok (.ireturn, 1) := by decide +kernel
theorem dX1_hasLumpOfFamily_41 : decode cX1_hasLumpOfFamily 41 = .ok (.iinc 2 1, 3) := by decide +kernel
theorem dX1_hasLumpOfFamily_44 : decode cX1_hasLumpOfFamily 44 = .ok (.goto (-42), 3) := by decide +kernel
theorem dX1_hasLumpOfFamily_47 : decode cX1_hasLumpOfFamily 47 = .ok (.iconst 0, 1) := by decide +kernel
theorem dX1_hasLumpOfFamily_48 : decode cX1_hasLumpOfFamily 48 = .ok (.ireturn, 1) := by decide +kernel
theorem dX1_hasLumpIn_0 : decode cX1_hasLumpIn 0 = .ok (.iconst 0, 1) := by decide +kernel
theorem dX1_hasLumpIn_1 : decode cX1_hasLumpIn 1 = .ok (.istore_n 2, 1) := by decide +kernel
theorem dX1_hasLumpIn_2 : decode cX1_hasLumpIn 2 = .ok (.iload_n 2, 1) := by decide +kernel
theorem dX1_hasLumpIn_3 : decode cX1_hasLumpIn 3 = .ok (.aload_n 0, 1) := by decide +kernel
theorem dX1_hasLumpIn_4 : decode cX1_hasLumpIn 4 = .ok (.getfield 45, 3) := by decide +kernel
theorem dX1_hasLumpIn_7 : decode cX1_hasLumpIn 7 = .ok (.if_icmp .ge 24, 3) := by decide +kernel
theorem dX1_hasLumpIn_10 : decode cX1_hasLumpIn 10 = .ok (.aload_n 0, 1) := by decide +kernel
theorem dX1_hasLumpIn_11 : decode cX1_hasLumpIn 11 = .ok (.getfield 26, 3) := by decide +kernel
theorem dX1_hasLumpIn_14 : decode cX1_hasLumpIn 14 = .ok (.iload_n 2, 1) := by decide +kernel
theorem dX1_hasLumpIn_15 : decode cX1_hasLumpIn 15 = .ok (.aaload, 1) := by decide +kernel
theorem dX1_hasLumpIn_16 : decode cX1_hasLumpIn 16 = .ok (.iload_n 1, 1) := by decide +kernel
theorem dX1_hasLumpIn_17 : decode cX1_hasLumpIn 17 = .ok (.invokevirtual 92, 3) := by decide +kernel
theorem dX1_hasLumpIn_20 : decode cX1_hasLumpIn 20 = .ok (.ifCond .eq 5, 3) := by decide +kernel
theorem dX1_hasLumpIn_23 : decode cX1_hasLumpIn 23 = .ok (.iconst 1, 1) := by decide +kernel
theorem dX1_hasLumpIn_24 : decode cX1_hasLumpIn 24 = .ok (.ireturn, 1) := by decide +kernel
theorem dX1_hasLumpIn_25 : decode cX1_hasLumpIn 25 = .ok (.iinc 2 1, 3) := by decide +kernel
theorem dX1_hasLumpIn_28 : decode cX1_hasLumpIn 28 = .ok (.goto (-26), 3) := by decide +kernel
theorem dX1_hasLumpIn_31 : decode cX1_hasLumpIn 31 = .ok (.iconst 0, 1) := by decide +kernel
theorem dX1_hasLumpIn_32 : decode cX1_hasLumpIn 32 = .ok (.ireturn, 1) := by decide +kernel
theorem dX1_isLocked_0 : decode cX1_isLocked 0 = .ok (.aload_n 0, 1) := by decide +kernel
theorem dX1_isLocked_1 : decode cX1_isLocked 1 = .ok (.getfield 18, 3) := by decide +kernel
theorem dX1_isLocked_4 : decode cX1_isLocked 4 = .ok (.aload_n 1, 1) := by decide +kernel
theorem dX1_isLocked_5 : decode cX1_isLocked 5 = .ok (.getfield 95, 3) := by decide +kernel
theorem dX1_isLocked_8 : decode cX1_isLocked 8 = .ok (.iaload, 1) := by decide +kernel
theorem dX1_isLocked_9 : decode cX1_isLocked 9 = .ok (.istore_n 2, 1) := by decide +kernel
theorem dX1_isLocked_10 : decode cX1_isLocked 10 = .ok (.iconst 0, 1) := by decide +kernel
theorem dX1_isLocked_11 : decode cX1_isLocked 11 = .ok (.istore_n 3, 1) := by decide +kernel
theorem dX1_isLocked_12 : decode cX1_isLocked 12 = .ok (.iload_n 3, 1) := by decide +kernel
theorem dX1_isLocked_13 : decode cX1_isLocked 13 = .ok (.aload_n 0, 1) := by decide +kernel
theorem dX1_isLocked_14 : decode cX1_isLocked 14 = .ok (.getfield 45, 3) := by decide +kernel
theorem dX1_isLocked_17 : decode cX1_isLocked 17 = .ok (.if_icmp .ge 69, 3) := by decide +kernel
theorem dX1_isLocked_20 : decode cX1_isLocked 20 = .ok (.aload_n 0, 1) := by decide +kernel
theorem dX1_isLocked_21 : decode cX1_isLocked 21 = .ok (.getfield 26, 3) := by decide +kernel
theorem dX1_isLocked_24 : decode cX1_isLocked 24 = .ok (.iload_n 3, 1) := by decide +kernel
theorem dX1_isLocked_25 : decode cX1_isLocked 25 = .ok (.aaload, 1) := by decide +kernel
theorem dX1_isLocked_26 : decode cX1_isLocked 26 = .ok (.astore 4, 2) := by decide +kernel
theorem dX1_isLocked_28 : decode cX1_isLocked 28 = .ok (.aload 4, 2) := by decide +kernel
theorem dX1_isLocked_30 : decode cX1_isLocked 30 = .ok (.getfield 86, 3) := by decide +kernel
theorem dX1_isLocked_33 : decode cX1_isLocked 33 = .ok (.ifCond .ne 47, 3) := by decide +kernel
theorem dX1_isLocked_36 : decode cX1_isLocked 36 = .ok (.aload 4, 2) := by decide +kernel
theorem dX1_isLocked_38 : decode cX1_isLocked 38 = .ok (.getfield 95, 3) := by decide +kernel
theorem dX1_isLocked_41 : decode cX1_isLocked 41 = .ok (.aload_n 1, 1) := by decide +kernel
theorem dX1_isLocked_42 : decode cX1_isLocked 42 = .ok (.getfield 95, 3) := by decide +kernel
theorem dX1_isLocked_45 : decode cX1_isLocked 45 = .ok (.if_icmp .ge 35, 3) := by decide +kernel
theorem dX1_isLocked_48 : decode cX1_isLocked 48 = .ok (.aload_n 0, 1) := by decide +kernel
theorem dX1_isLocked_49 : decode cX1_isLocked 49 = .ok (.getfield 18, 3) := by decide +kernel
theorem dX1_isLocked_52 : decode cX1_isLocked 52 = .ok (.aload 4, 2) := by decide +kernel
theorem dX1_isLocked_54 : decode cX1_isLocked 54 = .ok (.getfield 95, 3) := by decide +kernel
theorem dX1_isLocked_57 : decode cX1_isLocked 57 = .ok (.iaload, 1) := by decide +kernel
theorem dX1_isLocked_58 : decode cX1_isLocked 58 = .ok (.istore 5, 2) := by decide +kernel
theorem dX1_isLocked_60 : decode cX1_isLocked 60 = .ok (.iload_n 2, 1) := by decide +kernel
theorem dX1_isLocked_61 : decode cX1_isLocked 61 = .ok (.iconst 2, 1) := by decide +kernel
theorem dX1_isLocked_62 : decode cX1_isLocked 62 = .ok (.iload 5, 2) := by decide +kernel
theorem dX1_isLocked_64 : decode cX1_isLocked 64 = .ok (.imul, 1) := by decide +kernel
theorem dX1_isLocked_65 : decode cX1_isLocked 65 = .ok (.if_icmp .eq 13, 3) := by decide +kernel
theorem dX1_isLocked_68 : decode cX1_isLocked 68 = .ok (.iconst 2, 1) := by decide +kernel
theorem dX1_isLocked_69 : decode cX1_isLocked 69 = .ok (.iload_n 2, 1) := by decide +kernel
theorem dX1_isLocked_70 : decode cX1_isLocked 70 = .ok (.imul, 1) := by decide +kernel
theorem dX1_isLocked_71 : decode cX1_isLocked 71 = .ok (.iconst 3, 1) := by decide +kernel
theorem dX1_isLocked_72 : decode cX1_isLocked 72 = .ok (.iload 5, 2) := by decide +kernel
theorem dX1_isLocked_74 : decode cX1_isLocked 74 = .ok (.imul, 1) := by decide +kernel
theorem dX1_isLocked_75 : decode cX1_isLocked 75 = .ok (.if_icmp .ne 5, 3) := by decide +kernel
theorem dX1_isLocked_78 : decode cX1_isLocked 78 = .ok (.iconst 1, 1) := by decide +kernel
theorem dX1_isLocked_79 : decode cX1_isLocked 79 = .ok (.ireturn, 1) := by decide +kernel
theorem dX1_isLocked_80 : decode cX1_isLocked 80 = .ok (.iinc 3 1, 3) := by decide +kernel
theorem dX1_isLocked_83 : decode cX1_isLocked 83 = .ok (.goto (-71), 3) := by decide +kernel
theorem dX1_isLocked_86 : decode cX1_isLocked 86 = .ok (.iconst 0, 1) := by decide +kernel
theorem dX1_isLocked_87 : decode cX1_isLocked 87 = .ok (.ireturn, 1) := by decide +kernel
theorem dX1_inRings_0 : decode cX1_inRings 0 = .ok (.lconst 0, 1) := by decide +kernel
theorem dX1_inRings_1 : decode cX1_inRings 1 = .ok (.lstore_n 1, 1) := by decide +kernel
theorem dX1_inRings_2 : decode cX1_inRings 2 = .ok (.iconst 0, 1) := by decide +kernel
theorem dX1_inRings_3 : decode cX1_inRings 3 = .ok (.istore_n 3, 1) := by decide +kernel
theorem dX1_inRings_4 : decode cX1_inRings 4 = .ok (.iload_n 3, 1) := by decide +kernel
theorem dX1_inRings_5 : decode cX1_inRings 5 = .ok (.aload_n 0, 1) := by decide +kernel
theorem dX1_inRings_6 : decode cX1_inRings 6 = .ok (.getfield 35, 3) := by decide +kernel
theorem dX1_inRings_9 : decode cX1_inRings 9 = .ok (.if_icmp .ge 25, 3) := by decide +kernel
theorem dX1_inRings_12 : decode cX1_inRings 12 = .ok (.lload_n 1, 1) := by decide +kernel
theorem dX1_inRings_13 : decode cX1_inRings 13 = .ok (.aload_n 0, 1) := by decide +kernel
theorem dX1_inRings_14 : decode cX1_inRings 14 = .ok (.getfield 9, 3) := by decide +kernel
theorem dX1_inRings_17 : decode cX1_inRings 17 = .ok (.iload_n 3, 1) := by decide +kernel
theorem dX1_inRings_18 : decode cX1_inRings 18 = .ok (.iaload, 1) := by decide +kernel
theorem dX1_inRings_19 : decode cX1_inRings 19 = .ok (.aload_n 0, 1) := by decide +kernel
theorem dX1_inRings_20 : decode cX1_inRings 20 = .ok (.iload_n 3, 1) := by decide +kernel
theorem dX1_inRings_21 : decode cX1_inRings 21 = .ok (.invokevirtual 98, 3) := by decide +kernel
theorem dX1_inRings_24 : decode cX1_inRings 24 = .ok (.iadd, 1) := by decide +kernel
theorem dX1_inRings_25 : decode cX1_inRings 25 = .ok (.i2l, 1) := by decide +kernel
theorem dX1_inRings_26 : decode cX1_inRings 26 = .ok (.ladd, 1) := by decide +kernel
theorem dX1_inRings_27 : decode cX1_inRings 27 = .ok (.lstore_n 1, 1) := by decide +kernel
theorem dX1_inRings_28 : decode cX1_inRings 28 = .ok (.iinc 3 1, 3) := by decide +kernel
theorem dX1_inRings_31 : decode cX1_inRings 31 = .ok (.goto (-27), 3) := by decide +kernel
theorem dX1_inRings_34 : decode cX1_inRings 34 = .ok (.lload_n 1, 1) := by decide +kernel
theorem dX1_inRings_35 : decode cX1_inRings 35 = .ok (.lreturn, 1) := by decide +kernel
theorem dX1_inLumps_0 : decode cX1_inLumps 0 = .ok (.lconst 0, 1) := by decide +kernel
theorem dX1_inLumps_1 : decode cX1_inLumps 1 = .ok (.lstore_n 1, 1) := by decide +kernel
theorem dX1_inLumps_2 : decode cX1_inLumps 2 = .ok (.iconst 0, 1) := by decide +kernel
theorem dX1_inLumps_3 : decode cX1_inLumps 3 = .ok (.istore_n 3, 1) := by decide +kernel
theorem dX1_inLumps_4 : decode cX1_inLumps 4 = .ok (.iload_n 3, 1) := by decide +kernel
theorem dX1_inLumps_5 : decode cX1_inLumps 5 = .ok (.aload_n 0, 1) := by decide +kernel
theorem dX1_inLumps_6 : decode cX1_inLumps 6 = .ok (.getfield 45, 3) := by decide +kernel
theorem dX1_inLumps_9 : decode cX1_inLumps 9 = .ok (.if_icmp .ge 34, 3) := by decide +kernel
theorem dX1_inLumps_12 : decode cX1_inLumps 12 = .ok (.aload_n 0, 1) := by decide +kernel
theorem dX1_inLumps_13 : decode cX1_inLumps 13 = .ok (.getfield 26, 3) := by decide +kernel
theorem dX1_inLumps_16 : decode cX1_inLumps 16 = .ok (.iload_n 3, 1) := by decide +kernel
theorem dX1_inLumps_17 : decode cX1_inLumps 17 = .ok (.aaload, 1) := by decide +kernel
theorem dX1_inLumps_18 : decode cX1_inLumps 18 = .ok (.getfield 86, 3) := by decide +kernel
theorem dX1_inLumps_21 : decode cX1_inLumps 21 = .ok (.ifCond .ne 16, 3) := by decide +kernel
theorem dX1_inLumps_24 : decode cX1_inLumps 24 = .ok (.lload_n 1, 1) := by decide +kernel
theorem dX1_inLumps_25 : decode cX1_inLumps 25 = .ok (.aload_n 0, 1) := by decide +kernel
theorem dX1_inLumps_26 : decode cX1_inLumps 26 = .ok (.getfield 26, 3) := by decide +kernel
theorem dX1_inLumps_29 : decode cX1_inLumps 29 = .ok (.iload_n 3, 1) := by decide +kernel
theorem dX1_inLumps_30 : decode cX1_inLumps 30 = .ok (.aaload, 1) := by decide +kernel
theorem dX1_inLumps_31 : decode cX1_inLumps 31 = .ok (.getfield 101, 3) := by decide +kernel
theorem dX1_inLumps_34 : decode cX1_inLumps 34 = .ok (.i2l, 1) := by decide +kernel
theorem dX1_inLumps_35 : decode cX1_inLumps 35 = .ok (.ladd, 1) := by decide +kernel
theorem dX1_inLumps_36 : decode cX1_inLumps 36 = .ok (.lstore_n 1, 1) := by decide +kernel
theorem dX1_inLumps_37 : decode cX1_inLumps 37 = .ok (.iinc 3 1, 3) := by decide +kernel
theorem dX1_inLumps_40 : decode cX1_inLumps 40 = .ok (.goto (-36), 3) := by decide +kernel
theorem dX1_inLumps_43 : decode cX1_inLumps 43 = .ok (.lload_n 1, 1) := by decide +kernel
theorem dX1_inLumps_44 : decode cX1_inLumps 44 = .ok (.lreturn, 1) := by decide +kernel
theorem dX1_nextOfSeed_0 : decode cX1_nextOfSeed 0 = .ok (.aload_n 0, 1) := by decide +kernel
theorem dX1_nextOfSeed_1 : decode cX1_nextOfSeed 1 = .ok (.aload_n 0, 1) := by decide +kernel
theorem dX1_nextOfSeed_2 : decode cX1_nextOfSeed 2 = .ok (.getfield 57, 3) := by decide +kernel
theorem dX1_nextOfSeed_5 : decode cX1_nextOfSeed 5 = .ok (.ldc2_w 104, 3) := by decide +kernel
theorem dX1_nextOfSeed_8 : decode cX1_nextOfSeed 8 = .ok (.lmul, 1) := by decide +kernel
theorem dX1_nextOfSeed_9 : decode cX1_nextOfSeed 9 = .ok (.ldc2_w 106, 3) := by decide +kernel
theorem dX1_nextOfSeed_12 : decode cX1_nextOfSeed 12 = .ok (.ladd, 1) := by decide +kernel
theorem dX1_nextOfSeed_13 : decode cX1_nextOfSeed 13 = .ok (.ldc2_w 108, 3) := by decide +kernel
theorem dX1_nextOfSeed_16 : decode cX1_nextOfSeed 16 = .ok (.lrem, 1) := by decide +kernel
theorem dX1_nextOfSeed_17 : decode cX1_nextOfSeed 17 = .ok (.putfield 57, 3) := by decide +kernel
theorem dX1_nextOfSeed_20 : decode cX1_nextOfSeed 20 = .ok (.aload_n 0, 1) := by decide +kernel
theorem dX1_nextOfSeed_21 : decode cX1_nextOfSeed 21 = .ok (.getfield 57, 3) := by decide +kernel
theorem dX1_nextOfSeed_24 : decode cX1_nextOfSeed 24 = .ok (.ldc2_w 110, 3) := by decide +kernel
theorem dX1_nextOfSeed_27 : decode cX1_nextOfSeed 27 = .ok (.ldiv, 1) := by decide +kernel
theorem dX1_nextOfSeed_28 : decode cX1_nextOfSeed 28 = .ok (.l2i, 1) := by decide +kernel
theorem dX1_nextOfSeed_29 : decode cX1_nextOfSeed 29 = .ok (.ireturn, 1) := by decide +kernel
theorem dX1_mayOneMoreCome_0 : decode cX1_mayOneMoreCome 0 = .ok (.aload_n 0, 1) := by decide +kernel
theorem dX1_mayOneMoreCome_1 : decode cX1_mayOneMoreCome 1 = .ok (.getfield 45, 3) := by decide +kernel
theorem dX1_mayOneMoreCome_4 : decode cX1_mayOneMoreCome 4 = .ok (.bipush 30, 2) := by decide +kernel
theorem dX1_mayOneMoreCome_6 : decode cX1_mayOneMoreCome 6 = .ok (.if_icmp .ge 7, 3) := by decide +kernel
theorem dX1_mayOneMoreCome_9 : decode cX1_mayOneMoreCome 9 = .ok (.iconst 1, 1) := by decide +kernel
theorem dX1_mayOneMoreCome_10 : decode cX1_mayOneMoreCome 10 = .ok (.goto 4, 3) := by decide +kernel
theorem dX1_mayOneMoreCome_13 : decode cX1_mayOneMoreCome 13 = .ok (.iconst 0, 1) := by decide +kernel
theorem dX1_mayOneMoreCome_14 : decode cX1_mayOneMoreCome 14 = .ok (.ireturn, 1) := by decide +kernel
theorem dX1_gatherAll_0 : decode cX1_gatherAll 0 = .ok (.aload_n 0, 1) := by decide +kernel
theorem dX1_gatherAll_1 : decode cX1_gatherAll 1 = .ok (.getfield 26, 3) := by decide +kernel
theorem dX1_gatherAll_4 : decode cX1_gatherAll 4 = .ok (.aload_n 0, 1) := by decide +kernel
theorem dX1_gatherAll_5 : decode cX1_gatherAll 5 = .ok (.getfield 45, 3) := by decide +kernel
theorem dX1_gatherAll_8 : decode cX1_gatherAll 8 = .ok (.aaload, 1) := by decide +kernel
theorem dX1_gatherAll_9 : decode cX1_gatherAll 9 = .ok (.astore_n 3, 1) := by decide +kernel
theorem dX1_gatherAll_10 : decode cX1_gatherAll 10 = .ok (.aload_n 0, 1) := by decide +kernel
theorem dX1_gatherAll_11 : decode cX1_gatherAll 11 = .ok (.dup, 1) := by decide +kernel
theorem dX1_gatherAll_12 : decode cX1_gatherAll 12 = .ok (.getfield 45, 3) := by decide +kernel
theorem dX1_gatherAll_15 : decode cX1_gatherAll 15 = .ok (.iconst 1, 1) := by decide +kernel
theorem dX1_gatherAll_16 : decode cX1_gatherAll 16 = .ok (.iadd, 1) := by decide +kernel
theorem dX1_gatherAll_17 : decode cX1_gatherAll 17 = .ok (.putfield 45, 3) := by decide +kernel
theorem dX1_gatherAll_20 : decode cX1_gatherAll 20 = .ok (.aload_n 0, 1) := by decide +kernel
theorem dX1_gatherAll_21 : decode cX1_gatherAll 21 = .ok (.dup, 1) := by decide +kernel
theorem dX1_gatherAll_22 : decode cX1_gatherAll 22 = .ok (.getfield 48, 3) := by decide +kernel
theorem dX1_gatherAll_25 : decode cX1_gatherAll 25 = .ok (.iconst 1, 1) := by decide +kernel
theorem dX1_gatherAll_26 : decode cX1_gatherAll 26 = .ok (.iadd, 1) := by decide +kernel
theorem dX1_gatherAll_27 : decode cX1_gatherAll 27 = .ok (.putfield 48, 3) := by decide +kernel
theorem dX1_gatherAll_30 : decode cX1_gatherAll 30 = .ok (.aload_n 3, 1) := by decide +kernel
theorem dX1_gatherAll_31 : decode cX1_gatherAll 31 = .ok (.iload_n 1, 1) := by decide +kernel
theorem dX1_gatherAll_32 : decode cX1_gatherAll 32 = .ok (.aload_n 0, 1) := by decide +kernel
theorem dX1_gatherAll_33 : decode cX1_gatherAll 33 = .ok (.getfield 51, 3) := by decide +kernel
theorem dX1_gatherAll_36 : decode cX1_gatherAll 36 = .ok (.invokevirtual 112, 3) := by decide +kernel
theorem dX1_gatherAll_39 : decode cX1_gatherAll 39 = .ok (.aload_n 3, 1) := by decide +kernel
theorem dX1_gatherAll_40 : decode cX1_gatherAll 40 = .ok (.aload_n 0, 1) := by decide +kernel
theorem dX1_gatherAll_41 : decode cX1_gatherAll 41 = .ok (.getfield 21, 3) := by decide +kernel
theorem dX1_gatherAll_44 : decode cX1_gatherAll 44 = .ok (.iload_n 1, 1) := by decide +kernel
theorem dX1_gatherAll_45 : decode cX1_gatherAll 45 = .ok (.iconst 5, 1) := by decide +kernel
theorem dX1_gatherAll_46 : decode cX1_gatherAll 46 = .ok (.imul, 1) := by decide +kernel
theorem dX1_gatherAll_47 : decode cX1_gatherAll 47 = .ok (.iload_n 2, 1) := by decide +kernel
theorem dX1_gatherAll_48 : decode cX1_gatherAll 48 = .ok (.iadd, 1) := by decide +kernel
theorem dX1_gatherAll_49 : decode cX1_gatherAll 49 = .ok (.iaload, 1) := by decide +kernel
theorem dX1_gatherAll_50 : decode cX1_gatherAll 50 = .ok (.invokevirtual 116, 3) := by decide +kernel
theorem dX1_gatherAll_53 : decode cX1_gatherAll 53 = .ok (.aload_n 0, 1) := by decide +kernel
theorem dX1_gatherAll_54 : decode cX1_gatherAll 54 = .ok (.getfield 21, 3) := by decide +kernel
theorem dX1_gatherAll_57 : decode cX1_gatherAll 57 = .ok (.iload_n 1, 1) := by decide +kernel
theorem dX1_gatherAll_58 : decode cX1_gatherAll 58 = .ok (.iconst 5, 1) := by decide +kernel
theorem dX1_gatherAll_59 : decode cX1_gatherAll 59 = .ok (.imul, 1) := by decide +kernel
theorem dX1_gatherAll_60 : decode cX1_gatherAll 60 = .ok (.iload_n 2, 1) := by decide +kernel
theorem dX1_gatherAll_61 : decode cX1_gatherAll 61 = .ok (.iadd, 1) := by decide +kernel
theorem dX1_gatherAll_62 : decode cX1_gatherAll 62 = .ok (.iconst 0, 1) := by decide +kernel
theorem dX1_gatherAll_63 : decode cX1_gatherAll 63 = .ok (.iastore, 1) := by decide +kernel
theorem dX1_gatherAll_64 : decode cX1_gatherAll 64 = .ok (.return_, 1) := by decide +kernel
theorem dX1_moveLump_0 : decode cX1_moveLump 0 = .ok (.iload_n 2, 1) := by decide +kernel
theorem dX1_moveLump_1 : decode cX1_moveLump 1 = .ok (.iconst (-1), 1) := by decide +kernel
theorem dX1_moveLump_2 : decode cX1_moveLump 2 = .ok (.if_icmp .eq 9, 3) := by decide +kernel
theorem dX1_moveLump_5 : decode cX1_moveLump 5 = .ok (.aload_n 1, 1) := by decide +kernel
theorem dX1_moveLump_6 : decode cX1_moveLump 6 = .ok (.iload_n 2, 1) := by decide +kernel
theorem dX1_moveLump_7 : decode cX1_moveLump 7 = .ok (.putfield 95, 3) := by decide +kernel
theorem dX1_moveLump_10 : decode cX1_moveLump 10 = .ok (.return_, 1) := by decide +kernel
theorem dX1_moveLump_11 : decode cX1_moveLump 11 = .ok (.aload_n 1, 1) := by decide +kernel
theorem dX1_moveLump_12 : decode cX1_moveLump 12 = .ok (.iconst 2, 1) := by decide +kernel
theorem dX1_moveLump_13 : decode cX1_moveLump 13 = .ok (.putfield 86, 3) := by decide +kernel
theorem dX1_moveLump_16 : decode cX1_moveLump 16 = .ok (.aload_n 0, 1) := by decide +kernel
theorem dX1_moveLump_17 : decode cX1_moveLump 17 = .ok (.dup, 1) := by decide +kernel
theorem dX1_moveLump_18 : decode cX1_moveLump 18 = .ok (.getfield 48, 3) := by decide +kernel
theorem dX1_moveLump_21 : decode cX1_moveLump 21 = .ok (.iconst 1, 1) := by decide +kernel
theorem dX1_moveLump_22 : decode cX1_moveLump 22 = .ok (.isub, 1) := by decide +kernel
theorem dX1_moveLump_23 : decode cX1_moveLump 23 = .ok (.putfield 48, 3) := by decide +kernel
theorem dX1_moveLump_26 : decode cX1_moveLump 26 = .ok (.aload_n 0, 1) := by decide +kernel
theorem dX1_moveLump_27 : decode cX1_moveLump 27 = .ok (.dup, 1) := by decide +kernel
theorem dX1_moveLump_28 : decode cX1_moveLump 28 = .ok (.getfield 39, 3) := by decide +kernel
theorem dX1_moveLump_31 : decode cX1_moveLump 31 = .ok (.aload_n 1, 1) := by decide +kernel
theorem dX1_moveLump_32 : decode cX1_moveLump 32 = .ok (.getfield 101, 3) := by decide +kernel
theorem dX1_moveLump_35 : decode cX1_moveLump 35 = .ok (.iadd, 1) := by decide +kernel
theorem dX1_moveLump_36 : decode cX1_moveLump 36 = .ok (.putfield 39, 3) := by decide +kernel
theorem dX1_moveLump_39 : decode cX1_moveLump 39 = .ok (.return_, 1) := by decide +kernel
theorem dX2_init_0 : decode cX2_init 0 = .ok (.aload_n 0, 1) := by decide +kernel
theorem dX2_init_1 : decode cX2_init 1 = .ok (.invokespecial 3, 3) := by decide +kernel
theorem dX2_init_4 : decode cX2_init 4 = .ok (.aload_n 0, 1) := by decide +kernel
theorem dX2_init_5 : decode cX2_init 5 = .ok (.bipush 24, 2) := by decide +kernel
theorem dX2_init_7 : decode cX2_init 7 = .ok (.newarray .int, 2) := by decide +kernel
theorem dX2_init_9 : decode cX2_init 9 = .ok (.putfield 11, 3) := by decide +kernel
theorem dX2_init_12 : decode cX2_init 12 = .ok (.aload_n 0, 1) := by decide +kernel
theorem dX2_init_13 : decode cX2_init 13 = .ok (.bipush 24, 2) := by decide +kernel
theorem dX2_init_15 : decode cX2_init 15 = .ok (.newarray .int, 2) := by decide +kernel
theorem dX2_init_17 : decode cX2_init 17 = .ok (.putfield 15, 3) := by decide +kernel
theorem dX2_init_20 : decode cX2_init 20 = .ok (.aload_n 0, 1) := by decide +kernel
theorem dX2_init_21 : decode cX2_init 21 = .ok (.bipush 24, 2) := by decide +kernel
theorem dX2_init_23 : decode cX2_init 23 = .ok (.newarray .int, 2) := by decide +kernel
theorem dX2_init_25 : decode cX2_init 25 = .ok (.putfield 18, 3) := by decide +kernel
theorem dX2_init_28 : decode cX2_init 28 = .ok (.aload_n 0, 1) := by decide +kernel
theorem dX2_init_29 : decode cX2_init 29 = .ok (.bipush 25, 2) := by decide +kernel
theorem dX2_init_31 : decode cX2_init 31 = .ok (.newarray .int, 2) := by decide +kernel
theorem dX2_init_33 : decode cX2_init 33 = .ok (.putfield 21, 3) := by decide +kernel
theorem dX2_init_36 : decode cX2_init 36 = .ok (.aload_n 0, 1) := by decide +kernel
theorem dX2_init_37 : decode cX2_init 37 = .ok (.bipush 24, 2) := by decide +kernel
theorem dX2_init_39 : decode cX2_init 39 = .ok (.newarray .int, 2) := by decide +kernel
theorem dX2_init_41 : decode cX2_init 41 = .ok (.putfield 24, 3) := by decide +kernel
theorem dX2_init_44 : decode cX2_init 44 = .ok (.aload_n 0, 1) := by decide +kernel
theorem dX2_init_45 : decode cX2_init 45 = .ok (.bipush 9, 2) := by decide +kernel
theorem dX2_init_47 : decode cX2_init 47 = .ok (.newarray .int, 2) := by decide +kernel
theorem dX2_init_49 : decode cX2_init 49 = .ok (.putfield 27, 3) := by decide +kernel
theorem dX2_init_52 : decode cX2_init 52 = .ok (.aload_n 0, 1) := by decide +kernel
theorem dX2_init_53 : decode cX2_init 53 = .ok (.bipush 9, 2) := by decide +kernel
theorem dX2_init_55 : decode cX2_init 55 = .ok (.newarray .int, 2) := by decide +kernel
theorem dX2_init_57 : decode cX2_init 57 = .ok (.putfield 30, 3) := by decide +kernel
theorem dX2_init_60 : decode cX2_init 60 = .ok (.aload_n 0, 1) := by decide +kernel
theorem dX2_init_61 : decode cX2_init 61 = .ok (.sipush 1000, 3) := by decide +kernel
theorem dX2_init_64 : decode cX2_init 64 = .ok (.newarray .int, 2) := by decide +kernel
theorem dX2_init_66 : decode cX2_init 66 = .ok (.putfield 33, 3) := by decide +kernel
theorem dX2_init_69 : decode cX2_init 69 = .ok (.aload_n 0, 1) := by decide +kernel
theorem dX2_init_70 : decode cX2_init 70 = .ok (.bipush 32, 2) := by decide +kernel
theorem dX2_init_72 : decode cX2_init 72 = .ok (.newarray .int, 2) := by decide +kernel
theorem dX2_init_74 : decode cX2_init 74 = .ok (.putfield 36, 3) := by decide +kernel
theorem dX2_init_77 : decode cX2_init 77 = .ok (.aload_n 0, 1) := by decide +kernel
theorem dX2_init_78 : decode cX2_init 78 = .ok (.invokevirtual 39, 3) := by decide +kernel
theorem dX2_init_81 : decode cX2_init 81 = .ok (.return_, 1) := by decide +kernel
theorem dX2_clear_0 : decode cX2_clear 0 = .ok (.aload_n 0, 1) := by decide +kernel
theorem dX2_clear_1 : decode cX2_clear 1 = .ok (.iconst 0, 1) := by decide +kernel
theorem dX2_clear_2 : decode cX2_clear 2 = .ok (.putfield 42, 3) := by decide +kernel
theorem dX2_clear_5 : decode cX2_clear 5 = .ok (.aload_n 0, 1) := by decide +kernel
theorem dX2_clear_6 : decode cX2_clear 6 = .ok (.iconst 0, 1) := by decide +kernel
theorem dX2_clear_7 : decode cX2_clear 7 = .ok (.putfield 46, 3) := by decide +kernel
theorem dX2_clear_10 : decode cX2_clear 10 = .ok (.aload_n 0, 1) := by decide +kernel
theorem dX2_clear_11 : decode cX2_clear 11 = .ok (.iconst 0, 1) := by decide +kernel
theorem dX2_clear_12 : decode cX2_clear 12 = .ok (.putfield 49, 3) := by decide +kernel
theorem dX2_clear_15 : decode cX2_clear 15 = .ok (.iconst 0, 1) := by decide +kernel
theorem dX2_clear_16 : decode cX2_clear 16 = .ok (.istore_n 1, 1) := by decide +kernel
theorem dX2_clear_17 : decode cX2_clear 17 = .ok (.iload_n 1, 1) := by decide +kernel
theorem dX2_clear_18 : decode cX2_clear 18 = .ok (.bipush 9, 2) := by decide +kernel
theorem dX2_clear_20 : decode cX2_clear 20 = .ok (.if_icmp .ge 23, 3) := by decide +kernel
theorem dX2_clear_23 : decode cX2_clear 23 = .ok (.aload_n 0, 1) := by decide +kernel
theorem dX2_clear_24 : decode cX2_clear 24 = .ok (.getfield 27, 3) := by decide +kernel
theorem dX2_clear_27 : decode cX2_clear 27 = .ok (.iload_n 1, 1) := by decide +kernel
theorem dX2_clear_28 : decode cX2_clear 28 = .ok (.iconst (-1), 1) := by decide +kernel
theorem dX2_clear_29 : decode cX2_clear 29 = .ok (.iastore, 1) := by decide +kernel
theorem dX2_clear_30 : decode cX2_clear 30 = .ok (.aload_n 0, 1) := by decide +kernel
theorem dX2_clear_31 : decode cX2_clear 31 = .ok (.getfield 30, 3) := by decide +kernel
theorem dX2_clear_34 : decode cX2_clear 34 = .ok (.iload_n 1, 1) := by decide +kernel
theorem dX2_clear_35 : decode cX2_clear 35 = .ok (.iconst (-1), 1) := by decide +kernel
theorem dX2_clear_36 : decode cX2_clear 36 = .ok (.iastore, 1) := by decide +kernel
theorem dX2_clear_37 : decode cX2_clear 37 = .ok (.iinc 1 1, 3) := by decide +kernel
theorem dX2_clear_40 : decode cX2_clear 40 = .ok (.goto (-23), 3) := by decide +kernel
theorem dX2_clear_43 : decode cX2_clear 43 = .ok (.return_, 1) := by decide +kernel
theorem dX2_isFull_0 : decode cX2_isFull 0 = .ok (.aload_n 0, 1) := by decide +kernel
theorem dX2_isFull_1 : decode cX2_isFull 1 = .ok (.getfield 42, 3) := by decide +kernel
theorem dX2_isFull_4 : decode cX2_isFull 4 = .ok (.bipush 24, 2) := by decide +kernel
theorem dX2_isFull_6 : decode cX2_isFull 6 = .ok (.if_icmp .lt 7, 3) := by decide +kernel
theorem dX2_isFull_9 : decode cX2_isFull 9 = .ok (.iconst 1, 1) := by decide +kernel
theorem dX2_isFull_10 : decode cX2_isFull 10 = .ok (.goto 4, 3) := by decide +kernel
theorem dX2_isFull_13 : decode cX2_isFull 13 = .ok (.iconst 0, 1) := by decide +kernel
theorem dX2_isFull_14 : decode cX2_isFull 14 = .ok (.ireturn, 1) := by decide +kernel
theorem dX2_howManyEnds_0 : decode cX2_howManyEnds 0 = .ok (.iconst 1, 1) := by decide +kernel
theorem dX2_howManyEnds_1 : decode cX2_howManyEnds 1 = .ok (.aload_n 0, 1) := by decide +kernel
theorem dX2_howManyEnds_2 : decode cX2_howManyEnds 2 = .ok (.getfield 46, 3) := by decide +kernel
theorem dX2_howManyEnds_5 : decode cX2_howManyEnds 5 = .ok (.ishl, 1) := by decide +kernel
theorem dX2_howManyEnds_6 : decode cX2_howManyEnds 6 = .ok (.ireturn, 1) := by decide +kernel
theorem dX2_hasNone_0 : decode cX2_hasNone 0 = .ok (.aload_n 0, 1) := by decide +kernel
theorem dX2_hasNone_1 : decode cX2_hasNone 1 = .ok (.getfield 27, 3) := by decide +kernel
theorem dX2_hasNone_4 : decode cX2_hasNone 4 = .ok (.iload_n 1, 1) := by decide +kernel
theorem dX2_hasNone_5 : decode cX2_hasNone 5 = .ok (.iaload, 1) := by decide +kernel
theorem dX2_hasNone_6 : decode cX2_hasNone 6 = .ok (.iconst (-1), 1) := by decide +kernel
theorem dX2_hasNone_7 : decode cX2_hasNone 7 = .ok (.if_icmp .ne 7, 3) := by decide +kernel
theorem dX2_hasNone_10 : decode cX2_hasNone 10 = .ok (.iconst 1, 1) := by decide +kernel
theorem dX2_hasNone_11 : decode cX2_hasNone 11 = .ok (.goto 4, 3) := by decide +kernel
theorem dX2_hasNone_14 : decode cX2_hasNone 14 = .ok (.iconst 0, 1) := by decide +kernel
theorem dX2_hasNone_15 : decode cX2_hasNone 15 = .ok (.ireturn, 1) := by decide +kernel
theorem dX2_addLaw_0 : decode cX2_addLaw 0 = .ok (.aload_n 0, 1) := by decide +kernel
theorem dX2_addLaw_1 : decode cX2_addLaw 1 = .ok (.invokevirtual 52, 3) := by decide +kernel
theorem dX2_addLaw_4 : decode cX2_addLaw 4 = .ok (.ifCond .eq 4, 3) := by decide +kernel
theorem dX2_addLaw_7 : decode cX2_addLaw 7 = .ok (.return_, 1) := by decide +kernel
theorem dX2_addLaw_8 : decode cX2_addLaw 8 = .ok (.aload_n 0, 1) := by decide +kernel
theorem dX2_addLaw_9 : decode cX2_addLaw 9 = .ok (.getfield 11, 3) := by decide +kernel
theorem dX2_addLaw_12 : decode cX2_addLaw 12 = .ok (.aload_n 0, 1) := by decide +kernel
theorem dX2_addLaw_13 : decode cX2_addLaw 13 = .ok (.getfield 42, 3) := by decide +kernel
theorem dX2_addLaw_16 : decode cX2_addLaw 16 = .ok (.iload_n 2, 1) := by decide +kernel
theorem dX2_addLaw_17 : decode cX2_addLaw 17 = .ok (.iastore, 1) := by decide +kernel
theorem dX2_addLaw_18 : decode cX2_addLaw 18 = .ok (.aload_n 0, 1) := by decide +kernel
theorem dX2_addLaw_19 : decode cX2_addLaw 19 = .ok (.getfield 15, 3) := by decide +kernel
theorem dX2_addLaw_22 : decode cX2_addLaw 22 = .ok (.aload_n 0, 1) := by decide +kernel
theorem dX2_addLaw_23 : decode cX2_addLaw 23 = .ok (.getfield 42, 3) := by decide +kernel
theorem dX2_addLaw_26 : decode cX2_addLaw 26 = .ok (.iload_n 3, 1) := by decide +kernel
theorem dX2_addLaw_27 : decode cX2_addLaw 27 = .ok (.iastore, 1) := by decide +kernel
theorem dX2_addLaw_28 : decode cX2_addLaw 28 = .ok (.aload_n 0, 1) := by decide +kernel
theorem dX2_addLaw_29 : decode cX2_addLaw 29 = .ok (.getfield 18, 3) := by decide +kernel
theorem dX2_addLaw_32 : decode cX2_addLaw 32 = .ok (.aload_n 0, 1) := by decide +kernel
theorem dX2_addLaw_33 : decode cX2_addLaw 33 = .ok (.getfield 42, 3) := by decide +kernel
theorem dX2_addLaw_36 : decode cX2_addLaw 36 = .ok (.iload_n 2, 1) := by decide +kernel
theorem dX2_addLaw_37 : decode cX2_addLaw 37 = .ok (.iload_n 3, 1) := by decide +kernel
theorem dX2_addLaw_38 : decode cX2_addLaw 38 = .ok (.if_icmp .ge 12, 3) := by decide +kernel
theorem dX2_addLaw_41 : decode cX2_addLaw 41 = .ok (.iconst 1, 1) := by decide +kernel
theorem dX2_addLaw_42 : decode cX2_addLaw 42 = .ok (.aload_n 0, 1) := by decide +kernel
theorem dX2_addLaw_43 : decode cX2_addLaw 43 = .ok (.getfield 46, 3) := by decide +kernel
theorem dX2_addLaw_46 : decode cX2_addLaw 46 = .ok (.ishl, 1) := by decide +kernel
theorem dX2_addLaw_47 : decode cX2_addLaw 47 = .ok (.goto 4, 3) := by decide +kernel
theorem dX2_addLaw_50 : decode cX2_addLaw 50 = .ok (.iconst 0, 1) := by decide +kernel
theorem dX2_addLaw_51 : decode cX2_addLaw 51 = .ok (.iastore, 1) := by decide +kernel
theorem dX2_addLaw_52 : decode cX2_addLaw 52 = .ok (.iload_n 2, 1) := by decide +kernel
theorem dX2_addLaw_53 : decode cX2_addLaw 53 = .ok (.iload_n 3, 1) := by decide +kernel
theorem dX2_addLaw_54 : decode cX2_addLaw 54 = .ok (.if_icmp .ge 13, 3) := by decide +kernel
theorem dX2_addLaw_57 : decode cX2_addLaw 57 = .ok (.aload_n 0, 1) := by decide +kernel
theorem dX2_addLaw_58 : decode cX2_addLaw 58 = .ok (.dup, 1) := by decide +kernel
theorem dX2_addLaw_59 : decode cX2_addLaw 59 = .ok (.getfield 46, 3) := by decide +kernel
theorem dX2_addLaw_62 : decode cX2_addLaw 62 = .ok (.iconst 1, 1) := by decide +kernel
theorem dX2_addLaw_63 : decode cX2_addLaw 63 = .ok (.iadd, 1) := by decide +kernel
theorem dX2_addLaw_64 : decode cX2_addLaw 64 = .ok (.putfield 46, 3) := by decide +kernel
theorem dX2_addLaw_67 : decode cX2_addLaw 67 = .ok (.aload_n 0, 1) := by decide +kernel
theorem dX2_addLaw_68 : decode cX2_addLaw 68 = .ok (.getfield 21, 3) := by decide +kernel
theorem dX2_addLaw_71 : decode cX2_addLaw 71 = .ok (.aload_n 0, 1) := by decide +kernel
theorem dX2_addLaw_72 : decode cX2_addLaw 72 = .ok (.getfield 42, 3) := by decide +kernel
theorem dX2_addLaw_75 : decode cX2_addLaw 75 = .ok (.aload_n 0, 1) := by decide +kernel
theorem dX2_addLaw_76 : decode cX2_addLaw 76 = .ok (.getfield 49, 3) := by decide +kernel
theorem dX2_addLaw_79 : decode cX2_addLaw 79 = .ok (.iastore, 1) := by decide +kernel
theorem dX2_addLaw_80 : decode cX2_addLaw 80 = .ok (.aload_n 0, 1) := by decide +kernel
theorem dX2_addLaw_81 : decode cX2_addLaw 81 = .ok (.getfield 24, 3) := by decide +kernel
theorem dX2_addLaw_84 : decode cX2_addLaw 84 = .ok (.aload_n 0, 1) := by decide +kernel
theorem dX2_addLaw_85 : decode cX2_addLaw 85 = .ok (.getfield 42, 3) := by decide +kernel
theorem dX2_addLaw_88 : decode cX2_addLaw 88 = .ok (.iconst (-1), 1) := by decide +kernel
theorem dX2_addLaw_89 : decode cX2_addLaw 89 = .ok (.iastore, 1) := by decide +kernel
theorem dX2_addLaw_90 : decode cX2_addLaw 90 = .ok (.aload_n 0, 1) := by decide +kernel
theorem dX2_addLaw_91 : decode cX2_addLaw 91 = .ok (.getfield 27, 3) := by decide +kernel
theorem dX2_addLaw_94 : decode cX2_addLaw 94 = .ok (.iload_n 1, 1) := by decide +kernel
theorem dX2_addLaw_95 : decode cX2_addLaw 95 = .ok (.iaload, 1) := by decide +kernel
theorem dX2_addLaw_96 : decode cX2_addLaw 96 = .ok (.iconst (-1), 1) := by decide +kernel
theorem dX2_addLaw_97 : decode cX2_addLaw 97 = .ok (.if_icmp .ne 16, 3) := by decide +kernel
theorem dX2_addLaw_100 : decode cX2_addLaw 100 = .ok (.aload_n 0, 1) := by decide +kernel
theorem dX2_addLaw_101 : decode cX2_addLaw 101 = .ok (.getfield 27, 3) := by decide +kernel
theorem dX2_addLaw_104 : decode cX2_addLaw 104 = .ok (.iload_n 1, 1) := by decide +kernel
theorem dX2_addLaw_105 : decode cX2_addLaw 105 = .ok (.aload_n 0, 1) := by decide +kernel
theorem dX2_addLaw_106 : decode cX2_addLaw 106 = .ok (.getfield 42, 3) := by decide +kernel
theorem dX2_addLaw_109 : decode cX2_addLaw 109 = .ok (.iastore, 1) := by decide +kernel
theorem dX2_addLaw_110 : decode cX2_addLaw 110 = .ok (.goto 18, 3) := by decide +kernel
theorem dX2_addLaw_113 : decode cX2_addLaw 113 = .ok (.aload_n 0, 1) := by decide +kernel
theorem dX2_addLaw_114 : decode cX2_addLaw 114 = .ok (.getfield 24, 3) := by decide +kernel
theorem dX2_addLaw_117 : decode cX2_addLaw 117 = .ok (.aload_n 0, 1) := by decide +kernel
theorem dX2_addLaw_118 : decode cX2_addLaw 118 = .ok (.getfield 30, 3) := by decide +kernel
theorem dX2_addLaw_121 : decode cX2_addLaw 121 = .ok (.iload_n 1, 1) := by decide +kernel
theorem dX2_addLaw_122 : decode cX2_addLaw 122 = .ok (.iaload, 1) := by decide +kernel
theorem dX2_addLaw_123 : decode cX2_addLaw 123 = .ok (.aload_n 0, 1) := by decide +kernel
theorem dX2_addLaw_124 : decode cX2_addLaw 124 = .ok (.getfield 42, 3) := by decide +kernel
theorem dX2_addLaw_127 : decode cX2_addLaw 127 = .ok (.iastore, 1) := by decide +kernel
theorem dX2_addLaw_128 : decode cX2_addLaw 128 = .ok (.aload_n 0, 1) := by decide +kernel
theorem dX2_addLaw_129 : decode cX2_addLaw 129 = .ok (.getfield 30, 3) := by decide +kernel
theorem dX2_addLaw_132 : decode cX2_addLaw 132 = .ok (.iload_n 1, 1) := by decide +kernel
theorem dX2_addLaw_133 : decode cX2_addLaw 133 = .ok (.aload_n 0, 1) := by decide +kernel
theorem dX2_addLaw_134 : decode cX2_addLaw 134 = .ok (.getfield 42, 3) := by decide +kernel
theorem dX2_addLaw_137 : decode cX2_addLaw 137 = .ok (.iastore, 1) := by decide +kernel
theorem dX2_addLaw_138 : decode cX2_addLaw 138 = .ok (.aload_n 0, 1) := by decide +kernel
theorem dX2_addLaw_139 : decode cX2_addLaw 139 = .ok (.dup, 1) := by decide +kernel
theorem dX2_addLaw_140 : decode cX2_addLaw 140 = .ok (.getfield 42, 3) := by decide +kernel
theorem dX2_addLaw_143 : decode cX2_addLaw 143 = .ok (.iconst 1, 1) := by decide +kernel
theorem dX2_addLaw_144 : decode cX2_addLaw 144 = .ok (.iadd, 1) := by decide +kernel
theorem dX2_addLaw_145 : decode cX2_addLaw 145 = .ok (.putfield 42, 3) := by decide +kernel
theorem dX2_addLaw_148 : decode cX2_addLaw 148 = .ok (.aload_n 0, 1) := by decide +kernel
theorem dX2_addLaw_149 : decode cX2_addLaw 149 = .ok (.getfield 21, 3) := by decide +kernel
theorem dX2_addLaw_152 : decode cX2_addLaw 152 = .ok (.aload_n 0, 1) := by decide +kernel
theorem dX2_addLaw_153 : decode cX2_addLaw 153 = .ok (.getfield 42, 3) := by decide +kernel
theorem dX2_addLaw_156 : decode cX2_addLaw 156 = .ok (.aload_n 0, 1) := by decide +kernel
theorem dX2_addLaw_157 : decode cX2_addLaw 157 = .ok (.getfield 49, 3) := by decide +kernel
theorem dX2_addLaw_160 : decode cX2_addLaw 160 = .ok (.iastore, 1) := by decide +kernel
theorem dX2_addLaw_161 : decode cX2_addLaw 161 = .ok (.return_, 1) := by decide +kernel
theorem dX2_addCode_0 : decode cX2_addCode 0 = .ok (.aload_n 0, 1) := by decide +kernel
theorem dX2_addCode_1 : decode cX2_addCode 1 = .ok (.getfield 49, 3) := by decide +kernel
theorem dX2_addCode_4 : decode cX2_addCode 4 = .ok (.sipush 1000, 3) := by decide +kernel
theorem dX2_addCode_7 : decode cX2_addCode 7 = .ok (.if_icmp .ge 40, 3) := by decide +kernel
theorem dX2_addCode_10 : decode cX2_addCode 10 = .ok (.aload_n 0, 1) := by decide +kernel
theorem dX2_addCode_11 : decode cX2_addCode 11 = .ok (.getfield 33, 3) := by decide +kernel
theorem dX2_addCode_14 : decode cX2_addCode 14 = .ok (.aload_n 0, 1) := by decide +kernel
theorem dX2_addCode_15 : decode cX2_addCode 15 = .ok (.getfield 49, 3) := by decide +kernel
theorem dX2_addCode_18 : decode cX2_addCode 18 = .ok (.iload_n 1, 1) := by decide +kernel
theorem dX2_addCode_19 : decode cX2_addCode 19 = .ok (.iload_n 2, 1) := by decide +kernel
theorem dX2_addCode_20 : decode cX2_addCode 20 = .ok (.iconst 5, 1) := by decide +kernel
theorem dX2_addCode_21 : decode cX2_addCode 21 = .ok (.ishl, 1) := by decide +kernel
theorem dX2_addCode_22 : decode cX2_addCode 22 = .ok (.iadd, 1) := by decide +kernel
theorem dX2_addCode_23 : decode cX2_addCode 23 = .ok (.iastore, 1) := by decide +kernel
theorem dX2_addCode_24 : decode cX2_addCode 24 = .ok (.aload_n 0, 1) := by decide +kernel
theorem dX2_addCode_25 : decode cX2_addCode 25 = .ok (.dup, 1) := by decide +kernel
theorem dX2_addCode_26 : decode cX2_addCode 26 = .ok (.getfield 49, 3) := by decide +kernel
theorem dX2_addCode_29 : decode cX2_addCode 29 = .ok (.iconst 1, 1) := by decide +kernel
theorem dX2_addCode_30 : decode cX2_addCode 30 = .ok (.iadd, 1) := by decide +kernel
theorem dX2_addCode_31 : decode cX2_addCode 31 = .ok (.putfield 49, 3) := by decide +kernel
theorem dX2_addCode_34 : decode cX2_addCode 34 = .ok (.aload_n 0, 1) := by decide +kernel
theorem dX2_addCode_35 : decode cX2_addCode 35 = .ok (.getfield 21, 3) := by decide +kernel
theorem dX2_addCode_38 : decode cX2_addCode 38 = .ok (.aload_n 0, 1) := by decide +kernel
theorem dX2_addCode_39 : decode cX2_addCode 39 = .ok (.getfield 42, 3) := by decide +kernel
theorem dX2_addCode_42 : decode cX2_addCode 42 = .ok (.aload_n 0, 1) := by decide +kernel
theorem dX2_addCode_43 : decode cX2_addCode 43 = .ok (.getfield 49, 3) := by decide +kernel
theorem dX2_addCode_46 : decode cX2_addCode 46 = .ok (.iastore, 1) := by decide +kernel
theorem dX2_addCode_47 : decode cX2_addCode 47 = .ok (.return_, 1) := by decide +kernel
theorem dX2_numberFor_0 : decode cX2_numberFor 0 = .ok (.aload_n 0, 1) := by decide +kernel
theorem dX2_numberFor_1 : decode cX2_numberFor 1 = .ok (.getfield 27, 3) := by decide +kernel
theorem dX2_numberFor_4 : decode cX2_numberFor 4 = .ok (.iload_n 1, 1) := by decide +kernel
theorem dX2_numberFor_5 : decode cX2_numberFor 5 = .ok (.iaload, 1) := by decide +kernel
theorem dX2_numberFor_6 : decode cX2_numberFor 6 = .ok (.istore 4, 2) := by decide +kernel
theorem dX2_numberFor_8 : decode cX2_numberFor 8 = .ok (.iconst 0, 1) := by decide +kernel
theorem dX2_numberFor_9 : decode cX2_numberFor 9 = .ok (.istore 5, 2) := by decide +kernel
theorem dX2_numberFor_11 : decode cX2_numberFor 11 = .ok (.iload 5, 2) := by decide +kernel
theorem dX2_numberFor_13 : decode cX2_numberFor 13 = .ok (.bipush 24, 2) := by decide +kernel
theorem dX2_numberFor_15 : decode cX2_numberFor 15 = .ok (.if_icmp .ge 64, 3) := by decide +kernel
theorem dX2_numberFor_18 : decode cX2_numberFor 18 = .ok (.iload 4, 2) := by decide +kernel
theorem dX2_numberFor_20 : decode cX2_numberFor 20 = .ok (.iconst (-1), 1) := by decide +kernel
theorem dX2_numberFor_21 : decode cX2_numberFor 21 = .ok (.if_icmp .eq 58, 3) := by decide +kernel
theorem dX2_numberFor_24 : decode cX2_numberFor 24 = .ok (.aload_n 0, 1) := by decide +kernel
theorem dX2_numberFor_25 : decode cX2_numberFor 25 = .ok (.iload 4, 2) := by decide +kernel
theorem dX2_numberFor_27 : decode cX2_numberFor 27 = .ok (.aload_n 3, 1) := by decide +kernel
theorem dX2_numberFor_28 : decode cX2_numberFor 28 = .ok (.invokevirtual 56, 3) := by decide +kernel
theorem dX2_numberFor_31 : decode cX2_numberFor 31 = .ok (.ifCond .eq 33, 3) := by decide +kernel
theorem dX2_numberFor_34 : decode cX2_numberFor 34 = .ok (.iload_n 2, 1) := by decide +kernel
theorem dX2_numberFor_35 : decode cX2_numberFor 35 = .ok (.aload_n 0, 1) := by decide +kernel
theorem dX2_numberFor_36 : decode cX2_numberFor 36 = .ok (.getfield 18, 3) := by decide +kernel
theorem dX2_numberFor_39 : decode cX2_numberFor 39 = .ok (.iload 4, 2) := by decide +kernel
theorem dX2_numberFor_41 : decode cX2_numberFor 41 = .ok (.iaload, 1) := by decide +kernel
theorem dX2_numberFor_42 : decode cX2_numberFor 42 = .ok (.iand, 1) := by decide +kernel
theorem dX2_numberFor_43 : decode cX2_numberFor 43 = .ok (.ifCond .eq 13, 3) := by decide +kernel
theorem dX2_numberFor_46 : decode cX2_numberFor 46 = .ok (.aload_n 0, 1) := by decide +kernel
theorem dX2_numberFor_47 : decode cX2_numberFor 47 = .ok (.getfield 15, 3) := by decide +kernel
theorem dX2_numberFor_50 : decode cX2_numberFor 50 = .ok (.iload 4, 2) := by decide +kernel
theorem dX2_numberFor_52 : decode cX2_numberFor 52 = .ok (.iaload, 1) := by decide +kernel
theorem dX2_numberFor_53 : decode cX2_numberFor 53 = .ok (.goto 10, 3) := by decide +kernel
theorem dX2_numberFor_56 : decode cX2_numberFor 56 = .ok (.aload_n 0, 1) := by decide +kernel
theorem dX2_numberFor_57 : decode cX2_numberFor 57 = .ok (.getfield 11, 3) := by decide +kernel
theorem dX2_numberFor_60 : decode cX2_numberFor 60 = .ok (.iload 4, 2) := by decide +kernel
theorem dX2_numberFor_62 : decode cX2_numberFor 62 = .ok (.iaload, 1) := by decide +kernel
theorem dX2_numberFor_63 : decode cX2_numberFor 63 = .ok (.ireturn, 1) := by decide +kernel
theorem dX2_numberFor_64 : decode cX2_numberFor 64 = .ok (.aload_n 0, 1) := by decide +kernel
theorem dX2_numberFor_65 : decode cX2_numberFor 65 = .ok (.getfield 24, 3) := by decide +kernel
theorem dX2_numberFor_68 : decode cX2_numberFor 68 = .ok (.iload 4, 2) := by decide +kernel
theorem dX2_numberFor_70 : decode cX2_numberFor 70 = .ok (.iaload, 1) := by decide +kernel
theorem dX2_numberFor_71 : decode cX2_numberFor 71 = .ok (.istore 4, 2) := by decide +kernel
theorem dX2_numberFor_73 : decode cX2_numberFor 73 = .ok (.iinc 5 1, 3) := by decide +kernel
theorem dX2_numberFor_76 : decode cX2_numberFor 76 = .ok (.goto (-65), 3) := by decide +kernel
theorem dX2_numberFor_79 : decode cX2_numberFor 79 = .ok (.iconst (-1), 1) := by decide +kernel
theorem dX2_numberFor_80 : decode cX2_numberFor 80 = .ok (.ireturn, 1) := by decide +kernel
theorem dX2_valueOf_0 : decode cX2_valueOf 0 = .ok (.iconst 0, 1) := by decide +kernel
theorem dX2_valueOf_1 : decode cX2_valueOf 1 = .ok (.istore_n 3, 1) := by decide +kernel
theorem dX2_valueOf_2 : decode cX2_valueOf 2 = .ok (.aload_n 0, 1) := by decide +kernel
theorem dX2_valueOf_3 : decode cX2_valueOf 3 = .ok (.getfield 21, 3) := by decide +kernel
theorem dX2_valueOf_6 : decode cX2_valueOf 6 = .ok (.iload_n 1, 1) := by decide +kernel
theorem dX2_valueOf_7 : decode cX2_valueOf 7 = .ok (.iconst 1, 1) := by decide +kernel
theorem dX2_valueOf_8 : decode cX2_valueOf 8 = .ok (.iadd, 1) := by decide +kernel
theorem dX2_valueOf_9 : decode cX2_valueOf 9 = .ok (.iaload, 1) := by decide +kernel
theorem dX2_valueOf_10 : decode cX2_valueOf 10 = .ok (.istore 4, 2) := by decide +kernel
theorem dX2_valueOf_12 : decode cX2_valueOf 12 = .ok (.aload_n 0, 1) := by decide +kernel
theorem dX2_valueOf_13 : decode cX2_valueOf 13 = .ok (.getfield 21, 3) := by decide +kernel
theorem dX2_valueOf_16 : decode cX2_valueOf 16 = .ok (.iload_n 1, 1) := by decide +kernel
theorem dX2_valueOf_17 : decode cX2_valueOf 17 = .ok (.iaload, 1) := by decide +kernel
theorem dX2_valueOf_18 : decode cX2_valueOf 18 = .ok (.istore 5, 2) := by decide +kernel
theorem dX2_valueOf_20 : decode cX2_valueOf 20 = .ok (.iload 5, 2) := by decide +kernel
theorem dX2_valueOf_22 : decode cX2_valueOf 22 = .ok (.iload 4, 2) := by decide +kernel
theorem dX2_valueOf_24 : decode cX2_valueOf 24 = .ok (.if_icmp .ge 141, 3) := by decide +kernel
theorem dX2_valueOf_27 : decode cX2_valueOf 27 = .ok (.aload_n 0, 1) := by decide +kernel
theorem dX2_valueOf_28 : decode cX2_valueOf 28 = .ok (.getfield 33, 3) := by decide +kernel
theorem dX2_valueOf_31 : decode cX2_valueOf 31 = .ok (.iload 5, 2) := by decide +kernel
theorem dX2_valueOf_33 : decode cX2_valueOf 33 = .ok (.iaload, 1) := by decide +kernel
theorem dX2_valueOf_34 : decode cX2_valueOf 34 = .ok (.istore 6, 2) := by decide +kernel
theorem dX2_valueOf_36 : decode cX2_valueOf 36 = .ok (.iload 6, 2) := by decide +kernel
theorem dX2_valueOf_38 : decode cX2_valueOf 38 = .ok (.bipush 31, 2) := by decide +kernel
theorem dX2_valueOf_40 : decode cX2_valueOf 40 = .ok (.iand, 1) := by decide +kernel
theorem dX2_valueOf_41 : decode cX2_valueOf 41 = .ok (.istore 7, 2) := by decide +kernel
theorem dX2_valueOf_43 : decode cX2_valueOf 43 = .ok (.iload 7, 2) := by decide +kernel
theorem dX2_valueOf_45 : decode cX2_valueOf 45 = .ok (.bipush 9, 2) := by decide +kernel
theorem dX2_valueOf_47 : decode cX2_valueOf 47 = .ok (.if_icmp .gt 39, 3) := by decide +kernel
theorem dX2_valueOf_50 : decode cX2_valueOf 50 = .ok (.iload_n 3, 1) := by decide +kernel
theorem dX2_valueOf_51 : decode cX2_valueOf 51 = .ok (.bipush 32, 2) := by decide +kernel
theorem dX2_valueOf_53 : decode cX2_valueOf 53 = .ok (.if_icmp .ge 106, 3) := by decide +kernel
theorem dX2_valueOf_56 : decode cX2_valueOf 56 = .ok (.aload_n 0, 1) := by decide +kernel
theorem dX2_valueOf_57 : decode cX2_valueOf 57 = .ok (.getfield 36, 3) := by decide +kernel
theorem dX2_valueOf_60 : decode cX2_valueOf 60 = .ok (.iload_n 3, 1) := by decide +kernel
theorem dX2_valueOf_61 : decode cX2_valueOf 61 = .ok (.iload 7, 2) := by decide +kernel
theorem dX2_valueOf_63 : decode cX2_valueOf 63 = .ok (.bipush 9, 2) := by decide +kernel
theorem dX2_valueOf_65 : decode cX2_valueOf 65 = .ok (.if_icmp .ne 10, 3) := by decide +kernel
theorem dX2_valueOf_68 : decode cX2_valueOf 68 = .ok (.iload 6, 2) := by decide +kernel
theorem dX2_valueOf_70 : decode cX2_valueOf 70 = .ok (.iconst 5, 1) := by decide +kernel
theorem dX2_valueOf_71 : decode cX2_valueOf 71 = .ok (.ishr, 1) := by decide +kernel
theorem dX2_valueOf_72 : decode cX2_valueOf 72 = .ok (.goto 7, 3) := by decide +kernel
theorem dX2_valueOf_75 : decode cX2_valueOf 75 = .ok (.aload_n 2, 1) := by decide +kernel
theorem dX2_valueOf_76 : decode cX2_valueOf 76 = .ok (.iload 7, 2) := by decide +kernel
theorem dX2_valueOf_78 : decode cX2_valueOf 78 = .ok (.iaload, 1) := by decide +kernel
theorem dX2_valueOf_79 : decode cX2_valueOf 79 = .ok (.iastore, 1) := by decide +kernel
theorem dX2_valueOf_80 : decode cX2_valueOf 80 = .ok (.iinc 3 1, 3) := by decide +kernel
theorem dX2_valueOf_83 : decode cX2_valueOf 83 = .ok (.goto 76, 3) := by decide +kernel
theorem dX2_valueOf_86 : decode cX2_valueOf 86 = .ok (.iload 7, 2) := by decide +kernel
theorem dX2_valueOf_88 : decode cX2_valueOf 88 = .ok (.bipush 10, 2) := by decide +kernel
theorem dX2_valueOf_90 : decode cX2_valueOf 90 = .ok (.if_icmp .ne 34, 3) := by decide +kernel
theorem dX2_valueOf_93 : decode cX2_valueOf 93 = .ok (.iload_n 3, 1) := by decide +kernel
theorem dX2_valueOf_94 : decode cX2_valueOf 94 = .ok (.ifCond .le 65, 3) := by decide +kernel
theorem dX2_valueOf_97 : decode cX2_valueOf 97 = .ok (.aload_n 0, 1) := by decide +kernel
theorem dX2_valueOf_98 : decode cX2_valueOf 98 = .ok (.getfield 36, 3) := by decide +kernel
theorem dX2_valueOf_101 : decode cX2_valueOf 101 = .ok (.iload_n 3, 1) := by decide +kernel
theorem dX2_valueOf_102 : decode cX2_valueOf 102 = .ok (.iconst 1, 1) := by decide +kernel
theorem dX2_valueOf_103 : decode cX2_valueOf 103 = .ok (.isub, 1) := by decide +kernel
theorem dX2_valueOf_104 : decode cX2_valueOf 104 = .ok (.aload_n 0, 1) := by decide +kernel
theorem dX2_valueOf_105 : decode cX2_valueOf 105 = .ok (.getfield 36, 3) := by decide +kernel
theorem dX2_valueOf_108 : decode cX2_valueOf 108 = .ok (.iload_n 3, 1) := by decide +kernel
theorem dX2_valueOf_109 : decode cX2_valueOf 109 = .ok (.iconst 1, 1) := by decide +kernel
theorem dX2_valueOf_110 : decode cX2_valueOf 110 = .ok (.isub, 1) := by decide +kernel
theorem dX2_valueOf_111 : decode cX2_valueOf 111 = .ok (.iaload, 1) := by decide +kernel
theorem dX2_valueOf_112 : decode cX2_valueOf 112 = .ok (.ifCond .ne 7, 3) := by decide +kernel
theorem dX2_valueOf_115 : decode cX2_valueOf 115 = .ok (.iconst 1, 1) := by decide +kernel
theorem dX2_valueOf_116 : decode cX2_valueOf 116 = .ok (.goto 4, 3) := by decide +kernel
theorem dX2_valueOf_119 : decode cX2_valueOf 119 = .ok (.iconst 0, 1) := by decide +kernel
theorem dX2_valueOf_120 : decode cX2_valueOf 120 = .ok (.iastore, 1) := by decide +kernel
theorem dX2_valueOf_121 : decode cX2_valueOf 121 = .ok (.goto 38, 3) := by decide +kernel
theorem dX2_valueOf_124 : decode cX2_valueOf 124 = .ok (.iload_n 3, 1) := by decide +kernel
theorem dX2_valueOf_125 : decode cX2_valueOf 125 = .ok (.iconst 1, 1) := by decide +kernel
theorem dX2_valueOf_126 : decode cX2_valueOf 126 = .ok (.if_icmp .le 33, 3) := by decide +kernel
theorem dX2_valueOf_129 : decode cX2_valueOf 129 = .ok (.iinc 3 (-1), 3) := by decide +kernel
theorem dX2_valueOf_132 : decode cX2_valueOf 132 = .ok (.aload_n 0, 1) := by decide +kernel
theorem dX2_valueOf_133 : decode cX2_valueOf 133 = .ok (.getfield 36, 3) := by decide +kernel
theorem dX2_valueOf_136 : decode cX2_valueOf 136 = .ok (.iload_n 3, 1) := by decide +kernel
theorem dX2_valueOf_137 : decode cX2_valueOf 137 = .ok (.iconst 1, 1) := by decide +kernel
theorem dX2_valueOf_138 : decode cX2_valueOf 138 = .ok (.isub, 1) := by decide +kernel
theorem dX2_valueOf_139 : decode cX2_valueOf 139 = .ok (.iload 7, 2) := by decide +kernel
theorem dX2_valueOf_141 : decode cX2_valueOf 141 = .ok (.aload_n 0, 1) := by decide +kernel
theorem dX2_valueOf_142 : decode cX2_valueOf 142 = .ok (.getfield 36, 3) := by decide +kernel
theorem dX2_valueOf_145 : decode cX2_valueOf 145 = .ok (.iload_n 3, 1) := by decide +kernel
theorem dX2_valueOf_146 : decode cX2_valueOf 146 = .ok (.iconst 1, 1) := by decide +kernel
theorem dX2_valueOf_147 : decode cX2_valueOf 147 = .ok (.isub, 1) := by decide +kernel
theorem dX2_valueOf_148 : decode cX2_valueOf 148 = .ok (.iaload, 1) := by decide +kernel
theorem dX2_valueOf_149 : decode cX2_valueOf 149 = .ok (.aload_n 0, 1) := by decide +kernel
theorem dX2_valueOf_150 : decode cX2_valueOf 150 = .ok (.getfield 36, 3) := by decide +kernel
theorem dX2_valueOf_153 : decode cX2_valueOf 153 = .ok (.iload_n 3, 1) := by decide +kernel
theorem dX2_valueOf_154 : decode cX2_valueOf 154 = .ok (.iaload, 1) := by decide +kernel
theorem dX2_valueOf_155 : decode cX2_valueOf 155 = .ok (.invokestatic 60, 3) := by decide +kernel
theorem dX2_valueOf_158 : decode cX2_valueOf 158 = .ok (.iastore, 1) := by decide +kernel
theorem dX2_valueOf_159 : decode cX2_valueOf 159 = .ok (.iinc 5 1, 3) := by decide +kernel
theorem dX2_valueOf_162 : decode cX2_valueOf 162 = .ok (.goto (-142), 3) := by decide +kernel
theorem dX2_valueOf_165 : decode cX2_valueOf 165 = .ok (.iload_n 3, 1) := by decide +kernel
theorem dX2_valueOf_166 : decode cX2_valueOf 166 = .ok (.ifCond .le 12, 3) := by decide +kernel
theorem dX2_valueOf_169 : decode cX2_valueOf 169 = .ok (.aload_n 0, 1) := by decide +kernel
theorem dX2_valueOf_170 : decode cX2_valueOf 170 = .ok (.getfield 36, 3) := by decide +kernel
theorem dX2_valueOf_173 : decode cX2_valueOf 173 = .ok (.iconst 0, 1) := by decide +kernel
theorem dX2_valueOf_174 : decode cX2_valueOf 174 = .ok (.iaload, 1) := by decide +kernel
theorem dX2_valueOf_175 : decode cX2_valueOf 175 = .ok (.goto 4, 3) := by decide +kernel
theorem dX2_valueOf_178 : decode cX2_valueOf 178 = .ok (.iconst 0, 1) := by decide +kernel
theorem dX2_valueOf_179 : decode cX2_valueOf 179 = .ok (.ireturn, 1) := by decide +kernel
theorem dX2_join_0 : decode cX2_join 0 = .ok (.iload_n 0, 1) := by decide +kernel
theorem dX2_join_1 : decode cX2_join 1 = .ok (.tableswitch 105 11 17 #[43, 57, 71, 82, 93, 97, 101], 43) := by decide +kernel
theorem dX2_join_44 : decode cX2_join 44 = .ok (.iload_n 1, 1) := by decide +kernel
theorem dX2_join_45 : decode cX2_join 45 = .ok (.ifCond .eq 11, 3) := by decide +kernel
theorem dX2_join_48 : decode cX2_join 48 = .ok (.iload_n 2, 1) := by decide +kernel
theorem dX2_join_49 : decode cX2_join 49 = .ok (.ifCond .eq 7, 3) := by decide +kernel
theorem dX2_join_52 : decode cX2_join 52 = .ok (.iconst 1, 1) := by decide +kernel
theorem dX2_join_53 : decode cX2_join 53 = .ok (.goto 4, 3) := by decide +kernel
theorem dX2_join_56 : decode cX2_join 56 = .ok (.iconst 0, 1) := by decide +kernel
theorem dX2_join_57 : decode cX2_join 57 = .ok (.ireturn, 1) := by decide +kernel
theorem dX2_join_58 : decode cX2_join 58 = .ok (.iload_n 1, 1) := by decide +kernel
theorem dX2_join_59 : decode cX2_join 59 = .ok (.ifCond .ne 7, 3) := by decide +kernel
theorem dX2_join_62 : decode cX2_join 62 = .ok (.iload_n 2, 1) := by decide +kernel
theorem dX2_join_63 : decode cX2_join 63 = .ok (.ifCond .eq 7, 3) := by decide +kernel
theorem dX2_join_66 : decode cX2_join 66 = .ok (.iconst 1, 1) := by decide +kernel
theorem dX2_join_67 : decode cX2_join 67 = .ok (.goto 4, 3) := by decide +kernel
theorem dX2_join_70 : decode cX2_join 70 = .ok (.iconst 0, 1) := by decide +kernel
theorem dX2_join_71 : decode cX2_join 71 = .ok (.ireturn, 1) := by decide +kernel
theorem dX2_join_72 : decode cX2_join 72 = .ok (.iload_n 1, 1) := by decide +kernel
theorem dX2_join_73 : decode cX2_join 73 = .ok (.iload_n 2, 1) := by decide +kernel
theorem dX2_join_74 : decode cX2_join 74 = .ok (.if_icmp .ge 7, 3) := by decide +kernel
theorem dX2_join_77 : decode cX2_join 77 = .ok (.iconst 1, 1) := by decide +kernel
theorem dX2_join_78 : decode cX2_join 78 = .ok (.goto 4, 3) := by decide +kernel
theorem dX2_join_81 : decode cX2_join 81 = .ok (.iconst 0, 1) := by decide +kernel
theorem dX2_join_82 : decode cX2_join 82 = .ok (.ireturn, 1) := by decide +kernel
theorem dX2_join_83 : decode cX2_join 83 = .ok (.iload_n 1, 1) := by decide +kernel
theorem dX2_join_84 : decode cX2_join 84 = .ok (.iload_n 2, 1) := by decide +kernel
theorem dX2_join_85 : decode cX2_join 85 = .ok (.if_icmp .ne 7, 3) := by decide +kernel
theorem dX2_join_88 : decode cX2_join 88 = .ok (.iconst 1, 1) := by decide +kernel
theorem dX2_join_89 : decode cX2_join 89 = .ok (.goto 4, 3) := by decide +kernel
theorem dX2_join_92 : decode cX2_join 92 = .ok (.iconst 0, 1) := by decide +kernel
theorem dX2_join_93 : decode cX2_join 93 = .ok (.ireturn, 1) := by decide +kernel
theorem dX2_join_94 : decode cX2_join 94 = .ok (.iload_n 1, 1) := by decide +kernel
theorem dX2_join_95 : decode cX2_join 95 = .ok (.iload_n 2, 1) := by decide +kernel
theorem dX2_join_96 : decode cX2_join 96 = .ok (.iadd, 1) := by decide +kernel
theorem dX2_join_97 : decode cX2_join 97 = .ok (.ireturn, 1) := by decide +kernel
theorem dX2_join_98 : decode cX2_join 98 = .ok (.iload_n 1, 1) := by decide +kernel
theorem dX2_join_99 : decode cX2_join 99 = .ok (.iload_n 2, 1) := by decide +kernel
theorem dX2_join_100 : decode cX2_join 100 = .ok (.isub, 1) := by decide +kernel
theorem dX2_join_101 : decode cX2_join 101 = .ok (.ireturn, 1) := by decide +kernel
theorem dX2_join_102 : decode cX2_join 102 = .ok (.iload_n 1, 1) := by decide +kernel
theorem dX2_join_103 : decode cX2_join 103 = .ok (.iload_n 2, 1) := by decide +kernel
theorem dX2_join_104 : decode cX2_join 104 = .ok (.imul, 1) := by decide +kernel
theorem dX2_join_105 : decode cX2_join 105 = .ok (.ireturn, 1) := by decide +kernel
theorem dX2_join_106 : decode cX2_join 106 = .ok (.iload_n 2, 1) := by decide +kernel
theorem dX2_join_107 : decode cX2_join 107 = .ok (.ifCond .ne 7, 3) := by decide +kernel
theorem dX2_join_110 : decode cX2_join 110 = .ok (.iconst 0, 1) := by decide +kernel
theorem dX2_join_111 : decode cX2_join 111 = .ok (.goto 6, 3) := by decide +kernel
theorem dX2_join_114 : decode cX2_join 114 = .ok (.iload_n 1, 1) := by decide +kernel
theorem dX2_join_115 : decode cX2_join 115 = .ok (.iload_n 2, 1) := by decide +kernel
theorem dX2_join_116 : decode cX2_join 116 = .ok (.idiv, 1) := by decide +kernel
theorem dX2_join_117 : decode cX2_join 117 = .ok (.ireturn, 1) := by decide +kernel
theorem dX3_init_0 : decode cX3_init 0 = .ok (.aload_n 0, 1) := by decide +kernel
theorem dX3_init_1 : decode cX3_init 1 = .ok (.invokespecial 3, 3) := by decide +kernel
theorem dX3_init_4 : decode cX3_init 4 = .ok (.aload_n 0, 1) := by decide +kernel
theorem dX3_init_5 : decode cX3_init 5 = .ok (.bipush 12, 2) := by decide +kernel
theorem dX3_init_7 : decode cX3_init 7 = .ok (.newarray .int, 2) := by decide +kernel
theorem dX3_init_9 : decode cX3_init 9 = .ok (.putfield 9, 3) := by decide +kernel
theorem dX3_init_12 : decode cX3_init 12 = .ok (.return_, 1) := by decide +kernel
theorem dX3_begin_0 : decode cX3_begin 0 = .ok (.aload_n 0, 1) := by decide +kernel
theorem dX3_begin_1 : decode cX3_begin 1 = .ok (.iconst 0, 1) := by decide +kernel
theorem dX3_begin_2 : decode cX3_begin 2 = .ok (.putfield 15, 3) := by decide +kernel
theorem dX3_begin_5 : decode cX3_begin 5 = .ok (.aload_n 0, 1) := by decide +kernel
theorem dX3_begin_6 : decode cX3_begin 6 = .ok (.iload_n 1, 1) := by decide +kernel
theorem dX3_begin_7 : decode cX3_begin 7 = .ok (.putfield 19, 3) := by decide +kernel
theorem dX3_begin_10 : decode cX3_begin 10 = .ok (.aload_n 0, 1) := by decide +kernel
theorem dX3_begin_11 : decode cX3_begin 11 = .ok (.iconst 0, 1) := by decide +kernel
theorem dX3_begin_12 : decode cX3_begin 12 = .ok (.putfield 22, 3) := by decide +kernel
theorem dX3_begin_15 : decode cX3_begin 15 = .ok (.aload_n 0, 1) := by decide +kernel
theorem dX3_begin_16 : decode cX3_begin 16 = .ok (.iconst 0, 1) := by decide +kernel
theorem dX3_begin_17 : decode cX3_begin 17 = .ok (.putfield 25, 3) := by decide +kernel
theorem dX3_begin_20 : decode cX3_begin 20 = .ok (.aload_n 0, 1) := by decide +kernel
theorem dX3_begin_21 : decode cX3_begin 21 = .ok (.iconst (-1), 1) := by decide +kernel
theorem dX3_begin_22 : decode cX3_begin 22 = .ok (.putfield 28, 3) := by decide +kernel
theorem dX3_begin_25 : decode cX3_begin 25 = .ok (.aload_n 0, 1) := by decide +kernel
theorem dX3_begin_26 : decode cX3_begin 26 = .ok (.iload_n 2, 1) := by decide +kernel
theorem dX3_begin_27 : decode cX3_begin 27 = .ok (.putfield 31, 3) := by decide +kernel
theorem dX3_begin_30 : decode cX3_begin 30 = .ok (.aload_n 0, 1) := by decide +kernel
theorem dX3_begin_31 : decode cX3_begin 31 = .ok (.iconst 0, 1) := by decide +kernel
theorem dX3_begin_32 : decode cX3_begin 32 = .ok (.putfield 34, 3) := by decide +kernel
theorem dX3_begin_35 : decode cX3_begin 35 = .ok (.iconst 0, 1) := by decide +kernel
theorem dX3_begin_36 : decode cX3_begin 36 = .ok (.istore_n 3, 1) := by decide +kernel
theorem dX3_begin_37 : decode cX3_begin 37 = .ok (.iload_n 3, 1) := by decide +kernel
theorem dX3_begin_38 : decode cX3_begin 38 = .ok (.bipush 12, 2) := by decide +kernel
theorem dX3_begin_40 : decode cX3_begin 40 = .ok (.if_icmp .ge 16, 3) := by decide +kernel
theorem dX3_begin_43 : decode cX3_begin 43 = .ok (.aload_n 0, 1) := by decide +kernel
theorem dX3_begin_44 : decode cX3_begin 44 = .ok (.getfield 9, 3) := by decide +kernel
theorem dX3_begin_47 : decode cX3_begin 47 = .ok (.iload_n 3, 1) := by decide +kernel
theorem dX3_begin_48 : decode cX3_begin 48 = .ok (.iconst 0, 1) := by decide +kernel
theorem dX3_begin_49 : decode cX3_begin 49 = .ok (.iastore, 1) := by decide +kernel
theorem dX3_begin_50 : decode cX3_begin 50 = .ok (.iinc 3 1, 3) := by decide +kernel
theorem dX3_begin_53 : decode cX3_begin 53 = .ok (.goto (-16), 3) := by decide +kernel
theorem dX3_begin_56 : decode cX3_begin 56 = .ok (.return_, 1) := by decide +kernel
theorem dX3_becomeLike_0 : decode cX3_becomeLike 0 = .ok (.aload_n 0, 1) := by decide +kernel
theorem dX3_becomeLike_1 : decode cX3_becomeLike 1 = .ok (.aload_n 1, 1) := by decide +kernel
theorem dX3_becomeLike_2 : decode cX3_becomeLike 2 = .ok (.getfield 15, 3) := by decide +kernel
theorem dX3_becomeLike_5 : decode cX3_becomeLike 5 = .ok (.putfield 15, 3) := by decide +kernel
theorem dX3_becomeLike_8 : decode cX3_becomeLike 8 = .ok (.aload_n 0, 1) := by decide +kernel
theorem dX3_becomeLike_9 : decode cX3_becomeLike 9 = .ok (.aload_n 1, 1) := by decide +kernel
theorem dX3_becomeLike_10 : decode cX3_becomeLike 10 = .ok (.getfield 19, 3) := by decide +kernel
theorem dX3_becomeLike_13 : decode cX3_becomeLike 13 = .ok (.putfield 19, 3) := by decide +kernel
theorem dX3_becomeLike_16 : decode cX3_becomeLike 16 = .ok (.aload_n 0, 1) := by decide +kernel
theorem dX3_becomeLike_17 : decode cX3_becomeLike 17 = .ok (.aload_n 1, 1) := by decide +kernel
theorem dX3_becomeLike_18 : decode cX3_becomeLike 18 = .ok (.getfield 22, 3) := by decide +kernel
theorem dX3_becomeLike_21 : decode cX3_becomeLike 21 = .ok (.putfield 22, 3) := by decide +kernel
theorem dX3_becomeLike_24 : decode cX3_becomeLike 24 = .ok (.aload_n 0, 1) := by decide +kernel
theorem dX3_becomeLike_25 : decode cX3_becomeLike 25 = .ok (.aload_n 1, 1) := by decide +kernel
theorem dX3_becomeLike_26 : decode cX3_becomeLike 26 = .ok (.getfield 25, 3) := by decide +kernel
theorem dX3_becomeLike_29 : decode cX3_becomeLike 29 = .ok (.putfield 25, 3) := by decide +kernel
theorem dX3_becomeLike_32 : decode cX3_becomeLike 32 = .ok (.aload_n 0, 1) := by decide +kernel
theorem dX3_becomeLike_33 : decode cX3_becomeLike 33 = .ok (.aload_n 1, 1) := by decide +kernel
theorem dX3_becomeLike_34 : decode cX3_becomeLike 34 = .ok (.getfield 28, 3) := by decide +kernel
theorem dX3_becomeLike_37 : decode cX3_becomeLike 37 = .ok (.putfield 28, 3) := by decide +kernel
theorem dX3_becomeLike_40 : decode cX3_becomeLike 40 = .ok (.aload_n 0, 1) := by decide +kernel
theorem dX3_becomeLike_41 : decode cX3_becomeLike 41 = .ok (.aload_n 1, 1) := by decide +kernel
theorem dX3_becomeLike_42 : decode cX3_becomeLike 42 = .ok (.getfield 31, 3) := by decide +kernel
theorem dX3_becomeLike_45 : decode cX3_becomeLike 45 = .ok (.putfield 31, 3) := by decide +kernel
theorem dX3_becomeLike_48 : decode cX3_becomeLike 48 = .ok (.aload_n 0, 1) := by decide +kernel
theorem dX3_becomeLike_49 : decode cX3_becomeLike 49 = .ok (.aload_n 1, 1) := by decide +kernel
theorem dX3_becomeLike_50 : decode cX3_becomeLike 50 = .ok (.getfield 34, 3) := by decide +kernel
theorem dX3_becomeLike_53 : decode cX3_becomeLike 53 = .ok (.putfield 34, 3) := by decide +kernel
theorem dX3_becomeLike_56 : decode cX3_becomeLike 56 = .ok (.aload_n 1, 1) := by decide +kernel
theorem dX3_becomeLike_57 : decode cX3_becomeLike 57 = .ok (.getfield 9, 3) := by decide +kernel
theorem dX3_becomeLike_60 : decode cX3_becomeLike 60 = .ok (.iconst 0, 1) := by decide +kernel
theorem dX3_becomeLike_61 : decode cX3_becomeLike 61 = .ok (.aload_n 0, 1) := by decide +kernel
theorem dX3_becomeLike_62 : decode cX3_becomeLike 62 = .ok (.getfield 9, 3) := by decide +kernel
theorem dX3_becomeLike_65 : decode cX3_becomeLike 65 = .ok (.iconst 0, 1) := by decide +kernel
theorem dX3_becomeLike_66 : decode cX3_becomeLike 66 = .ok (.bipush 12, 2) := by decide +kernel
theorem dX3_becomeLike_68 : decode cX3_becomeLike 68 = .ok (.invokestatic 37, 3) := by decide +kernel
theorem dX3_becomeLike_71 : decode cX3_becomeLike 71 = .ok (.return_, 1) := by decide +kernel
theorem dX3_isThereIn_0 : decode cX3_isThereIn 0 = .ok (.aload_n 0, 1) := by decide +kernel
theorem dX3_isThereIn_1 : decode cX3_isThereIn 1 = .ok (.getfield 15, 3) := by decide +kernel
theorem dX3_isThereIn_4 : decode cX3_isThereIn 4 = .ok (.ifCond .ne 15, 3) := by decide +kernel
theorem dX3_isThereIn_7 : decode cX3_isThereIn 7 = .ok (.aload_n 0, 1) := by decide +kernel
theorem dX3_isThereIn_8 : decode cX3_isThereIn 8 = .ok (.getfield 19, 3) := by decide +kernel
