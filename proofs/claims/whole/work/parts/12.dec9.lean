theorem dX7_runs_82 : decode cX7_runs 82 = .ok (.aload_n 0, 1) := by decide +kernel
theorem dX7_runs_83 : decode cX7_runs 83 = .ok (.bipush 7, 2) := by decide +kernel
theorem dX7_runs_85 : decode cX7_runs 85 = .ok (.invokevirtual 394, 3) := by decide +kernel
theorem dX7_runs_88 : decode cX7_runs 88 = .ok (.iinc 6 1, 3) := by decide +kernel
theorem dX7_runs_91 : decode cX7_runs 91 = .ok (.goto (-15), 3) := by decide +kernel
theorem dX7_runs_94 : decode cX7_runs 94 = .ok (.iload 4, 2) := by decide +kernel
theorem dX7_runs_96 : decode cX7_runs 96 = .ok (.iload_n 3, 1) := by decide +kernel
theorem dX7_runs_97 : decode cX7_runs 97 = .ok (.ifCond .ge 12, 3) := by decide +kernel
theorem dX7_runs_100 : decode cX7_runs 100 = .ok (.aload_n 0, 1) := by decide +kernel
theorem dX7_runs_101 : decode cX7_runs 101 = .ok (.bipush 7, 2) := by decide +kernel
theorem dX7_runs_103 : decode cX7_runs 103 = .ok (.invokevirtual 317, 3) := by decide +kernel
theorem dX7_runs_106 : decode cX7_runs 106 = .ok (.goto 18, 3) := by decide +kernel
theorem dX7_runs_109 : decode cX7_runs 109 = .ok (.aload_n 0, 1) := by decide +kernel
theorem dX7_runs_110 : decode cX7_runs 110 = .ok (.bipush 7, 2) := by decide +kernel
theorem dX7_runs_112 : decode cX7_runs 112 = .ok (.invokevirtual 317, 3) := by decide +kernel
theorem dX7_runs_115 : decode cX7_runs 115 = .ok (.iload_n 3, 1) := by decide +kernel
theorem dX7_runs_116 : decode cX7_runs 116 = .ok (.if_icmp .ne 7, 3) := by decide +kernel
theorem dX7_runs_119 : decode cX7_runs 119 = .ok (.iconst 1, 1) := by decide +kernel
theorem dX7_runs_120 : decode cX7_runs 120 = .ok (.goto 4, 3) := by decide +kernel
theorem dX7_runs_123 : decode cX7_runs 123 = .ok (.iconst 0, 1) := by decide +kernel
theorem dX7_runs_124 : decode cX7_runs 124 = .ok (.iadd, 1) := by decide +kernel
theorem dX7_runs_125 : decode cX7_runs 125 = .ok (.istore 4, 2) := by decide +kernel
theorem dX7_runs_127 : decode cX7_runs 127 = .ok (.iinc 5 1, 3) := by decide +kernel
theorem dX7_runs_130 : decode cX7_runs 130 = .ok (.goto (-87), 3) := by decide +kernel
theorem dX7_runs_133 : decode cX7_runs 133 = .ok (.iload 4, 2) := by decide +kernel
theorem dX7_runs_135 : decode cX7_runs 135 = .ok (.ireturn, 1) := by decide +kernel
theorem dX7_back_0 : decode cX7_back 0 = .ok (.aload_n 0, 1) := by decide +kernel
theorem dX7_back_1 : decode cX7_back 1 = .ok (.iconst 0, 1) := by decide +kernel
theorem dX7_back_2 : decode cX7_back 2 = .ok (.putfield 1, 3) := by decide +kernel
theorem dX7_back_5 : decode cX7_back 5 = .ok (.iconst 0, 1) := by decide +kernel
theorem dX7_back_6 : decode cX7_back 6 = .ok (.istore_n 1, 1) := by decide +kernel
theorem dX7_back_7 : decode cX7_back 7 = .ok (.iconst 0, 1) := by decide +kernel
theorem dX7_back_8 : decode cX7_back 8 = .ok (.istore_n 2, 1) := by decide +kernel
theorem dX7_back_9 : decode cX7_back 9 = .ok (.iload_n 2, 1) := by decide +kernel
theorem dX7_back_10 : decode cX7_back 10 = .ok (.aload_n 0, 1) := by decide +kernel
theorem dX7_back_11 : decode cX7_back 11 = .ok (.getfield 146, 3) := by decide +kernel
theorem dX7_back_14 : decode cX7_back 14 = .ok (.iconst 0, 1) := by decide +kernel
theorem dX7_back_15 : decode cX7_back 15 = .ok (.iaload, 1) := by decide +kernel
theorem dX7_back_16 : decode cX7_back 16 = .ok (.if_icmp .ge 44, 3) := by decide +kernel
theorem dX7_back_19 : decode cX7_back 19 = .ok (.aload_n 0, 1) := by decide +kernel
theorem dX7_back_20 : decode cX7_back 20 = .ok (.iconst 0, 1) := by decide +kernel
theorem dX7_back_21 : decode cX7_back 21 = .ok (.iload_n 2, 1) := by decide +kernel
theorem dX7_back_22 : decode cX7_back 22 = .ok (.invokevirtual 372, 3) := by decide +kernel
theorem dX7_back_25 : decode cX7_back 25 = .ok (.ifCond .eq 11, 3) := by decide +kernel
theorem dX7_back_28 : decode cX7_back 28 = .ok (.aload_n 0, 1) := by decide +kernel
theorem dX7_back_29 : decode cX7_back 29 = .ok (.iload_n 2, 1) := by decide +kernel
theorem dX7_back_30 : decode cX7_back 30 = .ok (.invokevirtual 403, 3) := by decide +kernel
theorem dX7_back_33 : decode cX7_back 33 = .ok (.goto 4, 3) := by decide +kernel
theorem dX7_back_36 : decode cX7_back 36 = .ok (.iconst (-1), 1) := by decide +kernel
theorem dX7_back_37 : decode cX7_back 37 = .ok (.istore_n 3, 1) := by decide +kernel
theorem dX7_back_38 : decode cX7_back 38 = .ok (.iload_n 1, 1) := by decide +kernel
theorem dX7_back_39 : decode cX7_back 39 = .ok (.iload_n 3, 1) := by decide +kernel
theorem dX7_back_40 : decode cX7_back 40 = .ok (.ifCond .le 11, 3) := by decide +kernel
theorem dX7_back_43 : decode cX7_back 43 = .ok (.sipush 10000, 3) := by decide +kernel
theorem dX7_back_46 : decode cX7_back 46 = .ok (.iload_n 3, 1) := by decide +kernel
theorem dX7_back_47 : decode cX7_back 47 = .ok (.idiv, 1) := by decide +kernel
theorem dX7_back_48 : decode cX7_back 48 = .ok (.goto 4, 3) := by decide +kernel
theorem dX7_back_51 : decode cX7_back 51 = .ok (.iconst 0, 1) := by decide +kernel
theorem dX7_back_52 : decode cX7_back 52 = .ok (.iadd, 1) := by decide +kernel
theorem dX7_back_53 : decode cX7_back 53 = .ok (.istore_n 1, 1) := by decide +kernel
theorem dX7_back_54 : decode cX7_back 54 = .ok (.iinc 2 1, 3) := by decide +kernel
theorem dX7_back_57 : decode cX7_back 57 = .ok (.goto (-48), 3) := by decide +kernel
theorem dX7_back_60 : decode cX7_back 60 = .ok (.iload_n 1, 1) := by decide +kernel
theorem dX7_back_61 : decode cX7_back 61 = .ok (.ireturn, 1) := by decide +kernel
theorem dX7_told_0 : decode cX7_told 0 = .ok (.aload_n 0, 1) := by decide +kernel
theorem dX7_told_1 : decode cX7_told 1 = .ok (.iconst 0, 1) := by decide +kernel
theorem dX7_told_2 : decode cX7_told 2 = .ok (.putfield 1, 3) := by decide +kernel
theorem dX7_told_5 : decode cX7_told 5 = .ok (.iload_n 1, 1) := by decide +kernel
theorem dX7_told_6 : decode cX7_told 6 = .ok (.iconst 0, 1) := by decide +kernel
theorem dX7_told_7 : decode cX7_told 7 = .ok (.bipush 30, 2) := by decide +kernel
theorem dX7_told_9 : decode cX7_told 9 = .ok (.invokestatic 301, 3) := by decide +kernel
theorem dX7_told_12 : decode cX7_told 12 = .ok (.ifCond .eq 22, 3) := by decide +kernel
theorem dX7_told_15 : decode cX7_told 15 = .ok (.iload_n 2, 1) := by decide +kernel
theorem dX7_told_16 : decode cX7_told 16 = .ok (.iconst 0, 1) := by decide +kernel
theorem dX7_told_17 : decode cX7_told 17 = .ok (.bipush 100, 2) := by decide +kernel
theorem dX7_told_19 : decode cX7_told 19 = .ok (.invokestatic 301, 3) := by decide +kernel
theorem dX7_told_22 : decode cX7_told 22 = .ok (.ifCond .eq 12, 3) := by decide +kernel
theorem dX7_told_25 : decode cX7_told 25 = .ok (.aload_n 0, 1) := by decide +kernel
theorem dX7_told_26 : decode cX7_told 26 = .ok (.getfield 428, 3) := by decide +kernel
theorem dX7_told_29 : decode cX7_told 29 = .ok (.bipush 10, 2) := by decide +kernel
theorem dX7_told_31 : decode cX7_told 31 = .ok (.if_icmp .ne 5, 3) := by decide +kernel
theorem dX7_told_34 : decode cX7_told 34 = .ok (.iconst (-1), 1) := by decide +kernel
theorem dX7_told_35 : decode cX7_told 35 = .ok (.ireturn, 1) := by decide +kernel
theorem dX7_told_36 : decode cX7_told 36 = .ok (.aload_n 0, 1) := by decide +kernel
theorem dX7_told_37 : decode cX7_told 37 = .ok (.getfield 176, 3) := by decide +kernel
theorem dX7_told_40 : decode cX7_told 40 = .ok (.aload_n 0, 1) := by decide +kernel
theorem dX7_told_41 : decode cX7_told 41 = .ok (.getfield 428, 3) := by decide +kernel
theorem dX7_told_44 : decode cX7_told 44 = .ok (.iload_n 1, 1) := by decide +kernel
theorem dX7_told_45 : decode cX7_told 45 = .ok (.iastore, 1) := by decide +kernel
theorem dX7_told_46 : decode cX7_told 46 = .ok (.aload_n 0, 1) := by decide +kernel
theorem dX7_told_47 : decode cX7_told 47 = .ok (.getfield 179, 3) := by decide +kernel
theorem dX7_told_50 : decode cX7_told 50 = .ok (.aload_n 0, 1) := by decide +kernel
theorem dX7_told_51 : decode cX7_told 51 = .ok (.getfield 428, 3) := by decide +kernel
theorem dX7_told_54 : decode cX7_told 54 = .ok (.iload_n 2, 1) := by decide +kernel
theorem dX7_told_55 : decode cX7_told 55 = .ok (.iastore, 1) := by decide +kernel
theorem dX7_told_56 : decode cX7_told 56 = .ok (.aload_n 0, 1) := by decide +kernel
theorem dX7_told_57 : decode cX7_told 57 = .ok (.dup, 1) := by decide +kernel
theorem dX7_told_58 : decode cX7_told 58 = .ok (.getfield 428, 3) := by decide +kernel
theorem dX7_told_61 : decode cX7_told 61 = .ok (.iconst 1, 1) := by decide +kernel
theorem dX7_told_62 : decode cX7_told 62 = .ok (.iadd, 1) := by decide +kernel
theorem dX7_told_63 : decode cX7_told 63 = .ok (.putfield 428, 3) := by decide +kernel
theorem dX7_told_66 : decode cX7_told 66 = .ok (.aload_n 0, 1) := by decide +kernel
theorem dX7_told_67 : decode cX7_told 67 = .ok (.getfield 428, 3) := by decide +kernel
theorem dX7_told_70 : decode cX7_told 70 = .ok (.iconst 1, 1) := by decide +kernel
theorem dX7_told_71 : decode cX7_told 71 = .ok (.isub, 1) := by decide +kernel
theorem dX7_told_72 : decode cX7_told 72 = .ok (.ireturn, 1) := by decide +kernel
theorem dX7_forget_0 : decode cX7_forget 0 = .ok (.aload_n 0, 1) := by decide +kernel
theorem dX7_forget_1 : decode cX7_forget 1 = .ok (.iconst 0, 1) := by decide +kernel
theorem dX7_forget_2 : decode cX7_forget 2 = .ok (.putfield 1, 3) := by decide +kernel
theorem dX7_forget_5 : decode cX7_forget 5 = .ok (.aload_n 0, 1) := by decide +kernel
theorem dX7_forget_6 : decode cX7_forget 6 = .ok (.getfield 428, 3) := by decide +kernel
theorem dX7_forget_9 : decode cX7_forget 9 = .ok (.istore_n 1, 1) := by decide +kernel
theorem dX7_forget_10 : decode cX7_forget 10 = .ok (.aload_n 0, 1) := by decide +kernel
theorem dX7_forget_11 : decode cX7_forget 11 = .ok (.iconst 0, 1) := by decide +kernel
theorem dX7_forget_12 : decode cX7_forget 12 = .ok (.putfield 428, 3) := by decide +kernel
theorem dX7_forget_15 : decode cX7_forget 15 = .ok (.iload_n 1, 1) := by decide +kernel
theorem dX7_forget_16 : decode cX7_forget 16 = .ok (.ireturn, 1) := by decide +kernel
theorem dX7_isFit_0 : decode cX7_isFit 0 = .ok (.aload_n 0, 1) := by decide +kernel
theorem dX7_isFit_1 : decode cX7_isFit 1 = .ok (.iload_n 1, 1) := by decide +kernel
theorem dX7_isFit_2 : decode cX7_isFit 2 = .ok (.iconst 0, 1) := by decide +kernel
theorem dX7_isFit_3 : decode cX7_isFit 3 = .ok (.invokevirtual 422, 3) := by decide +kernel
theorem dX7_isFit_6 : decode cX7_isFit 6 = .ok (.iconst 1, 1) := by decide +kernel
theorem dX7_isFit_7 : decode cX7_isFit 7 = .ok (.istore_n 2, 1) := by decide +kernel
theorem dX7_isFit_8 : decode cX7_isFit 8 = .ok (.iconst 0, 1) := by decide +kernel
theorem dX7_isFit_9 : decode cX7_isFit 9 = .ok (.istore_n 3, 1) := by decide +kernel
theorem dX7_isFit_10 : decode cX7_isFit 10 = .ok (.iconst 0, 1) := by decide +kernel
theorem dX7_isFit_11 : decode cX7_isFit 11 = .ok (.istore 4, 2) := by decide +kernel
theorem dX7_isFit_13 : decode cX7_isFit 13 = .ok (.iload 4, 2) := by decide +kernel
theorem dX7_isFit_15 : decode cX7_isFit 15 = .ok (.aload_n 0, 1) := by decide +kernel
theorem dX7_isFit_16 : decode cX7_isFit 16 = .ok (.getfield 428, 3) := by decide +kernel
theorem dX7_isFit_19 : decode cX7_isFit 19 = .ok (.if_icmp .ge 32, 3) := by decide +kernel
theorem dX7_isFit_22 : decode cX7_isFit 22 = .ok (.aload_n 0, 1) := by decide +kernel
theorem dX7_isFit_23 : decode cX7_isFit 23 = .ok (.getfield 179, 3) := by decide +kernel
theorem dX7_isFit_26 : decode cX7_isFit 26 = .ok (.iload 4, 2) := by decide +kernel
theorem dX7_isFit_28 : decode cX7_isFit 28 = .ok (.iaload, 1) := by decide +kernel
theorem dX7_isFit_29 : decode cX7_isFit 29 = .ok (.iload_n 3, 1) := by decide +kernel
theorem dX7_isFit_30 : decode cX7_isFit 30 = .ok (.if_icmp .le 13, 3) := by decide +kernel
theorem dX7_isFit_33 : decode cX7_isFit 33 = .ok (.aload_n 0, 1) := by decide +kernel
theorem dX7_isFit_34 : decode cX7_isFit 34 = .ok (.getfield 179, 3) := by decide +kernel
theorem dX7_isFit_37 : decode cX7_isFit 37 = .ok (.iload 4, 2) := by decide +kernel
theorem dX7_isFit_39 : decode cX7_isFit 39 = .ok (.iaload, 1) := by decide +kernel
theorem dX7_isFit_40 : decode cX7_isFit 40 = .ok (.goto 4, 3) := by decide +kernel
theorem dX7_isFit_43 : decode cX7_isFit 43 = .ok (.iload_n 3, 1) := by decide +kernel
theorem dX7_isFit_44 : decode cX7_isFit 44 = .ok (.istore_n 3, 1) := by decide +kernel
theorem dX7_isFit_45 : decode cX7_isFit 45 = .ok (.iinc 4 1, 3) := by decide +kernel
theorem dX7_isFit_48 : decode cX7_isFit 48 = .ok (.goto (-35), 3) := by decide +kernel
theorem dX7_isFit_51 : decode cX7_isFit 51 = .ok (.iconst 0, 1) := by decide +kernel
theorem dX7_isFit_52 : decode cX7_isFit 52 = .ok (.istore 4, 2) := by decide +kernel
theorem dX7_isFit_54 : decode cX7_isFit 54 = .ok (.iload 4, 2) := by decide +kernel
theorem dX7_isFit_56 : decode cX7_isFit 56 = .ok (.iload_n 3, 1) := by decide +kernel
theorem dX7_isFit_57 : decode cX7_isFit 57 = .ok (.if_icmp .gt 85, 3) := by decide +kernel
theorem dX7_isFit_60 : decode cX7_isFit 60 = .ok (.iload_n 2, 1) := by decide +kernel
theorem dX7_isFit_61 : decode cX7_isFit 61 = .ok (.ifCond .eq 81, 3) := by decide +kernel
theorem dX7_isFit_64 : decode cX7_isFit 64 = .ok (.iconst 0, 1) := by decide +kernel
theorem dX7_isFit_65 : decode cX7_isFit 65 = .ok (.istore 5, 2) := by decide +kernel
theorem dX7_isFit_67 : decode cX7_isFit 67 = .ok (.iload 5, 2) := by decide +kernel
theorem dX7_isFit_69 : decode cX7_isFit 69 = .ok (.aload_n 0, 1) := by decide +kernel
theorem dX7_isFit_70 : decode cX7_isFit 70 = .ok (.getfield 428, 3) := by decide +kernel
theorem dX7_isFit_73 : decode cX7_isFit 73 = .ok (.if_icmp .ge 47, 3) := by decide +kernel
theorem dX7_isFit_76 : decode cX7_isFit 76 = .ok (.iload_n 2, 1) := by decide +kernel
theorem dX7_isFit_77 : decode cX7_isFit 77 = .ok (.ifCond .eq 35, 3) := by decide +kernel
theorem dX7_isFit_80 : decode cX7_isFit 80 = .ok (.aload_n 0, 1) := by decide +kernel
theorem dX7_isFit_81 : decode cX7_isFit 81 = .ok (.getfield 179, 3) := by decide +kernel
theorem dX7_isFit_84 : decode cX7_isFit 84 = .ok (.iload 5, 2) := by decide +kernel
theorem dX7_isFit_86 : decode cX7_isFit 86 = .ok (.iaload, 1) := by decide +kernel
theorem dX7_isFit_87 : decode cX7_isFit 87 = .ok (.iload 4, 2) := by decide +kernel
theorem dX7_isFit_89 : decode cX7_isFit 89 = .ok (.if_icmp .ne 19, 3) := by decide +kernel
theorem dX7_isFit_92 : decode cX7_isFit 92 = .ok (.aload_n 0, 1) := by decide +kernel
theorem dX7_isFit_93 : decode cX7_isFit 93 = .ok (.bipush 7, 2) := by decide +kernel
theorem dX7_isFit_95 : decode cX7_isFit 95 = .ok (.invokevirtual 317, 3) := by decide +kernel
theorem dX7_isFit_98 : decode cX7_isFit 98 = .ok (.aload_n 0, 1) := by decide +kernel
theorem dX7_isFit_99 : decode cX7_isFit 99 = .ok (.getfield 176, 3) := by decide +kernel
theorem dX7_isFit_102 : decode cX7_isFit 102 = .ok (.iload 5, 2) := by decide +kernel
theorem dX7_isFit_104 : decode cX7_isFit 104 = .ok (.iaload, 1) := by decide +kernel
theorem dX7_isFit_105 : decode cX7_isFit 105 = .ok (.if_icmp .ne 7, 3) := by decide +kernel
theorem dX7_isFit_108 : decode cX7_isFit 108 = .ok (.iconst 1, 1) := by decide +kernel
theorem dX7_isFit_109 : decode cX7_isFit 109 = .ok (.goto 4, 3) := by decide +kernel
theorem dX7_isFit_112 : decode cX7_isFit 112 = .ok (.iconst 0, 1) := by decide +kernel
theorem dX7_isFit_113 : decode cX7_isFit 113 = .ok (.istore_n 2, 1) := by decide +kernel
theorem dX7_isFit_114 : decode cX7_isFit 114 = .ok (.iinc 5 1, 3) := by decide +kernel
theorem dX7_isFit_117 : decode cX7_isFit 117 = .ok (.goto (-50), 3) := by decide +kernel
theorem dX7_isFit_120 : decode cX7_isFit 120 = .ok (.iload 4, 2) := by decide +kernel
theorem dX7_isFit_122 : decode cX7_isFit 122 = .ok (.iload_n 3, 1) := by decide +kernel
theorem dX7_isFit_123 : decode cX7_isFit 123 = .ok (.if_icmp .ge 13, 3) := by decide +kernel
theorem dX7_isFit_126 : decode cX7_isFit 126 = .ok (.iload_n 2, 1) := by decide +kernel
theorem dX7_isFit_127 : decode cX7_isFit 127 = .ok (.ifCond .eq 9, 3) := by decide +kernel
theorem dX7_isFit_130 : decode cX7_isFit 130 = .ok (.aload_n 0, 1) := by decide +kernel
theorem dX7_isFit_131 : decode cX7_isFit 131 = .ok (.bipush 7, 2) := by decide +kernel
theorem dX7_isFit_133 : decode cX7_isFit 133 = .ok (.invokevirtual 394, 3) := by decide +kernel
theorem dX7_isFit_136 : decode cX7_isFit 136 = .ok (.iinc 4 1, 3) := by decide +kernel
theorem dX7_isFit_139 : decode cX7_isFit 139 = .ok (.goto (-85), 3) := by decide +kernel
theorem dX7_isFit_142 : decode cX7_isFit 142 = .ok (.iload_n 2, 1) := by decide +kernel
theorem dX7_isFit_143 : decode cX7_isFit 143 = .ok (.ireturn, 1) := by decide +kernel
theorem dX7_fits_0 : decode cX7_fits 0 = .ok (.aload_n 0, 1) := by decide +kernel
theorem dX7_fits_1 : decode cX7_fits 1 = .ok (.iconst 0, 1) := by decide +kernel
theorem dX7_fits_2 : decode cX7_fits 2 = .ok (.putfield 1, 3) := by decide +kernel
theorem dX7_fits_5 : decode cX7_fits 5 = .ok (.aload_n 0, 1) := by decide +kernel
theorem dX7_fits_6 : decode cX7_fits 6 = .ok (.iload_n 1, 1) := by decide +kernel
theorem dX7_fits_7 : decode cX7_fits 7 = .ok (.invokevirtual 311, 3) := by decide +kernel
theorem dX7_fits_10 : decode cX7_fits 10 = .ok (.ifCond .ne 7, 3) := by decide +kernel
theorem dX7_fits_13 : decode cX7_fits 13 = .ok (.iconst (-1), 1) := by decide +kernel
theorem dX7_fits_14 : decode cX7_fits 14 = .ok (.goto 16, 3) := by decide +kernel
theorem dX7_fits_17 : decode cX7_fits 17 = .ok (.aload_n 0, 1) := by decide +kernel
theorem dX7_fits_18 : decode cX7_fits 18 = .ok (.iload_n 1, 1) := by decide +kernel
theorem dX7_fits_19 : decode cX7_fits 19 = .ok (.invokevirtual 431, 3) := by decide +kernel
theorem dX7_fits_22 : decode cX7_fits 22 = .ok (.ifCond .eq 7, 3) := by decide +kernel
theorem dX7_fits_25 : decode cX7_fits 25 = .ok (.iconst 1, 1) := by decide +kernel
theorem dX7_fits_26 : decode cX7_fits 26 = .ok (.goto 4, 3) := by decide +kernel
theorem dX7_fits_29 : decode cX7_fits 29 = .ok (.iconst 0, 1) := by decide +kernel
theorem dX7_fits_30 : decode cX7_fits 30 = .ok (.ireturn, 1) := by decide +kernel
theorem dX7_barred_0 : decode cX7_barred 0 = .ok (.aload_n 0, 1) := by decide +kernel
theorem dX7_barred_1 : decode cX7_barred 1 = .ok (.iconst 0, 1) := by decide +kernel
theorem dX7_barred_2 : decode cX7_barred 2 = .ok (.putfield 1, 3) := by decide +kernel
theorem dX7_barred_5 : decode cX7_barred 5 = .ok (.iload_n 1, 1) := by decide +kernel
theorem dX7_barred_6 : decode cX7_barred 6 = .ok (.iconst 0, 1) := by decide +kernel
theorem dX7_barred_7 : decode cX7_barred 7 = .ok (.aload_n 0, 1) := by decide +kernel
theorem dX7_barred_8 : decode cX7_barred 8 = .ok (.getfield 101, 3) := by decide +kernel
theorem dX7_barred_11 : decode cX7_barred 11 = .ok (.aload_n 0, 1) := by decide +kernel
theorem dX7_barred_12 : decode cX7_barred 12 = .ok (.getfield 243, 3) := by decide +kernel
theorem dX7_barred_15 : decode cX7_barred 15 = .ok (.iaload, 1) := by decide +kernel
theorem dX7_barred_16 : decode cX7_barred 16 = .ok (.iconst 1, 1) := by decide +kernel
theorem dX7_barred_17 : decode cX7_barred 17 = .ok (.isub, 1) := by decide +kernel
theorem dX7_barred_18 : decode cX7_barred 18 = .ok (.invokestatic 301, 3) := by decide +kernel
theorem dX7_barred_21 : decode cX7_barred 21 = .ok (.ifCond .eq 12, 3) := by decide +kernel
theorem dX7_barred_24 : decode cX7_barred 24 = .ok (.iload_n 2, 1) := by decide +kernel
theorem dX7_barred_25 : decode cX7_barred 25 = .ok (.iconst 0, 1) := by decide +kernel
theorem dX7_barred_26 : decode cX7_barred 26 = .ok (.iconst 1, 1) := by decide +kernel
theorem dX7_barred_27 : decode cX7_barred 27 = .ok (.invokestatic 301, 3) := by decide +kernel
theorem dX7_barred_30 : decode cX7_barred 30 = .ok (.ifCond .ne 5, 3) := by decide +kernel
theorem dX7_barred_33 : decode cX7_barred 33 = .ok (.iconst (-1), 1) := by decide +kernel
theorem dX7_barred_34 : decode cX7_barred 34 = .ok (.ireturn, 1) := by decide +kernel
theorem dX7_barred_35 : decode cX7_barred 35 = .ok (.iconst 0, 1) := by decide +kernel
theorem dX7_barred_36 : decode cX7_barred 36 = .ok (.istore_n 3, 1) := by decide +kernel
theorem dX7_barred_37 : decode cX7_barred 37 = .ok (.iload_n 3, 1) := by decide +kernel
theorem dX7_barred_38 : decode cX7_barred 38 = .ok (.iconst 1, 1) := by decide +kernel
theorem dX7_barred_39 : decode cX7_barred 39 = .ok (.aload_n 0, 1) := by decide +kernel
theorem dX7_barred_40 : decode cX7_barred 40 = .ok (.getfield 101, 3) := by decide +kernel
theorem dX7_barred_43 : decode cX7_barred 43 = .ok (.aload_n 0, 1) := by decide +kernel
theorem dX7_barred_44 : decode cX7_barred 44 = .ok (.getfield 243, 3) := by decide +kernel
theorem dX7_barred_47 : decode cX7_barred 47 = .ok (.iaload, 1) := by decide +kernel
theorem dX7_barred_48 : decode cX7_barred 48 = .ok (.ishl, 1) := by decide +kernel
theorem dX7_barred_49 : decode cX7_barred 49 = .ok (.if_icmp .ge 28, 3) := by decide +kernel
theorem dX7_barred_52 : decode cX7_barred 52 = .ok (.iload_n 3, 1) := by decide +kernel
theorem dX7_barred_53 : decode cX7_barred 53 = .ok (.iload_n 1, 1) := by decide +kernel
theorem dX7_barred_54 : decode cX7_barred 54 = .ok (.ishr, 1) := by decide +kernel
theorem dX7_barred_55 : decode cX7_barred 55 = .ok (.iconst 1, 1) := by decide +kernel
theorem dX7_barred_56 : decode cX7_barred 56 = .ok (.iand, 1) := by decide +kernel
theorem dX7_barred_57 : decode cX7_barred 57 = .ok (.iload_n 2, 1) := by decide +kernel
theorem dX7_barred_58 : decode cX7_barred 58 = .ok (.if_icmp .ne 13, 3) := by decide +kernel
theorem dX7_barred_61 : decode cX7_barred 61 = .ok (.aload_n 0, 1) := by decide +kernel
theorem dX7_barred_62 : decode cX7_barred 62 = .ok (.iload_n 3, 1) := by decide +kernel
theorem dX7_barred_63 : decode cX7_barred 63 = .ok (.invokevirtual 431, 3) := by decide +kernel
theorem dX7_barred_66 : decode cX7_barred 66 = .ok (.ifCond .eq 5, 3) := by decide +kernel
theorem dX7_barred_69 : decode cX7_barred 69 = .ok (.iconst 0, 1) := by decide +kernel
theorem dX7_barred_70 : decode cX7_barred 70 = .ok (.ireturn, 1) := by decide +kernel
theorem dX7_barred_71 : decode cX7_barred 71 = .ok (.iinc 3 1, 3) := by decide +kernel
theorem dX7_barred_74 : decode cX7_barred 74 = .ok (.goto (-37), 3) := by decide +kernel
theorem dX7_barred_77 : decode cX7_barred 77 = .ok (.iconst 1, 1) := by decide +kernel
theorem dX7_barred_78 : decode cX7_barred 78 = .ok (.ireturn, 1) := by decide +kernel
theorem dX7_mark_0 : decode cX7_mark 0 = .ok (.aload_n 0, 1) := by decide +kernel
theorem dX7_mark_1 : decode cX7_mark 1 = .ok (.iconst 0, 1) := by decide +kernel
theorem dX7_mark_2 : decode cX7_mark 2 = .ok (.putfield 1, 3) := by decide +kernel
theorem dX7_mark_5 : decode cX7_mark 5 = .ok (.iload_n 1, 1) := by decide +kernel
theorem dX7_mark_6 : decode cX7_mark 6 = .ok (.iconst 0, 1) := by decide +kernel
theorem dX7_mark_7 : decode cX7_mark 7 = .ok (.iconst 5, 1) := by decide +kernel
theorem dX7_mark_8 : decode cX7_mark 8 = .ok (.invokestatic 301, 3) := by decide +kernel
theorem dX7_mark_11 : decode cX7_mark 11 = .ok (.ifCond .eq 16, 3) := by decide +kernel
theorem dX7_mark_14 : decode cX7_mark 14 = .ok (.iload_n 2, 1) := by decide +kernel
theorem dX7_mark_15 : decode cX7_mark 15 = .ok (.ifCond .eq 14, 3) := by decide +kernel
theorem dX7_mark_18 : decode cX7_mark 18 = .ok (.aload_n 0, 1) := by decide +kernel
theorem dX7_mark_19 : decode cX7_mark 19 = .ok (.getfield 182, 3) := by decide +kernel
theorem dX7_mark_22 : decode cX7_mark 22 = .ok (.iload_n 1, 1) := by decide +kernel
theorem dX7_mark_23 : decode cX7_mark 23 = .ok (.baload, 1) := by decide +kernel
theorem dX7_mark_24 : decode cX7_mark 24 = .ok (.ifCond .ne 5, 3) := by decide +kernel
theorem dX7_mark_27 : decode cX7_mark 27 = .ok (.iconst 0, 1) := by decide +kernel
theorem dX7_mark_28 : decode cX7_mark 28 = .ok (.ireturn, 1) := by decide +kernel
theorem dX7_mark_29 : decode cX7_mark 29 = .ok (.aload_n 0, 1) := by decide +kernel
theorem dX7_mark_30 : decode cX7_mark 30 = .ok (.iload_n 2, 1) := by decide +kernel
theorem dX7_mark_31 : decode cX7_mark 31 = .ok (.ifCond .eq 9, 3) := by decide +kernel
theorem dX7_mark_34 : decode cX7_mark 34 = .ok (.iconst 1, 1) := by decide +kernel
theorem dX7_mark_35 : decode cX7_mark 35 = .ok (.iload_n 1, 1) := by decide +kernel
theorem dX7_mark_36 : decode cX7_mark 36 = .ok (.iadd, 1) := by decide +kernel
theorem dX7_mark_37 : decode cX7_mark 37 = .ok (.goto 4, 3) := by decide +kernel
theorem dX7_mark_40 : decode cX7_mark 40 = .ok (.iconst 0, 1) := by decide +kernel
theorem dX7_mark_41 : decode cX7_mark 41 = .ok (.iload_n 2, 1) := by decide +kernel
theorem dX7_mark_42 : decode cX7_mark 42 = .ok (.ifCond .eq 7, 3) := by decide +kernel
theorem dX7_mark_45 : decode cX7_mark 45 = .ok (.iconst 0, 1) := by decide +kernel
theorem dX7_mark_46 : decode cX7_mark 46 = .ok (.goto 6, 3) := by decide +kernel
theorem dX7_mark_49 : decode cX7_mark 49 = .ok (.iconst 1, 1) := by decide +kernel
theorem dX7_mark_50 : decode cX7_mark 50 = .ok (.iload_n 1, 1) := by decide +kernel
theorem dX7_mark_51 : decode cX7_mark 51 = .ok (.iadd, 1) := by decide +kernel
theorem dX7_mark_52 : decode cX7_mark 52 = .ok (.invokevirtual 415, 3) := by decide +kernel
theorem dX7_mark_55 : decode cX7_mark 55 = .ok (.aload_n 0, 1) := by decide +kernel
theorem dX7_mark_56 : decode cX7_mark 56 = .ok (.getfield 182, 3) := by decide +kernel
theorem dX7_mark_59 : decode cX7_mark 59 = .ok (.iload_n 1, 1) := by decide +kernel
theorem dX7_mark_60 : decode cX7_mark 60 = .ok (.iconst 1, 1) := by decide +kernel
theorem dX7_mark_61 : decode cX7_mark 61 = .ok (.bastore, 1) := by decide +kernel
theorem dX7_mark_62 : decode cX7_mark 62 = .ok (.iconst 1, 1) := by decide +kernel
theorem dX7_mark_63 : decode cX7_mark 63 = .ok (.ireturn, 1) := by decide +kernel
theorem dX7_traps_0 : decode cX7_traps 0 = .ok (.iconst 0, 1) := by decide +kernel
theorem dX7_traps_1 : decode cX7_traps 1 = .ok (.istore_n 1, 1) := by decide +kernel
theorem dX7_traps_2 : decode cX7_traps 2 = .ok (.iconst 0, 1) := by decide +kernel
theorem dX7_traps_3 : decode cX7_traps 3 = .ok (.istore_n 2, 1) := by decide +kernel
theorem dX7_traps_4 : decode cX7_traps 4 = .ok (.iload_n 2, 1) := by decide +kernel
theorem dX7_traps_5 : decode cX7_traps 5 = .ok (.aload_n 0, 1) := by decide +kernel
theorem dX7_traps_6 : decode cX7_traps 6 = .ok (.getfield 116, 3) := by decide +kernel
theorem dX7_traps_9 : decode cX7_traps 9 = .ok (.iconst 0, 1) := by decide +kernel
theorem dX7_traps_10 : decode cX7_traps 10 = .ok (.iaload, 1) := by decide +kernel
theorem dX7_traps_11 : decode cX7_traps 11 = .ok (.if_icmp .ge 26, 3) := by decide +kernel
theorem dX7_traps_14 : decode cX7_traps 14 = .ok (.iload_n 1, 1) := by decide +kernel
theorem dX7_traps_15 : decode cX7_traps 15 = .ok (.aload_n 0, 1) := by decide +kernel
theorem dX7_traps_16 : decode cX7_traps 16 = .ok (.iconst 0, 1) := by decide +kernel
theorem dX7_traps_17 : decode cX7_traps 17 = .ok (.iload_n 2, 1) := by decide +kernel
theorem dX7_traps_18 : decode cX7_traps 18 = .ok (.invokevirtual 382, 3) := by decide +kernel
theorem dX7_traps_21 : decode cX7_traps 21 = .ok (.ifCond .ne 7, 3) := by decide +kernel
theorem dX7_traps_24 : decode cX7_traps 24 = .ok (.iconst 1, 1) := by decide +kernel
theorem dX7_traps_25 : decode cX7_traps 25 = .ok (.goto 4, 3) := by decide +kernel
theorem dX7_traps_28 : decode cX7_traps 28 = .ok (.iconst 0, 1) := by decide +kernel
theorem dX7_traps_29 : decode cX7_traps 29 = .ok (.iadd, 1) := by decide +kernel
theorem dX7_traps_30 : decode cX7_traps 30 = .ok (.istore_n 1, 1) := by decide +kernel
theorem dX7_traps_31 : decode cX7_traps 31 = .ok (.iinc 2 1, 3) := by decide +kernel
theorem dX7_traps_34 : decode cX7_traps 34 = .ok (.goto (-30), 3) := by decide +kernel
theorem dX7_traps_37 : decode cX7_traps 37 = .ok (.iload_n 1, 1) := by decide +kernel
theorem dX7_traps_38 : decode cX7_traps 38 = .ok (.ireturn, 1) := by decide +kernel
theorem dX7_families_0 : decode cX7_families 0 = .ok (.iconst 0, 1) := by decide +kernel
theorem dX7_families_1 : decode cX7_families 1 = .ok (.istore_n 1, 1) := by decide +kernel
theorem dX7_families_2 : decode cX7_families 2 = .ok (.iconst 0, 1) := by decide +kernel
theorem dX7_families_3 : decode cX7_families 3 = .ok (.istore_n 2, 1) := by decide +kernel
theorem dX7_families_4 : decode cX7_families 4 = .ok (.iload_n 2, 1) := by decide +kernel
theorem dX7_families_5 : decode cX7_families 5 = .ok (.aload_n 0, 1) := by decide +kernel
theorem dX7_families_6 : decode cX7_families 6 = .ok (.getfield 146, 3) := by decide +kernel
theorem dX7_families_9 : decode cX7_families 9 = .ok (.iconst 0, 1) := by decide +kernel
theorem dX7_families_10 : decode cX7_families 10 = .ok (.iaload, 1) := by decide +kernel
theorem dX7_families_11 : decode cX7_families 11 = .ok (.if_icmp .ge 42, 3) := by decide +kernel
theorem dX7_families_14 : decode cX7_families 14 = .ok (.iload_n 1, 1) := by decide +kernel
theorem dX7_families_15 : decode cX7_families 15 = .ok (.aload_n 0, 1) := by decide +kernel
theorem dX7_families_16 : decode cX7_families 16 = .ok (.iconst 0, 1) := by decide +kernel
theorem dX7_families_17 : decode cX7_families 17 = .ok (.iload_n 2, 1) := by decide +kernel
theorem dX7_families_18 : decode cX7_families 18 = .ok (.invokevirtual 372, 3) := by decide +kernel
theorem dX7_families_21 : decode cX7_families 21 = .ok (.ifCond .eq 23, 3) := by decide +kernel
theorem dX7_families_24 : decode cX7_families 24 = .ok (.aload_n 0, 1) := by decide +kernel
theorem dX7_families_25 : decode cX7_families 25 = .ok (.iconst 0, 1) := by decide +kernel
theorem dX7_families_26 : decode cX7_families 26 = .ok (.iload_n 2, 1) := by decide +kernel
theorem dX7_families_27 : decode cX7_families 27 = .ok (.invokevirtual 400, 3) := by decide +kernel
theorem dX7_families_30 : decode cX7_families 30 = .ok (.ifCond .lt 14, 3) := by decide +kernel
theorem dX7_families_33 : decode cX7_families 33 = .ok (.iconst 1, 1) := by decide +kernel
theorem dX7_families_34 : decode cX7_families 34 = .ok (.aload_n 0, 1) := by decide +kernel
theorem dX7_families_35 : decode cX7_families 35 = .ok (.iconst 0, 1) := by decide +kernel
theorem dX7_families_36 : decode cX7_families 36 = .ok (.iload_n 2, 1) := by decide +kernel
theorem dX7_families_37 : decode cX7_families 37 = .ok (.invokevirtual 400, 3) := by decide +kernel
theorem dX7_families_40 : decode cX7_families 40 = .ok (.ishl, 1) := by decide +kernel
theorem dX7_families_41 : decode cX7_families 41 = .ok (.goto 4, 3) := by decide +kernel
theorem dX7_families_44 : decode cX7_families 44 = .ok (.iconst 0, 1) := by decide +kernel
theorem dX7_families_45 : decode cX7_families 45 = .ok (.ior, 1) := by decide +kernel
theorem dX7_families_46 : decode cX7_families 46 = .ok (.istore_n 1, 1) := by decide +kernel
theorem dX7_families_47 : decode cX7_families 47 = .ok (.iinc 2 1, 3) := by decide +kernel
theorem dX7_families_50 : decode cX7_families 50 = .ok (.goto (-46), 3) := by decide +kernel
theorem dX7_families_53 : decode cX7_families 53 = .ok (.iconst 0, 1) := by decide +kernel
theorem dX7_families_54 : decode cX7_families 54 = .ok (.istore_n 2, 1) := by decide +kernel
theorem dX7_families_55 : decode cX7_families 55 = .ok (.iconst 0, 1) := by decide +kernel
theorem dX7_families_56 : decode cX7_families 56 = .ok (.istore_n 3, 1) := by decide +kernel
theorem dX7_families_57 : decode cX7_families 57 = .ok (.iload_n 3, 1) := by decide +kernel
theorem dX7_families_58 : decode cX7_families 58 = .ok (.bipush 12, 2) := by decide +kernel
theorem dX7_families_60 : decode cX7_families 60 = .ok (.if_icmp .ge 17, 3) := by decide +kernel
theorem dX7_families_63 : decode cX7_families 63 = .ok (.iload_n 2, 1) := by decide +kernel
theorem dX7_families_64 : decode cX7_families 64 = .ok (.iload_n 1, 1) := by decide +kernel
theorem dX7_families_65 : decode cX7_families 65 = .ok (.iload_n 3, 1) := by decide +kernel
theorem dX7_families_66 : decode cX7_families 66 = .ok (.ishr, 1) := by decide +kernel
theorem dX7_families_67 : decode cX7_families 67 = .ok (.iconst 1, 1) := by decide +kernel
theorem dX7_families_68 : decode cX7_families 68 = .ok (.iand, 1) := by decide +kernel
theorem dX7_families_69 : decode cX7_families 69 = .ok (.iadd, 1) := by decide +kernel
theorem dX7_families_70 : decode cX7_families 70 = .ok (.istore_n 2, 1) := by decide +kernel
theorem dX7_families_71 : decode cX7_families 71 = .ok (.iinc 3 1, 3) := by decide +kernel
theorem dX7_families_74 : decode cX7_families 74 = .ok (.goto (-17), 3) := by decide +kernel
theorem dX7_families_77 : decode cX7_families 77 = .ok (.iload_n 2, 1) := by decide +kernel
theorem dX7_families_78 : decode cX7_families 78 = .ok (.ireturn, 1) := by decide +kernel
theorem dX7_count_0 : decode cX7_count 0 = .ok (.aload_n 0, 1) := by decide +kernel
theorem dX7_count_1 : decode cX7_count 1 = .ok (.iconst 0, 1) := by decide +kernel
theorem dX7_count_2 : decode cX7_count 2 = .ok (.putfield 1, 3) := by decide +kernel
theorem dX7_count_5 : decode cX7_count 5 = .ok (.iload_n 1, 1) := by decide +kernel
theorem dX7_count_6 : decode cX7_count 6 = .ok (.tableswitch 130 0 10 #[58, 65, 72, 79, 85, 95, 105, 110, 115, 120, 125], 58) := by decide +kernel
theorem dX7_count_64 : decode cX7_count 64 = .ok (.aload_n 0, 1) := by decide +kernel
theorem dX7_count_65 : decode cX7_count 65 = .ok (.getfield 137, 3) := by decide +kernel
theorem dX7_count_68 : decode cX7_count 68 = .ok (.iconst 0, 1) := by decide +kernel
theorem dX7_count_69 : decode cX7_count 69 = .ok (.iaload, 1) := by decide +kernel
theorem dX7_count_70 : decode cX7_count 70 = .ok (.ireturn, 1) := by decide +kernel
theorem dX7_count_71 : decode cX7_count 71 = .ok (.aload_n 0, 1) := by decide +kernel
theorem dX7_count_72 : decode cX7_count 72 = .ok (.getfield 116, 3) := by decide +kernel
theorem dX7_count_75 : decode cX7_count 75 = .ok (.iconst 0, 1) := by decide +kernel
theorem dX7_count_76 : decode cX7_count 76 = .ok (.iaload, 1) := by decide +kernel
theorem dX7_count_77 : decode cX7_count 77 = .ok (.ireturn, 1) := by decide +kernel
theorem dX7_count_78 : decode cX7_count 78 = .ok (.aload_n 0, 1) := by decide +kernel
theorem dX7_count_79 : decode cX7_count 79 = .ok (.getfield 146, 3) := by decide +kernel
theorem dX7_count_82 : decode cX7_count 82 = .ok (.iconst 0, 1) := by decide +kernel
theorem dX7_count_83 : decode cX7_count 83 = .ok (.iaload, 1) := by decide +kernel
theorem dX7_count_84 : decode cX7_count 84 = .ok (.ireturn, 1) := by decide +kernel
theorem dX7_count_85 : decode cX7_count 85 = .ok (.aload_n 0, 1) := by decide +kernel
theorem dX7_count_86 : decode cX7_count 86 = .ok (.iconst 0, 1) := by decide +kernel
theorem dX7_count_87 : decode cX7_count 87 = .ok (.invokevirtual 317, 3) := by decide +kernel
theorem dX7_count_90 : decode cX7_count 90 = .ok (.ireturn, 1) := by decide +kernel
theorem dX7_count_91 : decode cX7_count 91 = .ok (.aload_n 0, 1) := by decide +kernel
theorem dX7_count_92 : decode cX7_count 92 = .ok (.getfield 83, 3) := by decide +kernel
theorem dX7_count_95 : decode cX7_count 95 = .ok (.aload_n 0, 1) := by decide +kernel
theorem dX7_count_96 : decode cX7_count 96 = .ok (.getfield 243, 3) := by decide +kernel
theorem dX7_count_99 : decode cX7_count 99 = .ok (.iaload, 1) := by decide +kernel
theorem dX7_count_100 : decode cX7_count 100 = .ok (.ireturn, 1) := by decide +kernel
theorem dX7_count_101 : decode cX7_count 101 = .ok (.aload_n 0, 1) := by decide +kernel
theorem dX7_count_102 : decode cX7_count 102 = .ok (.getfield 101, 3) := by decide +kernel
theorem dX7_count_105 : decode cX7_count 105 = .ok (.aload_n 0, 1) := by decide +kernel
theorem dX7_count_106 : decode cX7_count 106 = .ok (.getfield 243, 3) := by decide +kernel
theorem dX7_count_109 : decode cX7_count 109 = .ok (.iaload, 1) := by decide +kernel
theorem dX7_count_110 : decode cX7_count 110 = .ok (.ireturn, 1) := by decide +kernel
theorem dX7_count_111 : decode cX7_count 111 = .ok (.aload_n 0, 1) := by decide +kernel
theorem dX7_count_112 : decode cX7_count 112 = .ok (.getfield 249, 3) := by decide +kernel
theorem dX7_count_115 : decode cX7_count 115 = .ok (.ireturn, 1) := by decide +kernel
theorem dX7_count_116 : decode cX7_count 116 = .ok (.aload_n 0, 1) := by decide +kernel
theorem dX7_count_117 : decode cX7_count 117 = .ok (.getfield 11, 3) := by decide +kernel
theorem dX7_count_120 : decode cX7_count 120 = .ok (.ireturn, 1) := by decide +kernel
theorem dX7_count_121 : decode cX7_count 121 = .ok (.aload_n 0, 1) := by decide +kernel
theorem dX7_count_122 : decode cX7_count 122 = .ok (.getfield 428, 3) := by decide +kernel
theorem dX7_count_125 : decode cX7_count 125 = .ok (.ireturn, 1) := by decide +kernel
theorem dX7_count_126 : decode cX7_count 126 = .ok (.aload_n 0, 1) := by decide +kernel
theorem dX7_count_127 : decode cX7_count 127 = .ok (.invokevirtual 434, 3) := by decide +kernel
theorem dX7_count_130 : decode cX7_count 130 = .ok (.ireturn, 1) := by decide +kernel
theorem dX7_count_131 : decode cX7_count 131 = .ok (.aload_n 0, 1) := by decide +kernel
theorem dX7_count_132 : decode cX7_count 132 = .ok (.invokevirtual 438, 3) := by decide +kernel
theorem dX7_count_135 : decode cX7_count 135 = .ok (.ireturn, 1) := by decide +kernel
theorem dX7_count_136 : decode cX7_count 136 = .ok (.iconst (-1), 1) := by decide +kernel
theorem dX7_count_137 : decode cX7_count 137 = .ok (.ireturn, 1) := by decide +kernel
