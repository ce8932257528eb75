theorem dX7_isLocked_105 : decode cX7_isLocked 105 = .ok (.iload 8, 2) := by decide +kernel
theorem dX7_isLocked_107 : decode cX7_isLocked 107 = .ok (.imul, 1) := by decide +kernel
theorem dX7_isLocked_108 : decode cX7_isLocked 108 = .ok (.if_icmp .ne 7, 3) := by decide +kernel
theorem dX7_isLocked_111 : decode cX7_isLocked 111 = .ok (.iconst 1, 1) := by decide +kernel
theorem dX7_isLocked_112 : decode cX7_isLocked 112 = .ok (.goto 4, 3) := by decide +kernel
theorem dX7_isLocked_115 : decode cX7_isLocked 115 = .ok (.iconst 0, 1) := by decide +kernel
theorem dX7_isLocked_116 : decode cX7_isLocked 116 = .ok (.istore 4, 2) := by decide +kernel
theorem dX7_isLocked_118 : decode cX7_isLocked 118 = .ok (.iinc 5 1, 3) := by decide +kernel
theorem dX7_isLocked_121 : decode cX7_isLocked 121 = .ok (.goto (-103), 3) := by decide +kernel
theorem dX7_isLocked_124 : decode cX7_isLocked 124 = .ok (.iload 4, 2) := by decide +kernel
theorem dX7_isLocked_126 : decode cX7_isLocked 126 = .ok (.ireturn, 1) := by decide +kernel
theorem dX7_wanders_0 : decode cX7_wanders 0 = .ok (.iconst 0, 1) := by decide +kernel
theorem dX7_wanders_1 : decode cX7_wanders 1 = .ok (.istore_n 2, 1) := by decide +kernel
theorem dX7_wanders_2 : decode cX7_wanders 2 = .ok (.iload_n 2, 1) := by decide +kernel
theorem dX7_wanders_3 : decode cX7_wanders 3 = .ok (.aload_n 0, 1) := by decide +kernel
theorem dX7_wanders_4 : decode cX7_wanders 4 = .ok (.getfield 146, 3) := by decide +kernel
theorem dX7_wanders_7 : decode cX7_wanders 7 = .ok (.iload_n 1, 1) := by decide +kernel
theorem dX7_wanders_8 : decode cX7_wanders 8 = .ok (.iaload, 1) := by decide +kernel
theorem dX7_wanders_9 : decode cX7_wanders 9 = .ok (.if_icmp .ge 88, 3) := by decide +kernel
theorem dX7_wanders_12 : decode cX7_wanders 12 = .ok (.aload_n 0, 1) := by decide +kernel
theorem dX7_wanders_13 : decode cX7_wanders 13 = .ok (.iload_n 1, 1) := by decide +kernel
theorem dX7_wanders_14 : decode cX7_wanders 14 = .ok (.iload_n 2, 1) := by decide +kernel
theorem dX7_wanders_15 : decode cX7_wanders 15 = .ok (.invokevirtual 372, 3) := by decide +kernel
theorem dX7_wanders_18 : decode cX7_wanders 18 = .ok (.ifCond .eq 73, 3) := by decide +kernel
theorem dX7_wanders_21 : decode cX7_wanders 21 = .ok (.aload_n 0, 1) := by decide +kernel
theorem dX7_wanders_22 : decode cX7_wanders 22 = .ok (.iload_n 1, 1) := by decide +kernel
theorem dX7_wanders_23 : decode cX7_wanders 23 = .ok (.iload_n 2, 1) := by decide +kernel
theorem dX7_wanders_24 : decode cX7_wanders 24 = .ok (.invokevirtual 376, 3) := by decide +kernel
theorem dX7_wanders_27 : decode cX7_wanders 27 = .ok (.aload_n 0, 1) := by decide +kernel
theorem dX7_wanders_28 : decode cX7_wanders 28 = .ok (.bipush 6, 2) := by decide +kernel
theorem dX7_wanders_30 : decode cX7_wanders 30 = .ok (.invokevirtual 359, 3) := by decide +kernel
theorem dX7_wanders_33 : decode cX7_wanders 33 = .ok (.istore_n 3, 1) := by decide +kernel
theorem dX7_wanders_34 : decode cX7_wanders 34 = .ok (.bipush 30, 2) := by decide +kernel
theorem dX7_wanders_36 : decode cX7_wanders 36 = .ok (.iload_n 1, 1) := by decide +kernel
theorem dX7_wanders_37 : decode cX7_wanders 37 = .ok (.imul, 1) := by decide +kernel
theorem dX7_wanders_38 : decode cX7_wanders 38 = .ok (.iload_n 2, 1) := by decide +kernel
theorem dX7_wanders_39 : decode cX7_wanders 39 = .ok (.iadd, 1) := by decide +kernel
theorem dX7_wanders_40 : decode cX7_wanders 40 = .ok (.istore 4, 2) := by decide +kernel
theorem dX7_wanders_42 : decode cX7_wanders 42 = .ok (.iload_n 3, 1) := by decide +kernel
theorem dX7_wanders_43 : decode cX7_wanders 43 = .ok (.ifCond .lt 48, 3) := by decide +kernel
theorem dX7_wanders_46 : decode cX7_wanders 46 = .ok (.aload_n 0, 1) := by decide +kernel
theorem dX7_wanders_47 : decode cX7_wanders 47 = .ok (.iload_n 1, 1) := by decide +kernel
theorem dX7_wanders_48 : decode cX7_wanders 48 = .ok (.iload_n 2, 1) := by decide +kernel
theorem dX7_wanders_49 : decode cX7_wanders 49 = .ok (.invokevirtual 385, 3) := by decide +kernel
theorem dX7_wanders_52 : decode cX7_wanders 52 = .ok (.ifCond .ne 39, 3) := by decide +kernel
theorem dX7_wanders_55 : decode cX7_wanders 55 = .ok (.aload_n 0, 1) := by decide +kernel
theorem dX7_wanders_56 : decode cX7_wanders 56 = .ok (.getfield 158, 3) := by decide +kernel
theorem dX7_wanders_59 : decode cX7_wanders 59 = .ok (.iload 4, 2) := by decide +kernel
theorem dX7_wanders_61 : decode cX7_wanders 61 = .ok (.dup2, 1) := by decide +kernel
theorem dX7_wanders_62 : decode cX7_wanders 62 = .ok (.iaload, 1) := by decide +kernel
theorem dX7_wanders_63 : decode cX7_wanders 63 = .ok (.iconst 1, 1) := by decide +kernel
theorem dX7_wanders_64 : decode cX7_wanders 64 = .ok (.iadd, 1) := by decide +kernel
theorem dX7_wanders_65 : decode cX7_wanders 65 = .ok (.iastore, 1) := by decide +kernel
theorem dX7_wanders_66 : decode cX7_wanders 66 = .ok (.aload_n 0, 1) := by decide +kernel
theorem dX7_wanders_67 : decode cX7_wanders 67 = .ok (.getfield 158, 3) := by decide +kernel
theorem dX7_wanders_70 : decode cX7_wanders 70 = .ok (.iload 4, 2) := by decide +kernel
theorem dX7_wanders_72 : decode cX7_wanders 72 = .ok (.iaload, 1) := by decide +kernel
theorem dX7_wanders_73 : decode cX7_wanders 73 = .ok (.iload_n 3, 1) := by decide +kernel
theorem dX7_wanders_74 : decode cX7_wanders 74 = .ok (.if_icmp .lt 17, 3) := by decide +kernel
theorem dX7_wanders_77 : decode cX7_wanders 77 = .ok (.aload_n 0, 1) := by decide +kernel
theorem dX7_wanders_78 : decode cX7_wanders 78 = .ok (.getfield 158, 3) := by decide +kernel
theorem dX7_wanders_81 : decode cX7_wanders 81 = .ok (.iload 4, 2) := by decide +kernel
theorem dX7_wanders_83 : decode cX7_wanders 83 = .ok (.iconst 0, 1) := by decide +kernel
theorem dX7_wanders_84 : decode cX7_wanders 84 = .ok (.iastore, 1) := by decide +kernel
theorem dX7_wanders_85 : decode cX7_wanders 85 = .ok (.aload_n 0, 1) := by decide +kernel
theorem dX7_wanders_86 : decode cX7_wanders 86 = .ok (.iload_n 1, 1) := by decide +kernel
theorem dX7_wanders_87 : decode cX7_wanders 87 = .ok (.iload_n 2, 1) := by decide +kernel
theorem dX7_wanders_88 : decode cX7_wanders 88 = .ok (.invokevirtual 388, 3) := by decide +kernel
theorem dX7_wanders_91 : decode cX7_wanders 91 = .ok (.iinc 2 1, 3) := by decide +kernel
theorem dX7_wanders_94 : decode cX7_wanders 94 = .ok (.goto (-92), 3) := by decide +kernel
theorem dX7_wanders_97 : decode cX7_wanders 97 = .ok (.return_, 1) := by decide +kernel
theorem dX7_goes_0 : decode cX7_goes 0 = .ok (.bipush 30, 2) := by decide +kernel
theorem dX7_goes_2 : decode cX7_goes 2 = .ok (.iload_n 1, 1) := by decide +kernel
theorem dX7_goes_3 : decode cX7_goes 3 = .ok (.imul, 1) := by decide +kernel
theorem dX7_goes_4 : decode cX7_goes 4 = .ok (.iload_n 2, 1) := by decide +kernel
theorem dX7_goes_5 : decode cX7_goes 5 = .ok (.iadd, 1) := by decide +kernel
theorem dX7_goes_6 : decode cX7_goes 6 = .ok (.istore_n 3, 1) := by decide +kernel
theorem dX7_goes_7 : decode cX7_goes 7 = .ok (.aload_n 0, 1) := by decide +kernel
theorem dX7_goes_8 : decode cX7_goes 8 = .ok (.getfield 152, 3) := by decide +kernel
theorem dX7_goes_11 : decode cX7_goes 11 = .ok (.iload_n 3, 1) := by decide +kernel
theorem dX7_goes_12 : decode cX7_goes 12 = .ok (.iaload, 1) := by decide +kernel
theorem dX7_goes_13 : decode cX7_goes 13 = .ok (.aload_n 0, 1) := by decide +kernel
theorem dX7_goes_14 : decode cX7_goes 14 = .ok (.iload_n 1, 1) := by decide +kernel
theorem dX7_goes_15 : decode cX7_goes 15 = .ok (.aload_n 0, 1) := by decide +kernel
theorem dX7_goes_16 : decode cX7_goes 16 = .ok (.getfield 152, 3) := by decide +kernel
theorem dX7_goes_19 : decode cX7_goes 19 = .ok (.iload_n 3, 1) := by decide +kernel
theorem dX7_goes_20 : decode cX7_goes 20 = .ok (.iaload, 1) := by decide +kernel
theorem dX7_goes_21 : decode cX7_goes 21 = .ok (.invokevirtual 382, 3) := by decide +kernel
theorem dX7_goes_24 : decode cX7_goes 24 = .ok (.iadd, 1) := by decide +kernel
theorem dX7_goes_25 : decode cX7_goes 25 = .ok (.istore 4, 2) := by decide +kernel
theorem dX7_goes_27 : decode cX7_goes 27 = .ok (.iload 4, 2) := by decide +kernel
theorem dX7_goes_29 : decode cX7_goes 29 = .ok (.ifCond .ge 29, 3) := by decide +kernel
theorem dX7_goes_32 : decode cX7_goes 32 = .ok (.aload_n 0, 1) := by decide +kernel
theorem dX7_goes_33 : decode cX7_goes 33 = .ok (.getfield 149, 3) := by decide +kernel
theorem dX7_goes_36 : decode cX7_goes 36 = .ok (.iload_n 3, 1) := by decide +kernel
theorem dX7_goes_37 : decode cX7_goes 37 = .ok (.iconst 2, 1) := by decide +kernel
theorem dX7_goes_38 : decode cX7_goes 38 = .ok (.iastore, 1) := by decide +kernel
theorem dX7_goes_39 : decode cX7_goes 39 = .ok (.aload_n 0, 1) := by decide +kernel
theorem dX7_goes_40 : decode cX7_goes 40 = .ok (.getfield 140, 3) := by decide +kernel
theorem dX7_goes_43 : decode cX7_goes 43 = .ok (.iload_n 1, 1) := by decide +kernel
theorem dX7_goes_44 : decode cX7_goes 44 = .ok (.dup2, 1) := by decide +kernel
theorem dX7_goes_45 : decode cX7_goes 45 = .ok (.laload, 1) := by decide +kernel
theorem dX7_goes_46 : decode cX7_goes 46 = .ok (.aload_n 0, 1) := by decide +kernel
theorem dX7_goes_47 : decode cX7_goes 47 = .ok (.iload_n 1, 1) := by decide +kernel
theorem dX7_goes_48 : decode cX7_goes 48 = .ok (.iload_n 2, 1) := by decide +kernel
theorem dX7_goes_49 : decode cX7_goes 49 = .ok (.invokevirtual 326, 3) := by decide +kernel
theorem dX7_goes_52 : decode cX7_goes 52 = .ok (.i2l, 1) := by decide +kernel
theorem dX7_goes_53 : decode cX7_goes 53 = .ok (.ladd, 1) := by decide +kernel
theorem dX7_goes_54 : decode cX7_goes 54 = .ok (.lastore, 1) := by decide +kernel
theorem dX7_goes_55 : decode cX7_goes 55 = .ok (.goto 11, 3) := by decide +kernel
theorem dX7_goes_58 : decode cX7_goes 58 = .ok (.aload_n 0, 1) := by decide +kernel
theorem dX7_goes_59 : decode cX7_goes 59 = .ok (.getfield 152, 3) := by decide +kernel
theorem dX7_goes_62 : decode cX7_goes 62 = .ok (.iload_n 3, 1) := by decide +kernel
theorem dX7_goes_63 : decode cX7_goes 63 = .ok (.iload 4, 2) := by decide +kernel
theorem dX7_goes_65 : decode cX7_goes 65 = .ok (.iastore, 1) := by decide +kernel
theorem dX7_goes_66 : decode cX7_goes 66 = .ok (.return_, 1) := by decide +kernel
theorem dX7_meets_0 : decode cX7_meets 0 = .ok (.iconst 0, 1) := by decide +kernel
theorem dX7_meets_1 : decode cX7_meets 1 = .ok (.istore_n 2, 1) := by decide +kernel
theorem dX7_meets_2 : decode cX7_meets 2 = .ok (.iload_n 2, 1) := by decide +kernel
theorem dX7_meets_3 : decode cX7_meets 3 = .ok (.aload_n 0, 1) := by decide +kernel
theorem dX7_meets_4 : decode cX7_meets 4 = .ok (.getfield 116, 3) := by decide +kernel
theorem dX7_meets_7 : decode cX7_meets 7 = .ok (.iload_n 1, 1) := by decide +kernel
theorem dX7_meets_8 : decode cX7_meets 8 = .ok (.iaload, 1) := by decide +kernel
theorem dX7_meets_9 : decode cX7_meets 9 = .ok (.if_icmp .ge 126, 3) := by decide +kernel
theorem dX7_meets_12 : decode cX7_meets 12 = .ok (.iconst 1, 1) := by decide +kernel
theorem dX7_meets_13 : decode cX7_meets 13 = .ok (.istore_n 3, 1) := by decide +kernel
theorem dX7_meets_14 : decode cX7_meets 14 = .ok (.iload_n 3, 1) := by decide +kernel
theorem dX7_meets_15 : decode cX7_meets 15 = .ok (.ifCond .eq 114, 3) := by decide +kernel
theorem dX7_meets_18 : decode cX7_meets 18 = .ok (.iconst (-1), 1) := by decide +kernel
theorem dX7_meets_19 : decode cX7_meets 19 = .ok (.istore 4, 2) := by decide +kernel
theorem dX7_meets_21 : decode cX7_meets 21 = .ok (.iconst (-1), 1) := by decide +kernel
theorem dX7_meets_22 : decode cX7_meets 22 = .ok (.istore 5, 2) := by decide +kernel
theorem dX7_meets_24 : decode cX7_meets 24 = .ok (.iconst 0, 1) := by decide +kernel
theorem dX7_meets_25 : decode cX7_meets 25 = .ok (.istore 6, 2) := by decide +kernel
theorem dX7_meets_27 : decode cX7_meets 27 = .ok (.iload 6, 2) := by decide +kernel
theorem dX7_meets_29 : decode cX7_meets 29 = .ok (.aload_n 0, 1) := by decide +kernel
theorem dX7_meets_30 : decode cX7_meets 30 = .ok (.getfield 146, 3) := by decide +kernel
theorem dX7_meets_33 : decode cX7_meets 33 = .ok (.iload_n 1, 1) := by decide +kernel
theorem dX7_meets_34 : decode cX7_meets 34 = .ok (.iaload, 1) := by decide +kernel
theorem dX7_meets_35 : decode cX7_meets 35 = .ok (.if_icmp .ge 67, 3) := by decide +kernel
theorem dX7_meets_38 : decode cX7_meets 38 = .ok (.aload_n 0, 1) := by decide +kernel
theorem dX7_meets_39 : decode cX7_meets 39 = .ok (.iload_n 1, 1) := by decide +kernel
theorem dX7_meets_40 : decode cX7_meets 40 = .ok (.iload 6, 2) := by decide +kernel
theorem dX7_meets_42 : decode cX7_meets 42 = .ok (.invokevirtual 372, 3) := by decide +kernel
theorem dX7_meets_45 : decode cX7_meets 45 = .ok (.ifCond .eq 51, 3) := by decide +kernel
theorem dX7_meets_48 : decode cX7_meets 48 = .ok (.aload_n 0, 1) := by decide +kernel
theorem dX7_meets_49 : decode cX7_meets 49 = .ok (.getfield 152, 3) := by decide +kernel
theorem dX7_meets_52 : decode cX7_meets 52 = .ok (.bipush 30, 2) := by decide +kernel
theorem dX7_meets_54 : decode cX7_meets 54 = .ok (.iload_n 1, 1) := by decide +kernel
theorem dX7_meets_55 : decode cX7_meets 55 = .ok (.imul, 1) := by decide +kernel
theorem dX7_meets_56 : decode cX7_meets 56 = .ok (.iload 6, 2) := by decide +kernel
theorem dX7_meets_58 : decode cX7_meets 58 = .ok (.iadd, 1) := by decide +kernel
theorem dX7_meets_59 : decode cX7_meets 59 = .ok (.iaload, 1) := by decide +kernel
theorem dX7_meets_60 : decode cX7_meets 60 = .ok (.iload_n 2, 1) := by decide +kernel
theorem dX7_meets_61 : decode cX7_meets 61 = .ok (.if_icmp .ne 35, 3) := by decide +kernel
theorem dX7_meets_64 : decode cX7_meets 64 = .ok (.iload 5, 2) := by decide +kernel
theorem dX7_meets_66 : decode cX7_meets 66 = .ok (.ifCond .ge 30, 3) := by decide +kernel
theorem dX7_meets_69 : decode cX7_meets 69 = .ok (.iload 4, 2) := by decide +kernel
theorem dX7_meets_71 : decode cX7_meets 71 = .ok (.ifCond .ge 7, 3) := by decide +kernel
theorem dX7_meets_74 : decode cX7_meets 74 = .ok (.iconst (-1), 1) := by decide +kernel
theorem dX7_meets_75 : decode cX7_meets 75 = .ok (.goto 5, 3) := by decide +kernel
theorem dX7_meets_78 : decode cX7_meets 78 = .ok (.iload 6, 2) := by decide +kernel
theorem dX7_meets_80 : decode cX7_meets 80 = .ok (.istore 5, 2) := by decide +kernel
theorem dX7_meets_82 : decode cX7_meets 82 = .ok (.iload 4, 2) := by decide +kernel
theorem dX7_meets_84 : decode cX7_meets 84 = .ok (.ifCond .ge 8, 3) := by decide +kernel
theorem dX7_meets_87 : decode cX7_meets 87 = .ok (.iload 6, 2) := by decide +kernel
theorem dX7_meets_89 : decode cX7_meets 89 = .ok (.goto 5, 3) := by decide +kernel
theorem dX7_meets_92 : decode cX7_meets 92 = .ok (.iload 4, 2) := by decide +kernel
theorem dX7_meets_94 : decode cX7_meets 94 = .ok (.istore 4, 2) := by decide +kernel
theorem dX7_meets_96 : decode cX7_meets 96 = .ok (.iinc 6 1, 3) := by decide +kernel
theorem dX7_meets_99 : decode cX7_meets 99 = .ok (.goto (-72), 3) := by decide +kernel
theorem dX7_meets_102 : decode cX7_meets 102 = .ok (.iload 5, 2) := by decide +kernel
theorem dX7_meets_104 : decode cX7_meets 104 = .ok (.ifCond .lt 7, 3) := by decide +kernel
theorem dX7_meets_107 : decode cX7_meets 107 = .ok (.iconst 1, 1) := by decide +kernel
theorem dX7_meets_108 : decode cX7_meets 108 = .ok (.goto 4, 3) := by decide +kernel
theorem dX7_meets_111 : decode cX7_meets 111 = .ok (.iconst 0, 1) := by decide +kernel
theorem dX7_meets_112 : decode cX7_meets 112 = .ok (.istore_n 3, 1) := by decide +kernel
theorem dX7_meets_113 : decode cX7_meets 113 = .ok (.iload_n 3, 1) := by decide +kernel
theorem dX7_meets_114 : decode cX7_meets 114 = .ok (.ifCond .eq 12, 3) := by decide +kernel
theorem dX7_meets_117 : decode cX7_meets 117 = .ok (.aload_n 0, 1) := by decide +kernel
theorem dX7_meets_118 : decode cX7_meets 118 = .ok (.iload_n 1, 1) := by decide +kernel
theorem dX7_meets_119 : decode cX7_meets 119 = .ok (.iload 4, 2) := by decide +kernel
theorem dX7_meets_121 : decode cX7_meets 121 = .ok (.iload 5, 2) := by decide +kernel
theorem dX7_meets_123 : decode cX7_meets 123 = .ok (.invokevirtual 391, 3) := by decide +kernel
theorem dX7_meets_126 : decode cX7_meets 126 = .ok (.goto (-112), 3) := by decide +kernel
theorem dX7_meets_129 : decode cX7_meets 129 = .ok (.iinc 2 1, 3) := by decide +kernel
theorem dX7_meets_132 : decode cX7_meets 132 = .ok (.goto (-130), 3) := by decide +kernel
theorem dX7_meets_135 : decode cX7_meets 135 = .ok (.return_, 1) := by decide +kernel
theorem dX7_meet_0 : decode cX7_meet 0 = .ok (.aload_n 0, 1) := by decide +kernel
theorem dX7_meet_1 : decode cX7_meet 1 = .ok (.iload_n 1, 1) := by decide +kernel
theorem dX7_meet_2 : decode cX7_meet 2 = .ok (.iload_n 3, 1) := by decide +kernel
theorem dX7_meet_3 : decode cX7_meet 3 = .ok (.invokevirtual 326, 3) := by decide +kernel
theorem dX7_meet_6 : decode cX7_meet 6 = .ok (.aload_n 0, 1) := by decide +kernel
theorem dX7_meet_7 : decode cX7_meet 7 = .ok (.iload_n 1, 1) := by decide +kernel
theorem dX7_meet_8 : decode cX7_meet 8 = .ok (.iload_n 2, 1) := by decide +kernel
theorem dX7_meet_9 : decode cX7_meet 9 = .ok (.invokevirtual 326, 3) := by decide +kernel
theorem dX7_meet_12 : decode cX7_meet 12 = .ok (.if_icmp .le 7, 3) := by decide +kernel
theorem dX7_meet_15 : decode cX7_meet 15 = .ok (.iconst 1, 1) := by decide +kernel
theorem dX7_meet_16 : decode cX7_meet 16 = .ok (.goto 4, 3) := by decide +kernel
theorem dX7_meet_19 : decode cX7_meet 19 = .ok (.iconst 0, 1) := by decide +kernel
theorem dX7_meet_20 : decode cX7_meet 20 = .ok (.istore 4, 2) := by decide +kernel
theorem dX7_meet_22 : decode cX7_meet 22 = .ok (.iload 4, 2) := by decide +kernel
theorem dX7_meet_24 : decode cX7_meet 24 = .ok (.ifCond .eq 7, 3) := by decide +kernel
theorem dX7_meet_27 : decode cX7_meet 27 = .ok (.iload_n 3, 1) := by decide +kernel
theorem dX7_meet_28 : decode cX7_meet 28 = .ok (.goto 4, 3) := by decide +kernel
theorem dX7_meet_31 : decode cX7_meet 31 = .ok (.iload_n 2, 1) := by decide +kernel
theorem dX7_meet_32 : decode cX7_meet 32 = .ok (.istore 5, 2) := by decide +kernel
theorem dX7_meet_34 : decode cX7_meet 34 = .ok (.iload 4, 2) := by decide +kernel
theorem dX7_meet_36 : decode cX7_meet 36 = .ok (.ifCond .eq 7, 3) := by decide +kernel
theorem dX7_meet_39 : decode cX7_meet 39 = .ok (.iload_n 2, 1) := by decide +kernel
theorem dX7_meet_40 : decode cX7_meet 40 = .ok (.goto 4, 3) := by decide +kernel
theorem dX7_meet_43 : decode cX7_meet 43 = .ok (.iload_n 3, 1) := by decide +kernel
theorem dX7_meet_44 : decode cX7_meet 44 = .ok (.istore 6, 2) := by decide +kernel
theorem dX7_meet_46 : decode cX7_meet 46 = .ok (.bipush 30, 2) := by decide +kernel
theorem dX7_meet_48 : decode cX7_meet 48 = .ok (.iload_n 1, 1) := by decide +kernel
theorem dX7_meet_49 : decode cX7_meet 49 = .ok (.imul, 1) := by decide +kernel
theorem dX7_meet_50 : decode cX7_meet 50 = .ok (.iload 6, 2) := by decide +kernel
theorem dX7_meet_52 : decode cX7_meet 52 = .ok (.iadd, 1) := by decide +kernel
theorem dX7_meet_53 : decode cX7_meet 53 = .ok (.istore 7, 2) := by decide +kernel
theorem dX7_meet_55 : decode cX7_meet 55 = .ok (.aload_n 0, 1) := by decide +kernel
theorem dX7_meet_56 : decode cX7_meet 56 = .ok (.getfield 190, 3) := by decide +kernel
theorem dX7_meet_59 : decode cX7_meet 59 = .ok (.bipush 101, 2) := by decide +kernel
theorem dX7_meet_61 : decode cX7_meet 61 = .ok (.if_icmp .ge 59, 3) := by decide +kernel
theorem dX7_meet_64 : decode cX7_meet 64 = .ok (.aload_n 0, 1) := by decide +kernel
theorem dX7_meet_65 : decode cX7_meet 65 = .ok (.iload_n 1, 1) := by decide +kernel
theorem dX7_meet_66 : decode cX7_meet 66 = .ok (.iload 6, 2) := by decide +kernel
theorem dX7_meet_68 : decode cX7_meet 68 = .ok (.invokevirtual 326, 3) := by decide +kernel
theorem dX7_meet_71 : decode cX7_meet 71 = .ok (.i2l, 1) := by decide +kernel
theorem dX7_meet_72 : decode cX7_meet 72 = .ok (.ldc2_w 353, 3) := by decide +kernel
theorem dX7_meet_75 : decode cX7_meet 75 = .ok (.lmul, 1) := by decide +kernel
theorem dX7_meet_76 : decode cX7_meet 76 = .ok (.aload_n 0, 1) := by decide +kernel
theorem dX7_meet_77 : decode cX7_meet 77 = .ok (.iload_n 1, 1) := by decide +kernel
theorem dX7_meet_78 : decode cX7_meet 78 = .ok (.iload 5, 2) := by decide +kernel
theorem dX7_meet_80 : decode cX7_meet 80 = .ok (.invokevirtual 326, 3) := by decide +kernel
theorem dX7_meet_83 : decode cX7_meet 83 = .ok (.i2l, 1) := by decide +kernel
theorem dX7_meet_84 : decode cX7_meet 84 = .ok (.aload_n 0, 1) := by decide +kernel
theorem dX7_meet_85 : decode cX7_meet 85 = .ok (.getfield 190, 3) := by decide +kernel
theorem dX7_meet_88 : decode cX7_meet 88 = .ok (.i2l, 1) := by decide +kernel
theorem dX7_meet_89 : decode cX7_meet 89 = .ok (.lmul, 1) := by decide +kernel
theorem dX7_meet_90 : decode cX7_meet 90 = .ok (.lcmp, 1) := by decide +kernel
theorem dX7_meet_91 : decode cX7_meet 91 = .ok (.ifCond .lt 29, 3) := by decide +kernel
theorem dX7_meet_94 : decode cX7_meet 94 = .ok (.aload_n 0, 1) := by decide +kernel
theorem dX7_meet_95 : decode cX7_meet 95 = .ok (.getfield 149, 3) := by decide +kernel
theorem dX7_meet_98 : decode cX7_meet 98 = .ok (.iload 7, 2) := by decide +kernel
theorem dX7_meet_100 : decode cX7_meet 100 = .ok (.iconst 3, 1) := by decide +kernel
theorem dX7_meet_101 : decode cX7_meet 101 = .ok (.iastore, 1) := by decide +kernel
theorem dX7_meet_102 : decode cX7_meet 102 = .ok (.aload_n 0, 1) := by decide +kernel
theorem dX7_meet_103 : decode cX7_meet 103 = .ok (.getfield 143, 3) := by decide +kernel
theorem dX7_meet_106 : decode cX7_meet 106 = .ok (.iload_n 1, 1) := by decide +kernel
theorem dX7_meet_107 : decode cX7_meet 107 = .ok (.dup2, 1) := by decide +kernel
theorem dX7_meet_108 : decode cX7_meet 108 = .ok (.laload, 1) := by decide +kernel
theorem dX7_meet_109 : decode cX7_meet 109 = .ok (.aload_n 0, 1) := by decide +kernel
theorem dX7_meet_110 : decode cX7_meet 110 = .ok (.iload_n 1, 1) := by decide +kernel
theorem dX7_meet_111 : decode cX7_meet 111 = .ok (.iload 6, 2) := by decide +kernel
theorem dX7_meet_113 : decode cX7_meet 113 = .ok (.invokevirtual 326, 3) := by decide +kernel
theorem dX7_meet_116 : decode cX7_meet 116 = .ok (.i2l, 1) := by decide +kernel
theorem dX7_meet_117 : decode cX7_meet 117 = .ok (.ladd, 1) := by decide +kernel
theorem dX7_meet_118 : decode cX7_meet 118 = .ok (.lastore, 1) := by decide +kernel
theorem dX7_meet_119 : decode cX7_meet 119 = .ok (.return_, 1) := by decide +kernel
theorem dX7_meet_120 : decode cX7_meet 120 = .ok (.aload_n 0, 1) := by decide +kernel
theorem dX7_meet_121 : decode cX7_meet 121 = .ok (.getfield 149, 3) := by decide +kernel
theorem dX7_meet_124 : decode cX7_meet 124 = .ok (.iload 7, 2) := by decide +kernel
theorem dX7_meet_126 : decode cX7_meet 126 = .ok (.iconst 1, 1) := by decide +kernel
theorem dX7_meet_127 : decode cX7_meet 127 = .ok (.iastore, 1) := by decide +kernel
theorem dX7_meet_128 : decode cX7_meet 128 = .ok (.aload_n 0, 1) := by decide +kernel
theorem dX7_meet_129 : decode cX7_meet 129 = .ok (.getfield 164, 3) := by decide +kernel
theorem dX7_meet_132 : decode cX7_meet 132 = .ok (.iload 7, 2) := by decide +kernel
theorem dX7_meet_134 : decode cX7_meet 134 = .ok (.iload 5, 2) := by decide +kernel
theorem dX7_meet_136 : decode cX7_meet 136 = .ok (.iastore, 1) := by decide +kernel
theorem dX7_meet_137 : decode cX7_meet 137 = .ok (.aload_n 0, 1) := by decide +kernel
theorem dX7_meet_138 : decode cX7_meet 138 = .ok (.getfield 155, 3) := by decide +kernel
theorem dX7_meet_141 : decode cX7_meet 141 = .ok (.bipush 30, 2) := by decide +kernel
theorem dX7_meet_143 : decode cX7_meet 143 = .ok (.iload_n 1, 1) := by decide +kernel
theorem dX7_meet_144 : decode cX7_meet 144 = .ok (.imul, 1) := by decide +kernel
theorem dX7_meet_145 : decode cX7_meet 145 = .ok (.iload 5, 2) := by decide +kernel
theorem dX7_meet_147 : decode cX7_meet 147 = .ok (.iadd, 1) := by decide +kernel
theorem dX7_meet_148 : decode cX7_meet 148 = .ok (.dup2, 1) := by decide +kernel
theorem dX7_meet_149 : decode cX7_meet 149 = .ok (.iaload, 1) := by decide +kernel
theorem dX7_meet_150 : decode cX7_meet 150 = .ok (.aload_n 0, 1) := by decide +kernel
theorem dX7_meet_151 : decode cX7_meet 151 = .ok (.getfield 155, 3) := by decide +kernel
theorem dX7_meet_154 : decode cX7_meet 154 = .ok (.iload 7, 2) := by decide +kernel
theorem dX7_meet_156 : decode cX7_meet 156 = .ok (.iaload, 1) := by decide +kernel
theorem dX7_meet_157 : decode cX7_meet 157 = .ok (.iadd, 1) := by decide +kernel
theorem dX7_meet_158 : decode cX7_meet 158 = .ok (.iastore, 1) := by decide +kernel
theorem dX7_meet_159 : decode cX7_meet 159 = .ok (.iconst 0, 1) := by decide +kernel
theorem dX7_meet_160 : decode cX7_meet 160 = .ok (.istore 8, 2) := by decide +kernel
theorem dX7_meet_162 : decode cX7_meet 162 = .ok (.iload 8, 2) := by decide +kernel
theorem dX7_meet_164 : decode cX7_meet 164 = .ok (.bipush 12, 2) := by decide +kernel
theorem dX7_meet_166 : decode cX7_meet 166 = .ok (.if_icmp .ge 43, 3) := by decide +kernel
theorem dX7_meet_169 : decode cX7_meet 169 = .ok (.aload_n 0, 1) := by decide +kernel
theorem dX7_meet_170 : decode cX7_meet 170 = .ok (.getfield 167, 3) := by decide +kernel
theorem dX7_meet_173 : decode cX7_meet 173 = .ok (.bipush 12, 2) := by decide +kernel
theorem dX7_meet_175 : decode cX7_meet 175 = .ok (.bipush 30, 2) := by decide +kernel
theorem dX7_meet_177 : decode cX7_meet 177 = .ok (.iload_n 1, 1) := by decide +kernel
theorem dX7_meet_178 : decode cX7_meet 178 = .ok (.imul, 1) := by decide +kernel
theorem dX7_meet_179 : decode cX7_meet 179 = .ok (.iload 5, 2) := by decide +kernel
theorem dX7_meet_181 : decode cX7_meet 181 = .ok (.iadd, 1) := by decide +kernel
theorem dX7_meet_182 : decode cX7_meet 182 = .ok (.imul, 1) := by decide +kernel
theorem dX7_meet_183 : decode cX7_meet 183 = .ok (.iload 8, 2) := by decide +kernel
theorem dX7_meet_185 : decode cX7_meet 185 = .ok (.iadd, 1) := by decide +kernel
theorem dX7_meet_186 : decode cX7_meet 186 = .ok (.dup2, 1) := by decide +kernel
theorem dX7_meet_187 : decode cX7_meet 187 = .ok (.iaload, 1) := by decide +kernel
theorem dX7_meet_188 : decode cX7_meet 188 = .ok (.aload_n 0, 1) := by decide +kernel
theorem dX7_meet_189 : decode cX7_meet 189 = .ok (.getfield 167, 3) := by decide +kernel
theorem dX7_meet_192 : decode cX7_meet 192 = .ok (.bipush 12, 2) := by decide +kernel
theorem dX7_meet_194 : decode cX7_meet 194 = .ok (.iload 7, 2) := by decide +kernel
theorem dX7_meet_196 : decode cX7_meet 196 = .ok (.imul, 1) := by decide +kernel
theorem dX7_meet_197 : decode cX7_meet 197 = .ok (.iload 8, 2) := by decide +kernel
theorem dX7_meet_199 : decode cX7_meet 199 = .ok (.iadd, 1) := by decide +kernel
theorem dX7_meet_200 : decode cX7_meet 200 = .ok (.iaload, 1) := by decide +kernel
theorem dX7_meet_201 : decode cX7_meet 201 = .ok (.iadd, 1) := by decide +kernel
theorem dX7_meet_202 : decode cX7_meet 202 = .ok (.iastore, 1) := by decide +kernel
theorem dX7_meet_203 : decode cX7_meet 203 = .ok (.iinc 8 1, 3) := by decide +kernel
theorem dX7_meet_206 : decode cX7_meet 206 = .ok (.goto (-44), 3) := by decide +kernel
theorem dX7_meet_209 : decode cX7_meet 209 = .ok (.return_, 1) := by decide +kernel
theorem dX7_steps_0 : decode cX7_steps 0 = .ok (.aload_n 0, 1) := by decide +kernel
theorem dX7_steps_1 : decode cX7_steps 1 = .ok (.iconst 0, 1) := by decide +kernel
theorem dX7_steps_2 : decode cX7_steps 2 = .ok (.putfield 1, 3) := by decide +kernel
theorem dX7_steps_5 : decode cX7_steps 5 = .ok (.iload_n 1, 1) := by decide +kernel
theorem dX7_steps_6 : decode cX7_steps 6 = .ok (.iconst 1, 1) := by decide +kernel
theorem dX7_steps_7 : decode cX7_steps 7 = .ok (.bipush 100, 2) := by decide +kernel
theorem dX7_steps_9 : decode cX7_steps 9 = .ok (.invokestatic 301, 3) := by decide +kernel
theorem dX7_steps_12 : decode cX7_steps 12 = .ok (.ifCond .eq 17, 3) := by decide +kernel
theorem dX7_steps_15 : decode cX7_steps 15 = .ok (.aload_n 0, 1) := by decide +kernel
theorem dX7_steps_16 : decode cX7_steps 16 = .ok (.getfield 137, 3) := by decide +kernel
theorem dX7_steps_19 : decode cX7_steps 19 = .ok (.iconst 0, 1) := by decide +kernel
theorem dX7_steps_20 : decode cX7_steps 20 = .ok (.iaload, 1) := by decide +kernel
theorem dX7_steps_21 : decode cX7_steps 21 = .ok (.iload_n 1, 1) := by decide +kernel
theorem dX7_steps_22 : decode cX7_steps 22 = .ok (.iadd, 1) := by decide +kernel
theorem dX7_steps_23 : decode cX7_steps 23 = .ok (.sipush 9999, 3) := by decide +kernel
theorem dX7_steps_26 : decode cX7_steps 26 = .ok (.if_icmp .le 5, 3) := by decide +kernel
theorem dX7_steps_29 : decode cX7_steps 29 = .ok (.iconst (-1), 1) := by decide +kernel
theorem dX7_steps_30 : decode cX7_steps 30 = .ok (.ireturn, 1) := by decide +kernel
theorem dX7_steps_31 : decode cX7_steps 31 = .ok (.aload_n 0, 1) := by decide +kernel
theorem dX7_steps_32 : decode cX7_steps 32 = .ok (.aload_n 0, 1) := by decide +kernel
theorem dX7_steps_33 : decode cX7_steps 33 = .ok (.getfield 249, 3) := by decide +kernel
theorem dX7_steps_36 : decode cX7_steps 36 = .ok (.putfield 298, 3) := by decide +kernel
theorem dX7_steps_39 : decode cX7_steps 39 = .ok (.iconst 0, 1) := by decide +kernel
theorem dX7_steps_40 : decode cX7_steps 40 = .ok (.istore_n 2, 1) := by decide +kernel
theorem dX7_steps_41 : decode cX7_steps 41 = .ok (.iload_n 2, 1) := by decide +kernel
theorem dX7_steps_42 : decode cX7_steps 42 = .ok (.iload_n 1, 1) := by decide +kernel
theorem dX7_steps_43 : decode cX7_steps 43 = .ok (.if_icmp .ge 14, 3) := by decide +kernel
theorem dX7_steps_46 : decode cX7_steps 46 = .ok (.aload_n 0, 1) := by decide +kernel
theorem dX7_steps_47 : decode cX7_steps 47 = .ok (.iconst 0, 1) := by decide +kernel
theorem dX7_steps_48 : decode cX7_steps 48 = .ok (.invokevirtual 394, 3) := by decide +kernel
theorem dX7_steps_51 : decode cX7_steps 51 = .ok (.iinc 2 1, 3) := by decide +kernel
theorem dX7_steps_54 : decode cX7_steps 54 = .ok (.goto (-13), 3) := by decide +kernel
theorem dX7_steps_57 : decode cX7_steps 57 = .ok (.aload_n 0, 1) := by decide +kernel
theorem dX7_steps_58 : decode cX7_steps 58 = .ok (.getfield 137, 3) := by decide +kernel
theorem dX7_steps_61 : decode cX7_steps 61 = .ok (.iconst 0, 1) := by decide +kernel
theorem dX7_steps_62 : decode cX7_steps 62 = .ok (.iaload, 1) := by decide +kernel
theorem dX7_steps_63 : decode cX7_steps 63 = .ok (.ireturn, 1) := by decide +kernel
theorem dX7_has_0 : decode cX7_has 0 = .ok (.aload_n 0, 1) := by decide +kernel
theorem dX7_has_1 : decode cX7_has 1 = .ok (.aload_n 0, 1) := by decide +kernel
theorem dX7_has_2 : decode cX7_has 2 = .ok (.iload_n 1, 1) := by decide +kernel
theorem dX7_has_3 : decode cX7_has 3 = .ok (.invokevirtual 305, 3) := by decide +kernel
theorem dX7_has_6 : decode cX7_has 6 = .ok (.ifCond .eq 17, 3) := by decide +kernel
theorem dX7_has_9 : decode cX7_has 9 = .ok (.iload_n 2, 1) := by decide +kernel
theorem dX7_has_10 : decode cX7_has 10 = .ok (.iconst 0, 1) := by decide +kernel
theorem dX7_has_11 : decode cX7_has 11 = .ok (.bipush 7, 2) := by decide +kernel
theorem dX7_has_13 : decode cX7_has 13 = .ok (.invokestatic 301, 3) := by decide +kernel
theorem dX7_has_16 : decode cX7_has 16 = .ok (.ifCond .eq 7, 3) := by decide +kernel
theorem dX7_has_19 : decode cX7_has 19 = .ok (.iconst 0, 1) := by decide +kernel
theorem dX7_has_20 : decode cX7_has 20 = .ok (.goto 4, 3) := by decide +kernel
theorem dX7_has_23 : decode cX7_has 23 = .ok (.iconst 1, 1) := by decide +kernel
theorem dX7_has_24 : decode cX7_has 24 = .ok (.putfield 1, 3) := by decide +kernel
theorem dX7_has_27 : decode cX7_has 27 = .ok (.aload_n 0, 1) := by decide +kernel
theorem dX7_has_28 : decode cX7_has 28 = .ok (.getfield 1, 3) := by decide +kernel
theorem dX7_has_31 : decode cX7_has 31 = .ok (.ifCond .le 5, 3) := by decide +kernel
theorem dX7_has_34 : decode cX7_has 34 = .ok (.iconst 0, 1) := by decide +kernel
theorem dX7_has_35 : decode cX7_has 35 = .ok (.ireturn, 1) := by decide +kernel
theorem dX7_has_36 : decode cX7_has 36 = .ok (.iload_n 2, 1) := by decide +kernel
theorem dX7_has_37 : decode cX7_has 37 = .ok (.iconst 5, 1) := by decide +kernel
theorem dX7_has_38 : decode cX7_has 38 = .ok (.if_icmp .ge 16, 3) := by decide +kernel
theorem dX7_has_41 : decode cX7_has 41 = .ok (.aload_n 0, 1) := by decide +kernel
theorem dX7_has_42 : decode cX7_has 42 = .ok (.getfield 128, 3) := by decide +kernel
theorem dX7_has_45 : decode cX7_has 45 = .ok (.iconst 5, 1) := by decide +kernel
theorem dX7_has_46 : decode cX7_has 46 = .ok (.iload_n 1, 1) := by decide +kernel
theorem dX7_has_47 : decode cX7_has 47 = .ok (.imul, 1) := by decide +kernel
theorem dX7_has_48 : decode cX7_has 48 = .ok (.iload_n 2, 1) := by decide +kernel
theorem dX7_has_49 : decode cX7_has 49 = .ok (.iadd, 1) := by decide +kernel
theorem dX7_has_50 : decode cX7_has 50 = .ok (.iaload, 1) := by decide +kernel
theorem dX7_has_51 : decode cX7_has 51 = .ok (.goto 46, 3) := by decide +kernel
theorem dX7_has_54 : decode cX7_has 54 = .ok (.iload_n 2, 1) := by decide +kernel
theorem dX7_has_55 : decode cX7_has 55 = .ok (.iconst 5, 1) := by decide +kernel
theorem dX7_has_56 : decode cX7_has 56 = .ok (.if_icmp .ne 12, 3) := by decide +kernel
theorem dX7_has_59 : decode cX7_has 59 = .ok (.aload_n 0, 1) := by decide +kernel
theorem dX7_has_60 : decode cX7_has 60 = .ok (.getfield 119, 3) := by decide +kernel
theorem dX7_has_63 : decode cX7_has 63 = .ok (.iload_n 1, 1) := by decide +kernel
theorem dX7_has_64 : decode cX7_has 64 = .ok (.iaload, 1) := by decide +kernel
theorem dX7_has_65 : decode cX7_has 65 = .ok (.goto 32, 3) := by decide +kernel
theorem dX7_has_68 : decode cX7_has 68 = .ok (.iload_n 2, 1) := by decide +kernel
theorem dX7_has_69 : decode cX7_has 69 = .ok (.bipush 6, 2) := by decide +kernel
theorem dX7_has_71 : decode cX7_has 71 = .ok (.if_icmp .ne 12, 3) := by decide +kernel
theorem dX7_has_74 : decode cX7_has 74 = .ok (.aload_n 0, 1) := by decide +kernel
theorem dX7_has_75 : decode cX7_has 75 = .ok (.iconst 0, 1) := by decide +kernel
theorem dX7_has_76 : decode cX7_has 76 = .ok (.iload_n 1, 1) := by decide +kernel
theorem dX7_has_77 : decode cX7_has 77 = .ok (.invokevirtual 314, 3) := by decide +kernel
theorem dX7_has_80 : decode cX7_has 80 = .ok (.goto 17, 3) := by decide +kernel
theorem dX7_has_83 : decode cX7_has 83 = .ok (.aload_n 0, 1) := by decide +kernel
theorem dX7_has_84 : decode cX7_has 84 = .ok (.iconst 0, 1) := by decide +kernel
theorem dX7_has_85 : decode cX7_has 85 = .ok (.iload_n 1, 1) := by decide +kernel
theorem dX7_has_86 : decode cX7_has 86 = .ok (.invokevirtual 382, 3) := by decide +kernel
theorem dX7_has_89 : decode cX7_has 89 = .ok (.ifCond .ne 7, 3) := by decide +kernel
theorem dX7_has_92 : decode cX7_has 92 = .ok (.iconst 1, 1) := by decide +kernel
theorem dX7_has_93 : decode cX7_has 93 = .ok (.goto 4, 3) := by decide +kernel
theorem dX7_has_96 : decode cX7_has 96 = .ok (.iconst 0, 1) := by decide +kernel
theorem dX7_has_97 : decode cX7_has 97 = .ok (.ireturn, 1) := by decide +kernel
theorem dX7_isLump_0 : decode cX7_isLump 0 = .ok (.iload_n 1, 1) := by decide +kernel
theorem dX7_isLump_1 : decode cX7_isLump 1 = .ok (.ifCond .lt 17, 3) := by decide +kernel
theorem dX7_isLump_4 : decode cX7_isLump 4 = .ok (.iload_n 1, 1) := by decide +kernel
theorem dX7_isLump_5 : decode cX7_isLump 5 = .ok (.aload_n 0, 1) := by decide +kernel
theorem dX7_isLump_6 : decode cX7_isLump 6 = .ok (.getfield 146, 3) := by decide +kernel
theorem dX7_isLump_9 : decode cX7_isLump 9 = .ok (.iconst 0, 1) := by decide +kernel
theorem dX7_isLump_10 : decode cX7_isLump 10 = .ok (.iaload, 1) := by decide +kernel
theorem dX7_isLump_11 : decode cX7_isLump 11 = .ok (.if_icmp .ge 7, 3) := by decide +kernel
theorem dX7_isLump_14 : decode cX7_isLump 14 = .ok (.iconst 1, 1) := by decide +kernel
theorem dX7_isLump_15 : decode cX7_isLump 15 = .ok (.goto 4, 3) := by decide +kernel
theorem dX7_isLump_18 : decode cX7_isLump 18 = .ok (.iconst 0, 1) := by decide +kernel
theorem dX7_isLump_19 : decode cX7_isLump 19 = .ok (.ireturn, 1) := by decide +kernel
theorem dX7_familyOf_0 : decode cX7_familyOf 0 = .ok (.iconst (-1), 1) := by decide +kernel
theorem dX7_familyOf_1 : decode cX7_familyOf 1 = .ok (.istore_n 3, 1) := by decide +kernel
theorem dX7_familyOf_2 : decode cX7_familyOf 2 = .ok (.iconst 0, 1) := by decide +kernel
theorem dX7_familyOf_3 : decode cX7_familyOf 3 = .ok (.istore 4, 2) := by decide +kernel
theorem dX7_familyOf_5 : decode cX7_familyOf 5 = .ok (.iload 4, 2) := by decide +kernel
theorem dX7_familyOf_7 : decode cX7_familyOf 7 = .ok (.bipush 12, 2) := by decide +kernel
theorem dX7_familyOf_9 : decode cX7_familyOf 9 = .ok (.if_icmp .ge 65, 3) := by decide +kernel
theorem dX7_familyOf_12 : decode cX7_familyOf 12 = .ok (.aload_n 0, 1) := by decide +kernel
theorem dX7_familyOf_13 : decode cX7_familyOf 13 = .ok (.getfield 167, 3) := by decide +kernel
theorem dX7_familyOf_16 : decode cX7_familyOf 16 = .ok (.bipush 12, 2) := by decide +kernel
theorem dX7_familyOf_18 : decode cX7_familyOf 18 = .ok (.bipush 30, 2) := by decide +kernel
theorem dX7_familyOf_20 : decode cX7_familyOf 20 = .ok (.iload_n 1, 1) := by decide +kernel
theorem dX7_familyOf_21 : decode cX7_familyOf 21 = .ok (.imul, 1) := by decide +kernel
theorem dX7_familyOf_22 : decode cX7_familyOf 22 = .ok (.iload_n 2, 1) := by decide +kernel
theorem dX7_familyOf_23 : decode cX7_familyOf 23 = .ok (.iadd, 1) := by decide +kernel
theorem dX7_familyOf_24 : decode cX7_familyOf 24 = .ok (.imul, 1) := by decide +kernel
theorem dX7_familyOf_25 : decode cX7_familyOf 25 = .ok (.iload 4, 2) := by decide +kernel
theorem dX7_familyOf_27 : decode cX7_familyOf 27 = .ok (.iadd, 1) := by decide +kernel
theorem dX7_familyOf_28 : decode cX7_familyOf 28 = .ok (.iaload, 1) := by decide +kernel
theorem dX7_familyOf_29 : decode cX7_familyOf 29 = .ok (.istore 5, 2) := by decide +kernel
theorem dX7_familyOf_31 : decode cX7_familyOf 31 = .ok (.iload 5, 2) := by decide +kernel
theorem dX7_familyOf_33 : decode cX7_familyOf 33 = .ok (.ifCond .le 33, 3) := by decide +kernel
theorem dX7_familyOf_36 : decode cX7_familyOf 36 = .ok (.iload_n 3, 1) := by decide +kernel
theorem dX7_familyOf_37 : decode cX7_familyOf 37 = .ok (.ifCond .lt 24, 3) := by decide +kernel
theorem dX7_familyOf_40 : decode cX7_familyOf 40 = .ok (.iload 5, 2) := by decide +kernel
theorem dX7_familyOf_42 : decode cX7_familyOf 42 = .ok (.aload_n 0, 1) := by decide +kernel
theorem dX7_familyOf_43 : decode cX7_familyOf 43 = .ok (.getfield 167, 3) := by decide +kernel
theorem dX7_familyOf_46 : decode cX7_familyOf 46 = .ok (.bipush 12, 2) := by decide +kernel
theorem dX7_familyOf_48 : decode cX7_familyOf 48 = .ok (.bipush 30, 2) := by decide +kernel
theorem dX7_familyOf_50 : decode cX7_familyOf 50 = .ok (.iload_n 1, 1) := by decide +kernel
theorem dX7_familyOf_51 : decode cX7_familyOf 51 = .ok (.imul, 1) := by decide +kernel
theorem dX7_familyOf_52 : decode cX7_familyOf 52 = .ok (.iload_n 2, 1) := by decide +kernel
theorem dX7_familyOf_53 : decode cX7_familyOf 53 = .ok (.iadd, 1) := by decide +kernel
theorem dX7_familyOf_54 : decode cX7_familyOf 54 = .ok (.imul, 1) := by decide +kernel
theorem dX7_familyOf_55 : decode cX7_familyOf 55 = .ok (.iload_n 3, 1) := by decide +kernel
theorem dX7_familyOf_56 : decode cX7_familyOf 56 = .ok (.iadd, 1) := by decide +kernel
theorem dX7_familyOf_57 : decode cX7_familyOf 57 = .ok (.iaload, 1) := by decide +kernel
theorem dX7_familyOf_58 : decode cX7_familyOf 58 = .ok (.if_icmp .le 8, 3) := by decide +kernel
theorem dX7_familyOf_61 : decode cX7_familyOf 61 = .ok (.iload 4, 2) := by decide +kernel
theorem dX7_familyOf_63 : decode cX7_familyOf 63 = .ok (.goto 4, 3) := by decide +kernel
theorem dX7_familyOf_66 : decode cX7_familyOf 66 = .ok (.iload_n 3, 1) := by decide +kernel
theorem dX7_familyOf_67 : decode cX7_familyOf 67 = .ok (.istore_n 3, 1) := by decide +kernel
theorem dX7_familyOf_68 : decode cX7_familyOf 68 = .ok (.iinc 4 1, 3) := by decide +kernel
theorem dX7_familyOf_71 : decode cX7_familyOf 71 = .ok (.goto (-66), 3) := by decide +kernel
theorem dX7_familyOf_74 : decode cX7_familyOf 74 = .ok (.iload_n 3, 1) := by decide +kernel
theorem dX7_familyOf_75 : decode cX7_familyOf 75 = .ok (.ireturn, 1) := by decide +kernel
theorem dX7_seenBy_0 : decode cX7_seenBy 0 = .ok (.aload_n 0, 1) := by decide +kernel
theorem dX7_seenBy_1 : decode cX7_seenBy 1 = .ok (.iconst 0, 1) := by decide +kernel
theorem dX7_seenBy_2 : decode cX7_seenBy 2 = .ok (.iload_n 1, 1) := by decide +kernel
theorem dX7_seenBy_3 : decode cX7_seenBy 3 = .ok (.invokevirtual 376, 3) := by decide +kernel
theorem dX7_seenBy_6 : decode cX7_seenBy 6 = .ok (.aload_n 0, 1) := by decide +kernel
theorem dX7_seenBy_7 : decode cX7_seenBy 7 = .ok (.aload_n 0, 1) := by decide +kernel
theorem dX7_seenBy_8 : decode cX7_seenBy 8 = .ok (.getfield 249, 3) := by decide +kernel
theorem dX7_seenBy_11 : decode cX7_seenBy 11 = .ok (.putfield 298, 3) := by decide +kernel
theorem dX7_seenBy_14 : decode cX7_seenBy 14 = .ok (.aload_n 0, 1) := by decide +kernel
theorem dX7_seenBy_15 : decode cX7_seenBy 15 = .ok (.bipush 8, 2) := by decide +kernel
theorem dX7_seenBy_17 : decode cX7_seenBy 17 = .ok (.invokevirtual 359, 3) := by decide +kernel
theorem dX7_seenBy_20 : decode cX7_seenBy 20 = .ok (.istore_n 2, 1) := by decide +kernel
theorem dX7_seenBy_21 : decode cX7_seenBy 21 = .ok (.iload_n 2, 1) := by decide +kernel
theorem dX7_seenBy_22 : decode cX7_seenBy 22 = .ok (.ifCond .le 7, 3) := by decide +kernel
theorem dX7_seenBy_25 : decode cX7_seenBy 25 = .ok (.iload_n 2, 1) := by decide +kernel
theorem dX7_seenBy_26 : decode cX7_seenBy 26 = .ok (.goto 4, 3) := by decide +kernel
theorem dX7_seenBy_29 : decode cX7_seenBy 29 = .ok (.iconst (-1), 1) := by decide +kernel
theorem dX7_seenBy_30 : decode cX7_seenBy 30 = .ok (.ireturn, 1) := by decide +kernel
theorem dX7_look_0 : decode cX7_look 0 = .ok (.aload_n 0, 1) := by decide +kernel
theorem dX7_look_1 : decode cX7_look 1 = .ok (.iconst 0, 1) := by decide +kernel
theorem dX7_look_2 : decode cX7_look 2 = .ok (.putfield 1, 3) := by decide +kernel
theorem dX7_look_5 : decode cX7_look 5 = .ok (.aload_n 0, 1) := by decide +kernel
theorem dX7_look_6 : decode cX7_look 6 = .ok (.iload_n 1, 1) := by decide +kernel
theorem dX7_look_7 : decode cX7_look 7 = .ok (.invokevirtual 397, 3) := by decide +kernel
theorem dX7_look_10 : decode cX7_look 10 = .ok (.ifCond .eq 13, 3) := by decide +kernel
theorem dX7_look_13 : decode cX7_look 13 = .ok (.iload_n 2, 1) := by decide +kernel
theorem dX7_look_14 : decode cX7_look 14 = .ok (.iconst 0, 1) := by decide +kernel
theorem dX7_look_15 : decode cX7_look 15 = .ok (.bipush 9, 2) := by decide +kernel
theorem dX7_look_17 : decode cX7_look 17 = .ok (.invokestatic 301, 3) := by decide +kernel
theorem dX7_look_20 : decode cX7_look 20 = .ok (.ifCond .ne 5, 3) := by decide +kernel
theorem dX7_look_23 : decode cX7_look 23 = .ok (.iconst (-1), 1) := by decide +kernel
theorem dX7_look_24 : decode cX7_look 24 = .ok (.ireturn, 1) := by decide +kernel
theorem dX7_look_25 : decode cX7_look 25 = .ok (.iload_n 2, 1) := by decide +kernel
theorem dX7_look_26 : decode cX7_look 26 = .ok (.tableswitch 158 0 8 #[50, 57, 64, 71, 78, 85, 113, 120, 151], 50) := by decide +kernel
theorem dX7_look_76 : decode cX7_look 76 = .ok (.aload_n 0, 1) := by decide +kernel
theorem dX7_look_77 : decode cX7_look 77 = .ok (.getfield 149, 3) := by decide +kernel
theorem dX7_look_80 : decode cX7_look 80 = .ok (.iload_n 1, 1) := by decide +kernel
theorem dX7_look_81 : decode cX7_look 81 = .ok (.iaload, 1) := by decide +kernel
theorem dX7_look_82 : decode cX7_look 82 = .ok (.ireturn, 1) := by decide +kernel
theorem dX7_look_83 : decode cX7_look 83 = .ok (.aload_n 0, 1) := by decide +kernel
theorem dX7_look_84 : decode cX7_look 84 = .ok (.getfield 152, 3) := by decide +kernel
theorem dX7_look_87 : decode cX7_look 87 = .ok (.iload_n 1, 1) := by decide +kernel
theorem dX7_look_88 : decode cX7_look 88 = .ok (.iaload, 1) := by decide +kernel
theorem dX7_look_89 : decode cX7_look 89 = .ok (.ireturn, 1) := by decide +kernel
theorem dX7_look_90 : decode cX7_look 90 = .ok (.aload_n 0, 1) := by decide +kernel
theorem dX7_look_91 : decode cX7_look 91 = .ok (.iconst 0, 1) := by decide +kernel
theorem dX7_look_92 : decode cX7_look 92 = .ok (.iload_n 1, 1) := by decide +kernel
theorem dX7_look_93 : decode cX7_look 93 = .ok (.invokevirtual 326, 3) := by decide +kernel
theorem dX7_look_96 : decode cX7_look 96 = .ok (.ireturn, 1) := by decide +kernel
theorem dX7_look_97 : decode cX7_look 97 = .ok (.aload_n 0, 1) := by decide +kernel
theorem dX7_look_98 : decode cX7_look 98 = .ok (.getfield 155, 3) := by decide +kernel
theorem dX7_look_101 : decode cX7_look 101 = .ok (.iload_n 1, 1) := by decide +kernel
theorem dX7_look_102 : decode cX7_look 102 = .ok (.iaload, 1) := by decide +kernel
theorem dX7_look_103 : decode cX7_look 103 = .ok (.ireturn, 1) := by decide +kernel
theorem dX7_look_104 : decode cX7_look 104 = .ok (.aload_n 0, 1) := by decide +kernel
theorem dX7_look_105 : decode cX7_look 105 = .ok (.iconst 0, 1) := by decide +kernel
theorem dX7_look_106 : decode cX7_look 106 = .ok (.iload_n 1, 1) := by decide +kernel
theorem dX7_look_107 : decode cX7_look 107 = .ok (.invokevirtual 400, 3) := by decide +kernel
theorem dX7_look_110 : decode cX7_look 110 = .ok (.ireturn, 1) := by decide +kernel
theorem dX7_look_111 : decode cX7_look 111 = .ok (.aload_n 0, 1) := by decide +kernel
theorem dX7_look_112 : decode cX7_look 112 = .ok (.iconst 0, 1) := by decide +kernel
theorem dX7_look_113 : decode cX7_look 113 = .ok (.iload_n 1, 1) := by decide +kernel
theorem dX7_look_114 : decode cX7_look 114 = .ok (.invokevirtual 372, 3) := by decide +kernel
theorem dX7_look_117 : decode cX7_look 117 = .ok (.ifCond .ne 7, 3) := by decide +kernel
theorem dX7_look_120 : decode cX7_look 120 = .ok (.iconst (-1), 1) := by decide +kernel
theorem dX7_look_121 : decode cX7_look 121 = .ok (.goto 17, 3) := by decide +kernel
theorem dX7_look_124 : decode cX7_look 124 = .ok (.aload_n 0, 1) := by decide +kernel
theorem dX7_look_125 : decode cX7_look 125 = .ok (.iconst 0, 1) := by decide +kernel
theorem dX7_look_126 : decode cX7_look 126 = .ok (.iload_n 1, 1) := by decide +kernel
theorem dX7_look_127 : decode cX7_look 127 = .ok (.invokevirtual 385, 3) := by decide +kernel
theorem dX7_look_130 : decode cX7_look 130 = .ok (.ifCond .eq 7, 3) := by decide +kernel
theorem dX7_look_133 : decode cX7_look 133 = .ok (.iconst 1, 1) := by decide +kernel
theorem dX7_look_134 : decode cX7_look 134 = .ok (.goto 4, 3) := by decide +kernel
theorem dX7_look_137 : decode cX7_look 137 = .ok (.iconst 0, 1) := by decide +kernel
theorem dX7_look_138 : decode cX7_look 138 = .ok (.ireturn, 1) := by decide +kernel
theorem dX7_look_139 : decode cX7_look 139 = .ok (.aload_n 0, 1) := by decide +kernel
theorem dX7_look_140 : decode cX7_look 140 = .ok (.getfield 164, 3) := by decide +kernel
theorem dX7_look_143 : decode cX7_look 143 = .ok (.iload_n 1, 1) := by decide +kernel
theorem dX7_look_144 : decode cX7_look 144 = .ok (.iaload, 1) := by decide +kernel
theorem dX7_look_145 : decode cX7_look 145 = .ok (.ireturn, 1) := by decide +kernel
theorem dX7_look_146 : decode cX7_look 146 = .ok (.aload_n 0, 1) := by decide +kernel
theorem dX7_look_147 : decode cX7_look 147 = .ok (.iconst 0, 1) := by decide +kernel
theorem dX7_look_148 : decode cX7_look 148 = .ok (.iload_n 1, 1) := by decide +kernel
theorem dX7_look_149 : decode cX7_look 149 = .ok (.invokevirtual 372, 3) := by decide +kernel
theorem dX7_look_152 : decode cX7_look 152 = .ok (.ifCond .ne 7, 3) := by decide +kernel
theorem dX7_look_155 : decode cX7_look 155 = .ok (.iconst (-1), 1) := by decide +kernel
theorem dX7_look_156 : decode cX7_look 156 = .ok (.goto 20, 3) := by decide +kernel
theorem dX7_look_159 : decode cX7_look 159 = .ok (.aload_n 0, 1) := by decide +kernel
theorem dX7_look_160 : decode cX7_look 160 = .ok (.iload_n 1, 1) := by decide +kernel
theorem dX7_look_161 : decode cX7_look 161 = .ok (.invokevirtual 403, 3) := by decide +kernel
theorem dX7_look_164 : decode cX7_look 164 = .ok (.ifCond .ge 7, 3) := by decide +kernel
theorem dX7_look_167 : decode cX7_look 167 = .ok (.iconst 0, 1) := by decide +kernel
theorem dX7_look_168 : decode cX7_look 168 = .ok (.goto 8, 3) := by decide +kernel
theorem dX7_look_171 : decode cX7_look 171 = .ok (.aload_n 0, 1) := by decide +kernel
theorem dX7_look_172 : decode cX7_look 172 = .ok (.iload_n 1, 1) := by decide +kernel
theorem dX7_look_173 : decode cX7_look 173 = .ok (.invokevirtual 403, 3) := by decide +kernel
theorem dX7_look_176 : decode cX7_look 176 = .ok (.ireturn, 1) := by decide +kernel
theorem dX7_look_177 : decode cX7_look 177 = .ok (.aload_n 0, 1) := by decide +kernel
theorem dX7_look_178 : decode cX7_look 178 = .ok (.getfield 161, 3) := by decide +kernel
theorem dX7_look_181 : decode cX7_look 181 = .ok (.iload_n 1, 1) := by decide +kernel
theorem dX7_look_182 : decode cX7_look 182 = .ok (.iaload, 1) := by decide +kernel
theorem dX7_look_183 : decode cX7_look 183 = .ok (.ireturn, 1) := by decide +kernel
theorem dX7_look_184 : decode cX7_look 184 = .ok (.aload_n 0, 1) := by decide +kernel
theorem dX7_look_185 : decode cX7_look 185 = .ok (.getfield 158, 3) := by decide +kernel
theorem dX7_look_188 : decode cX7_look 188 = .ok (.iload_n 1, 1) := by decide +kernel
theorem dX7_look_189 : decode cX7_look 189 = .ok (.iaload, 1) := by decide +kernel
theorem dX7_look_190 : decode cX7_look 190 = .ok (.ireturn, 1) := by decide +kernel
theorem dX7_made_0 : decode cX7_made 0 = .ok (.aload_n 0, 1) := by decide +kernel
theorem dX7_made_1 : decode cX7_made 1 = .ok (.iconst 0, 1) := by decide +kernel
theorem dX7_made_2 : decode cX7_made 2 = .ok (.putfield 1, 3) := by decide +kernel
theorem dX7_made_5 : decode cX7_made 5 = .ok (.aload_n 0, 1) := by decide +kernel
theorem dX7_made_6 : decode cX7_made 6 = .ok (.iload_n 1, 1) := by decide +kernel
theorem dX7_made_7 : decode cX7_made 7 = .ok (.invokevirtual 397, 3) := by decide +kernel
theorem dX7_made_10 : decode cX7_made 10 = .ok (.ifCond .eq 25, 3) := by decide +kernel
theorem dX7_made_13 : decode cX7_made 13 = .ok (.aload_n 0, 1) := by decide +kernel
theorem dX7_made_14 : decode cX7_made 14 = .ok (.iload_n 2, 1) := by decide +kernel
theorem dX7_made_15 : decode cX7_made 15 = .ok (.invokevirtual 305, 3) := by decide +kernel
theorem dX7_made_18 : decode cX7_made 18 = .ok (.ifCond .eq 17, 3) := by decide +kernel
theorem dX7_made_21 : decode cX7_made 21 = .ok (.aload_n 0, 1) := by decide +kernel
theorem dX7_made_22 : decode cX7_made 22 = .ok (.getfield 167, 3) := by decide +kernel
theorem dX7_made_25 : decode cX7_made 25 = .ok (.bipush 12, 2) := by decide +kernel
theorem dX7_made_27 : decode cX7_made 27 = .ok (.iload_n 1, 1) := by decide +kernel
theorem dX7_made_28 : decode cX7_made 28 = .ok (.imul, 1) := by decide +kernel
theorem dX7_made_29 : decode cX7_made 29 = .ok (.iload_n 2, 1) := by decide +kernel
theorem dX7_made_30 : decode cX7_made 30 = .ok (.iadd, 1) := by decide +kernel
theorem dX7_made_31 : decode cX7_made 31 = .ok (.iaload, 1) := by decide +kernel
theorem dX7_made_32 : decode cX7_made 32 = .ok (.goto 4, 3) := by decide +kernel
theorem dX7_made_35 : decode cX7_made 35 = .ok (.iconst (-1), 1) := by decide +kernel
theorem dX7_made_36 : decode cX7_made 36 = .ok (.ireturn, 1) := by decide +kernel
theorem dX7_inRings_0 : decode cX7_inRings 0 = .ok (.lconst 0, 1) := by decide +kernel
theorem dX7_inRings_1 : decode cX7_inRings 1 = .ok (.lstore_n 1, 1) := by decide +kernel
theorem dX7_inRings_2 : decode cX7_inRings 2 = .ok (.iconst 0, 1) := by decide +kernel
theorem dX7_inRings_3 : decode cX7_inRings 3 = .ok (.istore_n 3, 1) := by decide +kernel
theorem dX7_inRings_4 : decode cX7_inRings 4 = .ok (.iload_n 3, 1) := by decide +kernel
theorem dX7_inRings_5 : decode cX7_inRings 5 = .ok (.bipush 12, 2) := by decide +kernel
theorem dX7_inRings_7 : decode cX7_inRings 7 = .ok (.if_icmp .ge 26, 3) := by decide +kernel
theorem dX7_inRings_10 : decode cX7_inRings 10 = .ok (.lload_n 1, 1) := by decide +kernel
theorem dX7_inRings_11 : decode cX7_inRings 11 = .ok (.aload_n 0, 1) := by decide +kernel
theorem dX7_inRings_12 : decode cX7_inRings 12 = .ok (.getfield 119, 3) := by decide +kernel
theorem dX7_inRings_15 : decode cX7_inRings 15 = .ok (.iload_n 3, 1) := by decide +kernel
theorem dX7_inRings_16 : decode cX7_inRings 16 = .ok (.iaload, 1) := by decide +kernel
theorem dX7_inRings_17 : decode cX7_inRings 17 = .ok (.aload_n 0, 1) := by decide +kernel
theorem dX7_inRings_18 : decode cX7_inRings 18 = .ok (.iconst 0, 1) := by decide +kernel
theorem dX7_inRings_19 : decode cX7_inRings 19 = .ok (.iload_n 3, 1) := by decide +kernel
theorem dX7_inRings_20 : decode cX7_inRings 20 = .ok (.invokevirtual 314, 3) := by decide +kernel
theorem dX7_inRings_23 : decode cX7_inRings 23 = .ok (.iadd, 1) := by decide +kernel
theorem dX7_inRings_24 : decode cX7_inRings 24 = .ok (.i2l, 1) := by decide +kernel
theorem dX7_inRings_25 : decode cX7_inRings 25 = .ok (.ladd, 1) := by decide +kernel
theorem dX7_inRings_26 : decode cX7_inRings 26 = .ok (.lstore_n 1, 1) := by decide +kernel
theorem dX7_inRings_27 : decode cX7_inRings 27 = .ok (.iinc 3 1, 3) := by decide +kernel
theorem dX7_inRings_30 : decode cX7_inRings 30 = .ok (.goto (-26), 3) := by decide +kernel
theorem dX7_inRings_33 : decode cX7_inRings 33 = .ok (.lload_n 1, 1) := by decide +kernel
theorem dX7_inRings_34 : decode cX7_inRings 34 = .ok (.lreturn, 1) := by decide +kernel
theorem dX7_inLumps_0 : decode cX7_inLumps 0 = .ok (.lconst 0, 1) := by decide +kernel
theorem dX7_inLumps_1 : decode cX7_inLumps 1 = .ok (.lstore_n 1, 1) := by decide +kernel
theorem dX7_inLumps_2 : decode cX7_inLumps 2 = .ok (.iconst 0, 1) := by decide +kernel
theorem dX7_inLumps_3 : decode cX7_inLumps 3 = .ok (.istore_n 3, 1) := by decide +kernel
theorem dX7_inLumps_4 : decode cX7_inLumps 4 = .ok (.iload_n 3, 1) := by decide +kernel
theorem dX7_inLumps_5 : decode cX7_inLumps 5 = .ok (.aload_n 0, 1) := by decide +kernel
theorem dX7_inLumps_6 : decode cX7_inLumps 6 = .ok (.getfield 146, 3) := by decide +kernel
theorem dX7_inLumps_9 : decode cX7_inLumps 9 = .ok (.iconst 0, 1) := by decide +kernel
theorem dX7_inLumps_10 : decode cX7_inLumps 10 = .ok (.iaload, 1) := by decide +kernel
theorem dX7_inLumps_11 : decode cX7_inLumps 11 = .ok (.if_icmp .ge 32, 3) := by decide +kernel
theorem dX7_inLumps_14 : decode cX7_inLumps 14 = .ok (.lload_n 1, 1) := by decide +kernel
theorem dX7_inLumps_15 : decode cX7_inLumps 15 = .ok (.aload_n 0, 1) := by decide +kernel
theorem dX7_inLumps_16 : decode cX7_inLumps 16 = .ok (.iconst 0, 1) := by decide +kernel
theorem dX7_inLumps_17 : decode cX7_inLumps 17 = .ok (.iload_n 3, 1) := by decide +kernel
theorem dX7_inLumps_18 : decode cX7_inLumps 18 = .ok (.invokevirtual 372, 3) := by decide +kernel
theorem dX7_inLumps_21 : decode cX7_inLumps 21 = .ok (.ifCond .eq 13, 3) := by decide +kernel
theorem dX7_inLumps_24 : decode cX7_inLumps 24 = .ok (.aload_n 0, 1) := by decide +kernel
theorem dX7_inLumps_25 : decode cX7_inLumps 25 = .ok (.iconst 0, 1) := by decide +kernel
theorem dX7_inLumps_26 : decode cX7_inLumps 26 = .ok (.iload_n 3, 1) := by decide +kernel
theorem dX7_inLumps_27 : decode cX7_inLumps 27 = .ok (.invokevirtual 326, 3) := by decide +kernel
theorem dX7_inLumps_30 : decode cX7_inLumps 30 = .ok (.i2l, 1) := by decide +kernel
theorem dX7_inLumps_31 : decode cX7_inLumps 31 = .ok (.goto 4, 3) := by decide +kernel
theorem dX7_inLumps_34 : decode cX7_inLumps 34 = .ok (.lconst 0, 1) := by decide +kernel
theorem dX7_inLumps_35 : decode cX7_inLumps 35 = .ok (.ladd, 1) := by decide +kernel
theorem dX7_inLumps_36 : decode cX7_inLumps 36 = .ok (.lstore_n 1, 1) := by decide +kernel
theorem dX7_inLumps_37 : decode cX7_inLumps 37 = .ok (.iinc 3 1, 3) := by decide +kernel
theorem dX7_inLumps_40 : decode cX7_inLumps 40 = .ok (.goto (-36), 3) := by decide +kernel
theorem dX7_inLumps_43 : decode cX7_inLumps 43 = .ok (.lload_n 1, 1) := by decide +kernel
theorem dX7_inLumps_44 : decode cX7_inLumps 44 = .ok (.lreturn, 1) := by decide +kernel
theorem dX7_parts_0 : decode cX7_parts 0 = .ok (.aload_n 0, 1) := by decide +kernel
theorem dX7_parts_1 : decode cX7_parts 1 = .ok (.iconst 0, 1) := by decide +kernel
theorem dX7_parts_2 : decode cX7_parts 2 = .ok (.putfield 1, 3) := by decide +kernel
theorem dX7_parts_5 : decode cX7_parts 5 = .ok (.iload_n 1, 1) := by decide +kernel
theorem dX7_parts_6 : decode cX7_parts 6 = .ok (.tableswitch 82 0 4 #[34, 39, 44, 51, 58], 34) := by decide +kernel
theorem dX7_parts_40 : decode cX7_parts 40 = .ok (.aload_n 0, 1) := by decide +kernel
theorem dX7_parts_41 : decode cX7_parts 41 = .ok (.invokevirtual 406, 3) := by decide +kernel
theorem dX7_parts_44 : decode cX7_parts 44 = .ok (.lreturn, 1) := by decide +kernel
theorem dX7_parts_45 : decode cX7_parts 45 = .ok (.aload_n 0, 1) := by decide +kernel
theorem dX7_parts_46 : decode cX7_parts 46 = .ok (.invokevirtual 410, 3) := by decide +kernel
theorem dX7_parts_49 : decode cX7_parts 49 = .ok (.lreturn, 1) := by decide +kernel
theorem dX7_parts_50 : decode cX7_parts 50 = .ok (.aload_n 0, 1) := by decide +kernel
theorem dX7_parts_51 : decode cX7_parts 51 = .ok (.getfield 140, 3) := by decide +kernel
theorem dX7_parts_54 : decode cX7_parts 54 = .ok (.iconst 0, 1) := by decide +kernel
theorem dX7_parts_55 : decode cX7_parts 55 = .ok (.laload, 1) := by decide +kernel
theorem dX7_parts_56 : decode cX7_parts 56 = .ok (.lreturn, 1) := by decide +kernel
theorem dX7_parts_57 : decode cX7_parts 57 = .ok (.aload_n 0, 1) := by decide +kernel
theorem dX7_parts_58 : decode cX7_parts 58 = .ok (.getfield 143, 3) := by decide +kernel
theorem dX7_parts_61 : decode cX7_parts 61 = .ok (.iconst 0, 1) := by decide +kernel
theorem dX7_parts_62 : decode cX7_parts 62 = .ok (.laload, 1) := by decide +kernel
theorem dX7_parts_63 : decode cX7_parts 63 = .ok (.lreturn, 1) := by decide +kernel
theorem dX7_parts_64 : decode cX7_parts 64 = .ok (.aload_n 0, 1) := by decide +kernel
theorem dX7_parts_65 : decode cX7_parts 65 = .ok (.invokevirtual 406, 3) := by decide +kernel
theorem dX7_parts_68 : decode cX7_parts 68 = .ok (.aload_n 0, 1) := by decide +kernel
theorem dX7_parts_69 : decode cX7_parts 69 = .ok (.invokevirtual 410, 3) := by decide +kernel
theorem dX7_parts_72 : decode cX7_parts 72 = .ok (.ladd, 1) := by decide +kernel
theorem dX7_parts_73 : decode cX7_parts 73 = .ok (.aload_n 0, 1) := by decide +kernel
theorem dX7_parts_74 : decode cX7_parts 74 = .ok (.getfield 140, 3) := by decide +kernel
theorem dX7_parts_77 : decode cX7_parts 77 = .ok (.iconst 0, 1) := by decide +kernel
theorem dX7_parts_78 : decode cX7_parts 78 = .ok (.laload, 1) := by decide +kernel
theorem dX7_parts_79 : decode cX7_parts 79 = .ok (.ladd, 1) := by decide +kernel
theorem dX7_parts_80 : decode cX7_parts 80 = .ok (.aload_n 0, 1) := by decide +kernel
theorem dX7_parts_81 : decode cX7_parts 81 = .ok (.getfield 143, 3) := by decide +kernel
theorem dX7_parts_84 : decode cX7_parts 84 = .ok (.iconst 0, 1) := by decide +kernel
theorem dX7_parts_85 : decode cX7_parts 85 = .ok (.laload, 1) := by decide +kernel
theorem dX7_parts_86 : decode cX7_parts 86 = .ok (.ladd, 1) := by decide +kernel
theorem dX7_parts_87 : decode cX7_parts 87 = .ok (.lreturn, 1) := by decide +kernel
theorem dX7_parts_88 : decode cX7_parts 88 = .ok (.ldc2_w 413, 3) := by decide +kernel
theorem dX7_parts_91 : decode cX7_parts 91 = .ok (.lreturn, 1) := by decide +kernel
theorem dX7_tries_0 : decode cX7_tries 0 = .ok (.aload_n 0, 1) := by decide +kernel
theorem dX7_tries_1 : decode cX7_tries 1 = .ok (.iconst 0, 1) := by decide +kernel
theorem dX7_tries_2 : decode cX7_tries 2 = .ok (.bipush 7, 2) := by decide +kernel
theorem dX7_tries_4 : decode cX7_tries 4 = .ok (.invokevirtual 415, 3) := by decide +kernel
theorem dX7_tries_7 : decode cX7_tries 7 = .ok (.aload_n 0, 1) := by decide +kernel
theorem dX7_tries_8 : decode cX7_tries 8 = .ok (.iload_n 1, 1) := by decide +kernel
theorem dX7_tries_9 : decode cX7_tries 9 = .ok (.putfield 298, 3) := by decide +kernel
theorem dX7_tries_12 : decode cX7_tries 12 = .ok (.iconst 0, 1) := by decide +kernel
theorem dX7_tries_13 : decode cX7_tries 13 = .ok (.istore_n 3, 1) := by decide +kernel
theorem dX7_tries_14 : decode cX7_tries 14 = .ok (.iload_n 3, 1) := by decide +kernel
theorem dX7_tries_15 : decode cX7_tries 15 = .ok (.iload_n 2, 1) := by decide +kernel
theorem dX7_tries_16 : decode cX7_tries 16 = .ok (.if_icmp .ge 15, 3) := by decide +kernel
theorem dX7_tries_19 : decode cX7_tries 19 = .ok (.aload_n 0, 1) := by decide +kernel
theorem dX7_tries_20 : decode cX7_tries 20 = .ok (.bipush 7, 2) := by decide +kernel
theorem dX7_tries_22 : decode cX7_tries 22 = .ok (.invokevirtual 394, 3) := by decide +kernel
theorem dX7_tries_25 : decode cX7_tries 25 = .ok (.iinc 3 1, 3) := by decide +kernel
theorem dX7_tries_28 : decode cX7_tries 28 = .ok (.goto (-14), 3) := by decide +kernel
theorem dX7_tries_31 : decode cX7_tries 31 = .ok (.return_, 1) := by decide +kernel
theorem dX7_isAsked_0 : decode cX7_isAsked 0 = .ok (.iload_n 2, 1) := by decide +kernel
theorem dX7_isAsked_1 : decode cX7_isAsked 1 = .ok (.ifCond .eq 13, 3) := by decide +kernel
theorem dX7_isAsked_4 : decode cX7_isAsked 4 = .ok (.iload_n 2, 1) := by decide +kernel
theorem dX7_isAsked_5 : decode cX7_isAsked 5 = .ok (.iconst 1, 1) := by decide +kernel
theorem dX7_isAsked_6 : decode cX7_isAsked 6 = .ok (.if_icmp .eq 8, 3) := by decide +kernel
theorem dX7_isAsked_9 : decode cX7_isAsked 9 = .ok (.iload_n 2, 1) := by decide +kernel
theorem dX7_isAsked_10 : decode cX7_isAsked 10 = .ok (.iconst 3, 1) := by decide +kernel
theorem dX7_isAsked_11 : decode cX7_isAsked 11 = .ok (.if_icmp .ne 7, 3) := by decide +kernel
theorem dX7_isAsked_14 : decode cX7_isAsked 14 = .ok (.iconst 1, 1) := by decide +kernel
theorem dX7_isAsked_15 : decode cX7_isAsked 15 = .ok (.goto 4, 3) := by decide +kernel
theorem dX7_isAsked_18 : decode cX7_isAsked 18 = .ok (.iconst 0, 1) := by decide +kernel
theorem dX7_isAsked_19 : decode cX7_isAsked 19 = .ok (.istore 4, 2) := by decide +kernel
theorem dX7_isAsked_21 : decode cX7_isAsked 21 = .ok (.iload_n 1, 1) := by decide +kernel
theorem dX7_isAsked_22 : decode cX7_isAsked 22 = .ok (.iconst 0, 1) := by decide +kernel
theorem dX7_isAsked_23 : decode cX7_isAsked 23 = .ok (.bipush 100, 2) := by decide +kernel
theorem dX7_isAsked_25 : decode cX7_isAsked 25 = .ok (.invokestatic 301, 3) := by decide +kernel
theorem dX7_isAsked_28 : decode cX7_isAsked 28 = .ok (.ifCond .eq 43, 3) := by decide +kernel
theorem dX7_isAsked_31 : decode cX7_isAsked 31 = .ok (.iload_n 2, 1) := by decide +kernel
theorem dX7_isAsked_32 : decode cX7_isAsked 32 = .ok (.iconst 0, 1) := by decide +kernel
theorem dX7_isAsked_33 : decode cX7_isAsked 33 = .ok (.iconst 4, 1) := by decide +kernel
theorem dX7_isAsked_34 : decode cX7_isAsked 34 = .ok (.invokestatic 301, 3) := by decide +kernel
theorem dX7_isAsked_37 : decode cX7_isAsked 37 = .ok (.ifCond .eq 34, 3) := by decide +kernel
theorem dX7_isAsked_40 : decode cX7_isAsked 40 = .ok (.iload 4, 2) := by decide +kernel
theorem dX7_isAsked_42 : decode cX7_isAsked 42 = .ok (.ifCond .eq 14, 3) := by decide +kernel
theorem dX7_isAsked_45 : decode cX7_isAsked 45 = .ok (.aload_n 0, 1) := by decide +kernel
theorem dX7_isAsked_46 : decode cX7_isAsked 46 = .ok (.iload_n 3, 1) := by decide +kernel
theorem dX7_isAsked_47 : decode cX7_isAsked 47 = .ok (.invokevirtual 305, 3) := by decide +kernel
theorem dX7_isAsked_50 : decode cX7_isAsked 50 = .ok (.ifCond .eq 21, 3) := by decide +kernel
theorem dX7_isAsked_53 : decode cX7_isAsked 53 = .ok (.goto 14, 3) := by decide +kernel
theorem dX7_isAsked_56 : decode cX7_isAsked 56 = .ok (.iload_n 3, 1) := by decide +kernel
theorem dX7_isAsked_57 : decode cX7_isAsked 57 = .ok (.iconst 0, 1) := by decide +kernel
theorem dX7_isAsked_58 : decode cX7_isAsked 58 = .ok (.ldc_w 418, 3) := by decide +kernel
theorem dX7_isAsked_61 : decode cX7_isAsked 61 = .ok (.invokestatic 301, 3) := by decide +kernel
theorem dX7_isAsked_64 : decode cX7_isAsked 64 = .ok (.ifCond .eq 7, 3) := by decide +kernel
theorem dX7_isAsked_67 : decode cX7_isAsked 67 = .ok (.iconst 1, 1) := by decide +kernel
theorem dX7_isAsked_68 : decode cX7_isAsked 68 = .ok (.goto 4, 3) := by decide +kernel
theorem dX7_isAsked_71 : decode cX7_isAsked 71 = .ok (.iconst 0, 1) := by decide +kernel
theorem dX7_isAsked_72 : decode cX7_isAsked 72 = .ok (.ireturn, 1) := by decide +kernel
theorem dX7_isSo_0 : decode cX7_isSo 0 = .ok (.iload_n 1, 1) := by decide +kernel
theorem dX7_isSo_1 : decode cX7_isSo 1 = .ok (.ifCond .ne 19, 3) := by decide +kernel
theorem dX7_isSo_4 : decode cX7_isSo 4 = .ok (.aload_n 0, 1) := by decide +kernel
theorem dX7_isSo_5 : decode cX7_isSo 5 = .ok (.bipush 7, 2) := by decide +kernel
theorem dX7_isSo_7 : decode cX7_isSo 7 = .ok (.iload_n 2, 1) := by decide +kernel
theorem dX7_isSo_8 : decode cX7_isSo 8 = .ok (.invokevirtual 314, 3) := by decide +kernel
theorem dX7_isSo_11 : decode cX7_isSo 11 = .ok (.ifCond .ne 7, 3) := by decide +kernel
theorem dX7_isSo_14 : decode cX7_isSo 14 = .ok (.iconst 1, 1) := by decide +kernel
theorem dX7_isSo_15 : decode cX7_isSo 15 = .ok (.goto 4, 3) := by decide +kernel
theorem dX7_isSo_18 : decode cX7_isSo 18 = .ok (.iconst 0, 1) := by decide +kernel
theorem dX7_isSo_19 : decode cX7_isSo 19 = .ok (.ireturn, 1) := by decide +kernel
theorem dX7_isSo_20 : decode cX7_isSo 20 = .ok (.iload_n 1, 1) := by decide +kernel
theorem dX7_isSo_21 : decode cX7_isSo 21 = .ok (.iconst 2, 1) := by decide +kernel
theorem dX7_isSo_22 : decode cX7_isSo 22 = .ok (.if_icmp .ne 19, 3) := by decide +kernel
theorem dX7_isSo_25 : decode cX7_isSo 25 = .ok (.aload_n 0, 1) := by decide +kernel
theorem dX7_isSo_26 : decode cX7_isSo 26 = .ok (.bipush 7, 2) := by decide +kernel
theorem dX7_isSo_28 : decode cX7_isSo 28 = .ok (.invokevirtual 317, 3) := by decide +kernel
theorem dX7_isSo_31 : decode cX7_isSo 31 = .ok (.iload_n 2, 1) := by decide +kernel
theorem dX7_isSo_32 : decode cX7_isSo 32 = .ok (.if_icmp .lt 7, 3) := by decide +kernel
theorem dX7_isSo_35 : decode cX7_isSo 35 = .ok (.iconst 1, 1) := by decide +kernel
theorem dX7_isSo_36 : decode cX7_isSo 36 = .ok (.goto 4, 3) := by decide +kernel
theorem dX7_isSo_39 : decode cX7_isSo 39 = .ok (.iconst 0, 1) := by decide +kernel
theorem dX7_isSo_40 : decode cX7_isSo 40 = .ok (.ireturn, 1) := by decide +kernel
theorem dX7_isSo_41 : decode cX7_isSo 41 = .ok (.iload_n 1, 1) := by decide +kernel
theorem dX7_isSo_42 : decode cX7_isSo 42 = .ok (.iconst 4, 1) := by decide +kernel
theorem dX7_isSo_43 : decode cX7_isSo 43 = .ok (.if_icmp .ne 22, 3) := by decide +kernel
theorem dX7_isSo_46 : decode cX7_isSo 46 = .ok (.aload_n 0, 1) := by decide +kernel
theorem dX7_isSo_47 : decode cX7_isSo 47 = .ok (.getfield 140, 3) := by decide +kernel
theorem dX7_isSo_50 : decode cX7_isSo 50 = .ok (.bipush 7, 2) := by decide +kernel
theorem dX7_isSo_52 : decode cX7_isSo 52 = .ok (.laload, 1) := by decide +kernel
theorem dX7_isSo_53 : decode cX7_isSo 53 = .ok (.iload_n 2, 1) := by decide +kernel
theorem dX7_isSo_54 : decode cX7_isSo 54 = .ok (.i2l, 1) := by decide +kernel
theorem dX7_isSo_55 : decode cX7_isSo 55 = .ok (.lcmp, 1) := by decide +kernel
theorem dX7_isSo_56 : decode cX7_isSo 56 = .ok (.ifCond .lt 7, 3) := by decide +kernel
theorem dX7_isSo_59 : decode cX7_isSo 59 = .ok (.iconst 1, 1) := by decide +kernel
theorem dX7_isSo_60 : decode cX7_isSo 60 = .ok (.goto 4, 3) := by decide +kernel
theorem dX7_isSo_63 : decode cX7_isSo 63 = .ok (.iconst 0, 1) := by decide +kernel
theorem dX7_isSo_64 : decode cX7_isSo 64 = .ok (.ireturn, 1) := by decide +kernel
theorem dX7_isSo_65 : decode cX7_isSo 65 = .ok (.iconst 0, 1) := by decide +kernel
theorem dX7_isSo_66 : decode cX7_isSo 66 = .ok (.istore_n 3, 1) := by decide +kernel
theorem dX7_isSo_67 : decode cX7_isSo 67 = .ok (.iconst 0, 1) := by decide +kernel
theorem dX7_isSo_68 : decode cX7_isSo 68 = .ok (.istore 4, 2) := by decide +kernel
theorem dX7_isSo_70 : decode cX7_isSo 70 = .ok (.iload 4, 2) := by decide +kernel
theorem dX7_isSo_72 : decode cX7_isSo 72 = .ok (.aload_n 0, 1) := by decide +kernel
theorem dX7_isSo_73 : decode cX7_isSo 73 = .ok (.getfield 146, 3) := by decide +kernel
theorem dX7_isSo_76 : decode cX7_isSo 76 = .ok (.bipush 7, 2) := by decide +kernel
theorem dX7_isSo_78 : decode cX7_isSo 78 = .ok (.iaload, 1) := by decide +kernel
theorem dX7_isSo_79 : decode cX7_isSo 79 = .ok (.if_icmp .ge 61, 3) := by decide +kernel
theorem dX7_isSo_82 : decode cX7_isSo 82 = .ok (.iload_n 3, 1) := by decide +kernel
theorem dX7_isSo_83 : decode cX7_isSo 83 = .ok (.ifCond .ne 45, 3) := by decide +kernel
theorem dX7_isSo_86 : decode cX7_isSo 86 = .ok (.aload_n 0, 1) := by decide +kernel
theorem dX7_isSo_87 : decode cX7_isSo 87 = .ok (.bipush 7, 2) := by decide +kernel
theorem dX7_isSo_89 : decode cX7_isSo 89 = .ok (.iload 4, 2) := by decide +kernel
theorem dX7_isSo_91 : decode cX7_isSo 91 = .ok (.invokevirtual 372, 3) := by decide +kernel
theorem dX7_isSo_94 : decode cX7_isSo 94 = .ok (.ifCond .eq 38, 3) := by decide +kernel
theorem dX7_isSo_97 : decode cX7_isSo 97 = .ok (.iload_n 1, 1) := by decide +kernel
theorem dX7_isSo_98 : decode cX7_isSo 98 = .ok (.iconst 1, 1) := by decide +kernel
theorem dX7_isSo_99 : decode cX7_isSo 99 = .ok (.if_icmp .ne 17, 3) := by decide +kernel
theorem dX7_isSo_102 : decode cX7_isSo 102 = .ok (.aload_n 0, 1) := by decide +kernel
theorem dX7_isSo_103 : decode cX7_isSo 103 = .ok (.getfield 152, 3) := by decide +kernel
theorem dX7_isSo_106 : decode cX7_isSo 106 = .ok (.sipush 210, 3) := by decide +kernel
theorem dX7_isSo_109 : decode cX7_isSo 109 = .ok (.iload 4, 2) := by decide +kernel
theorem dX7_isSo_111 : decode cX7_isSo 111 = .ok (.iadd, 1) := by decide +kernel
theorem dX7_isSo_112 : decode cX7_isSo 112 = .ok (.iaload, 1) := by decide +kernel
theorem dX7_isSo_113 : decode cX7_isSo 113 = .ok (.goto 11, 3) := by decide +kernel
theorem dX7_isSo_116 : decode cX7_isSo 116 = .ok (.aload_n 0, 1) := by decide +kernel
theorem dX7_isSo_117 : decode cX7_isSo 117 = .ok (.bipush 7, 2) := by decide +kernel
theorem dX7_isSo_119 : decode cX7_isSo 119 = .ok (.iload 4, 2) := by decide +kernel
theorem dX7_isSo_121 : decode cX7_isSo 121 = .ok (.invokevirtual 400, 3) := by decide +kernel
theorem dX7_isSo_124 : decode cX7_isSo 124 = .ok (.iload_n 2, 1) := by decide +kernel
theorem dX7_isSo_125 : decode cX7_isSo 125 = .ok (.if_icmp .ne 7, 3) := by decide +kernel
theorem dX7_isSo_128 : decode cX7_isSo 128 = .ok (.iconst 1, 1) := by decide +kernel
theorem dX7_isSo_129 : decode cX7_isSo 129 = .ok (.goto 4, 3) := by decide +kernel
theorem dX7_isSo_132 : decode cX7_isSo 132 = .ok (.iconst 0, 1) := by decide +kernel
theorem dX7_isSo_133 : decode cX7_isSo 133 = .ok (.istore_n 3, 1) := by decide +kernel
theorem dX7_isSo_134 : decode cX7_isSo 134 = .ok (.iinc 4 1, 3) := by decide +kernel
theorem dX7_isSo_137 : decode cX7_isSo 137 = .ok (.goto (-67), 3) := by decide +kernel
theorem dX7_isSo_140 : decode cX7_isSo 140 = .ok (.iload_n 3, 1) := by decide +kernel
theorem dX7_isSo_141 : decode cX7_isSo 141 = .ok (.ireturn, 1) := by decide +kernel
theorem dX7_asked_0 : decode cX7_asked 0 = .ok (.aload_n 0, 1) := by decide +kernel
theorem dX7_asked_1 : decode cX7_asked 1 = .ok (.iconst 0, 1) := by decide +kernel
theorem dX7_asked_2 : decode cX7_asked 2 = .ok (.putfield 1, 3) := by decide +kernel
theorem dX7_asked_5 : decode cX7_asked 5 = .ok (.aload_n 0, 1) := by decide +kernel
theorem dX7_asked_6 : decode cX7_asked 6 = .ok (.iload_n 1, 1) := by decide +kernel
theorem dX7_asked_7 : decode cX7_asked 7 = .ok (.invokevirtual 311, 3) := by decide +kernel
theorem dX7_asked_10 : decode cX7_asked 10 = .ok (.ifCond .eq 14, 3) := by decide +kernel
theorem dX7_asked_13 : decode cX7_asked 13 = .ok (.aload_n 0, 1) := by decide +kernel
theorem dX7_asked_14 : decode cX7_asked 14 = .ok (.iload_n 2, 1) := by decide +kernel
theorem dX7_asked_15 : decode cX7_asked 15 = .ok (.iload_n 3, 1) := by decide +kernel
theorem dX7_asked_16 : decode cX7_asked 16 = .ok (.iload 4, 2) := by decide +kernel
theorem dX7_asked_18 : decode cX7_asked 18 = .ok (.invokevirtual 419, 3) := by decide +kernel
theorem dX7_asked_21 : decode cX7_asked 21 = .ok (.ifCond .ne 5, 3) := by decide +kernel
theorem dX7_asked_24 : decode cX7_asked 24 = .ok (.iconst (-1), 1) := by decide +kernel
theorem dX7_asked_25 : decode cX7_asked 25 = .ok (.ireturn, 1) := by decide +kernel
theorem dX7_asked_26 : decode cX7_asked 26 = .ok (.aload_n 0, 1) := by decide +kernel
theorem dX7_asked_27 : decode cX7_asked 27 = .ok (.iload_n 1, 1) := by decide +kernel
theorem dX7_asked_28 : decode cX7_asked 28 = .ok (.iload_n 2, 1) := by decide +kernel
theorem dX7_asked_29 : decode cX7_asked 29 = .ok (.invokevirtual 422, 3) := by decide +kernel
theorem dX7_asked_32 : decode cX7_asked 32 = .ok (.aload_n 0, 1) := by decide +kernel
theorem dX7_asked_33 : decode cX7_asked 33 = .ok (.iload_n 3, 1) := by decide +kernel
theorem dX7_asked_34 : decode cX7_asked 34 = .ok (.iload 4, 2) := by decide +kernel
theorem dX7_asked_36 : decode cX7_asked 36 = .ok (.invokevirtual 425, 3) := by decide +kernel
theorem dX7_asked_39 : decode cX7_asked 39 = .ok (.ifCond .eq 7, 3) := by decide +kernel
theorem dX7_asked_42 : decode cX7_asked 42 = .ok (.iconst 1, 1) := by decide +kernel
theorem dX7_asked_43 : decode cX7_asked 43 = .ok (.goto 4, 3) := by decide +kernel
theorem dX7_asked_46 : decode cX7_asked 46 = .ok (.iconst 0, 1) := by decide +kernel
theorem dX7_asked_47 : decode cX7_asked 47 = .ok (.ireturn, 1) := by decide +kernel
theorem dX7_sure_0 : decode cX7_sure 0 = .ok (.aload_n 0, 1) := by decide +kernel
theorem dX7_sure_1 : decode cX7_sure 1 = .ok (.iconst 0, 1) := by decide +kernel
theorem dX7_sure_2 : decode cX7_sure 2 = .ok (.putfield 1, 3) := by decide +kernel
theorem dX7_sure_5 : decode cX7_sure 5 = .ok (.aload_n 0, 1) := by decide +kernel
theorem dX7_sure_6 : decode cX7_sure 6 = .ok (.iload_n 1, 1) := by decide +kernel
theorem dX7_sure_7 : decode cX7_sure 7 = .ok (.iload_n 2, 1) := by decide +kernel
theorem dX7_sure_8 : decode cX7_sure 8 = .ok (.iload_n 3, 1) := by decide +kernel
theorem dX7_sure_9 : decode cX7_sure 9 = .ok (.invokevirtual 419, 3) := by decide +kernel
theorem dX7_sure_12 : decode cX7_sure 12 = .ok (.ifCond .ne 5, 3) := by decide +kernel
theorem dX7_sure_15 : decode cX7_sure 15 = .ok (.iconst (-1), 1) := by decide +kernel
theorem dX7_sure_16 : decode cX7_sure 16 = .ok (.ireturn, 1) := by decide +kernel
theorem dX7_sure_17 : decode cX7_sure 17 = .ok (.iconst 1, 1) := by decide +kernel
theorem dX7_sure_18 : decode cX7_sure 18 = .ok (.istore 4, 2) := by decide +kernel
theorem dX7_sure_20 : decode cX7_sure 20 = .ok (.iconst 0, 1) := by decide +kernel
theorem dX7_sure_21 : decode cX7_sure 21 = .ok (.istore 5, 2) := by decide +kernel
theorem dX7_sure_23 : decode cX7_sure 23 = .ok (.iconst 0, 1) := by decide +kernel
theorem dX7_sure_24 : decode cX7_sure 24 = .ok (.istore 6, 2) := by decide +kernel
theorem dX7_sure_26 : decode cX7_sure 26 = .ok (.iload 6, 2) := by decide +kernel
theorem dX7_sure_28 : decode cX7_sure 28 = .ok (.iconst 1, 1) := by decide +kernel
theorem dX7_sure_29 : decode cX7_sure 29 = .ok (.aload_n 0, 1) := by decide +kernel
theorem dX7_sure_30 : decode cX7_sure 30 = .ok (.getfield 101, 3) := by decide +kernel
theorem dX7_sure_33 : decode cX7_sure 33 = .ok (.aload_n 0, 1) := by decide +kernel
theorem dX7_sure_34 : decode cX7_sure 34 = .ok (.getfield 243, 3) := by decide +kernel
theorem dX7_sure_37 : decode cX7_sure 37 = .ok (.iaload, 1) := by decide +kernel
theorem dX7_sure_38 : decode cX7_sure 38 = .ok (.ishl, 1) := by decide +kernel
theorem dX7_sure_39 : decode cX7_sure 39 = .ok (.if_icmp .ge 58, 3) := by decide +kernel
theorem dX7_sure_42 : decode cX7_sure 42 = .ok (.aload_n 0, 1) := by decide +kernel
theorem dX7_sure_43 : decode cX7_sure 43 = .ok (.iload 6, 2) := by decide +kernel
theorem dX7_sure_45 : decode cX7_sure 45 = .ok (.iload_n 1, 1) := by decide +kernel
theorem dX7_sure_46 : decode cX7_sure 46 = .ok (.invokevirtual 422, 3) := by decide +kernel
theorem dX7_sure_49 : decode cX7_sure 49 = .ok (.aload_n 0, 1) := by decide +kernel
theorem dX7_sure_50 : decode cX7_sure 50 = .ok (.iload_n 2, 1) := by decide +kernel
theorem dX7_sure_51 : decode cX7_sure 51 = .ok (.iload_n 3, 1) := by decide +kernel
theorem dX7_sure_52 : decode cX7_sure 52 = .ok (.invokevirtual 425, 3) := by decide +kernel
theorem dX7_sure_55 : decode cX7_sure 55 = .ok (.istore 7, 2) := by decide +kernel
theorem dX7_sure_57 : decode cX7_sure 57 = .ok (.iload 4, 2) := by decide +kernel
theorem dX7_sure_59 : decode cX7_sure 59 = .ok (.ifCond .eq 12, 3) := by decide +kernel
theorem dX7_sure_62 : decode cX7_sure 62 = .ok (.iload 7, 2) := by decide +kernel
theorem dX7_sure_64 : decode cX7_sure 64 = .ok (.ifCond .eq 7, 3) := by decide +kernel
theorem dX7_sure_67 : decode cX7_sure 67 = .ok (.iconst 1, 1) := by decide +kernel
theorem dX7_sure_68 : decode cX7_sure 68 = .ok (.goto 4, 3) := by decide +kernel
theorem dX7_sure_71 : decode cX7_sure 71 = .ok (.iconst 0, 1) := by decide +kernel
theorem dX7_sure_72 : decode cX7_sure 72 = .ok (.istore 4, 2) := by decide +kernel
theorem dX7_sure_74 : decode cX7_sure 74 = .ok (.iload 5, 2) := by decide +kernel
theorem dX7_sure_76 : decode cX7_sure 76 = .ok (.ifCond .ne 8, 3) := by decide +kernel
theorem dX7_sure_79 : decode cX7_sure 79 = .ok (.iload 7, 2) := by decide +kernel
theorem dX7_sure_81 : decode cX7_sure 81 = .ok (.ifCond .eq 7, 3) := by decide +kernel
theorem dX7_sure_84 : decode cX7_sure 84 = .ok (.iconst 1, 1) := by decide +kernel
theorem dX7_sure_85 : decode cX7_sure 85 = .ok (.goto 4, 3) := by decide +kernel
theorem dX7_sure_88 : decode cX7_sure 88 = .ok (.iconst 0, 1) := by decide +kernel
theorem dX7_sure_89 : decode cX7_sure 89 = .ok (.istore 5, 2) := by decide +kernel
theorem dX7_sure_91 : decode cX7_sure 91 = .ok (.iinc 6 1, 3) := by decide +kernel
theorem dX7_sure_94 : decode cX7_sure 94 = .ok (.goto (-68), 3) := by decide +kernel
theorem dX7_sure_97 : decode cX7_sure 97 = .ok (.iload 4, 2) := by decide +kernel
theorem dX7_sure_99 : decode cX7_sure 99 = .ok (.ifCond .eq 7, 3) := by decide +kernel
theorem dX7_sure_102 : decode cX7_sure 102 = .ok (.iconst 2, 1) := by decide +kernel
theorem dX7_sure_103 : decode cX7_sure 103 = .ok (.goto 13, 3) := by decide +kernel
theorem dX7_sure_106 : decode cX7_sure 106 = .ok (.iload 5, 2) := by decide +kernel
theorem dX7_sure_108 : decode cX7_sure 108 = .ok (.ifCond .eq 7, 3) := by decide +kernel
theorem dX7_sure_111 : decode cX7_sure 111 = .ok (.iconst 1, 1) := by decide +kernel
theorem dX7_sure_112 : decode cX7_sure 112 = .ok (.goto 4, 3) := by decide +kernel
theorem dX7_sure_115 : decode cX7_sure 115 = .ok (.iconst 0, 1) := by decide +kernel
theorem dX7_sure_116 : decode cX7_sure 116 = .ok (.ireturn, 1) := by decide +kernel
theorem dX7_empty_0 : decode cX7_empty 0 = .ok (.aload_n 0, 1) := by decide +kernel
theorem dX7_empty_1 : decode cX7_empty 1 = .ok (.iconst 0, 1) := by decide +kernel
theorem dX7_empty_2 : decode cX7_empty 2 = .ok (.putfield 1, 3) := by decide +kernel
theorem dX7_empty_5 : decode cX7_empty 5 = .ok (.aload_n 0, 1) := by decide +kernel
theorem dX7_empty_6 : decode cX7_empty 6 = .ok (.iload_n 1, 1) := by decide +kernel
theorem dX7_empty_7 : decode cX7_empty 7 = .ok (.invokevirtual 305, 3) := by decide +kernel
theorem dX7_empty_10 : decode cX7_empty 10 = .ok (.ifCond .eq 11, 3) := by decide +kernel
theorem dX7_empty_13 : decode cX7_empty 13 = .ok (.aload_n 0, 1) := by decide +kernel
theorem dX7_empty_14 : decode cX7_empty 14 = .ok (.iload_n 2, 1) := by decide +kernel
theorem dX7_empty_15 : decode cX7_empty 15 = .ok (.invokevirtual 311, 3) := by decide +kernel
theorem dX7_empty_18 : decode cX7_empty 18 = .ok (.ifCond .ne 5, 3) := by decide +kernel
theorem dX7_empty_21 : decode cX7_empty 21 = .ok (.iconst (-1), 1) := by decide +kernel
theorem dX7_empty_22 : decode cX7_empty 22 = .ok (.ireturn, 1) := by decide +kernel
theorem dX7_empty_23 : decode cX7_empty 23 = .ok (.aload_n 0, 1) := by decide +kernel
theorem dX7_empty_24 : decode cX7_empty 24 = .ok (.iload_n 2, 1) := by decide +kernel
theorem dX7_empty_25 : decode cX7_empty 25 = .ok (.iconst 0, 1) := by decide +kernel
theorem dX7_empty_26 : decode cX7_empty 26 = .ok (.invokevirtual 422, 3) := by decide +kernel
theorem dX7_empty_29 : decode cX7_empty 29 = .ok (.iconst 0, 1) := by decide +kernel
theorem dX7_empty_30 : decode cX7_empty 30 = .ok (.istore_n 3, 1) := by decide +kernel
theorem dX7_empty_31 : decode cX7_empty 31 = .ok (.iload_n 3, 1) := by decide +kernel
theorem dX7_empty_32 : decode cX7_empty 32 = .ok (.sipush 200, 3) := by decide +kernel
theorem dX7_empty_35 : decode cX7_empty 35 = .ok (.if_icmp .gt 40, 3) := by decide +kernel
theorem dX7_empty_38 : decode cX7_empty 38 = .ok (.aload_n 0, 1) := by decide +kernel
theorem dX7_empty_39 : decode cX7_empty 39 = .ok (.bipush 7, 2) := by decide +kernel
theorem dX7_empty_41 : decode cX7_empty 41 = .ok (.iload_n 1, 1) := by decide +kernel
theorem dX7_empty_42 : decode cX7_empty 42 = .ok (.invokevirtual 314, 3) := by decide +kernel
theorem dX7_empty_45 : decode cX7_empty 45 = .ok (.ifCond .ne 11, 3) := by decide +kernel
theorem dX7_empty_48 : decode cX7_empty 48 = .ok (.aload_n 0, 1) := by decide +kernel
theorem dX7_empty_49 : decode cX7_empty 49 = .ok (.getfield 137, 3) := by decide +kernel
theorem dX7_empty_52 : decode cX7_empty 52 = .ok (.bipush 7, 2) := by decide +kernel
theorem dX7_empty_54 : decode cX7_empty 54 = .ok (.iaload, 1) := by decide +kernel
theorem dX7_empty_55 : decode cX7_empty 55 = .ok (.ireturn, 1) := by decide +kernel
theorem dX7_empty_56 : decode cX7_empty 56 = .ok (.iload_n 3, 1) := by decide +kernel
theorem dX7_empty_57 : decode cX7_empty 57 = .ok (.sipush 200, 3) := by decide +kernel
theorem dX7_empty_60 : decode cX7_empty 60 = .ok (.if_icmp .ge 9, 3) := by decide +kernel
theorem dX7_empty_63 : decode cX7_empty 63 = .ok (.aload_n 0, 1) := by decide +kernel
theorem dX7_empty_64 : decode cX7_empty 64 = .ok (.bipush 7, 2) := by decide +kernel
theorem dX7_empty_66 : decode cX7_empty 66 = .ok (.invokevirtual 394, 3) := by decide +kernel
theorem dX7_empty_69 : decode cX7_empty 69 = .ok (.iinc 3 1, 3) := by decide +kernel
theorem dX7_empty_72 : decode cX7_empty 72 = .ok (.goto (-41), 3) := by decide +kernel
theorem dX7_empty_75 : decode cX7_empty 75 = .ok (.iconst (-1), 1) := by decide +kernel
theorem dX7_empty_76 : decode cX7_empty 76 = .ok (.ireturn, 1) := by decide +kernel
theorem dX7_runs_0 : decode cX7_runs 0 = .ok (.aload_n 0, 1) := by decide +kernel
theorem dX7_runs_1 : decode cX7_runs 1 = .ok (.iconst 0, 1) := by decide +kernel
theorem dX7_runs_2 : decode cX7_runs 2 = .ok (.putfield 1, 3) := by decide +kernel
theorem dX7_runs_5 : decode cX7_runs 5 = .ok (.iload_n 1, 1) := by decide +kernel
theorem dX7_runs_6 : decode cX7_runs 6 = .ok (.iconst 1, 1) := by decide +kernel
theorem dX7_runs_7 : decode cX7_runs 7 = .ok (.bipush 40, 2) := by decide +kernel
theorem dX7_runs_9 : decode cX7_runs 9 = .ok (.invokestatic 301, 3) := by decide +kernel
theorem dX7_runs_12 : decode cX7_runs 12 = .ok (.ifCond .eq 23, 3) := by decide +kernel
theorem dX7_runs_15 : decode cX7_runs 15 = .ok (.iload_n 2, 1) := by decide +kernel
theorem dX7_runs_16 : decode cX7_runs 16 = .ok (.iconst 0, 1) := by decide +kernel
theorem dX7_runs_17 : decode cX7_runs 17 = .ok (.bipush 60, 2) := by decide +kernel
theorem dX7_runs_19 : decode cX7_runs 19 = .ok (.invokestatic 301, 3) := by decide +kernel
theorem dX7_runs_22 : decode cX7_runs 22 = .ok (.ifCond .eq 13, 3) := by decide +kernel
theorem dX7_runs_25 : decode cX7_runs 25 = .ok (.iload_n 3, 1) := by decide +kernel
theorem dX7_runs_26 : decode cX7_runs 26 = .ok (.iconst (-1), 1) := by decide +kernel
theorem dX7_runs_27 : decode cX7_runs 27 = .ok (.bipush 30, 2) := by decide +kernel
theorem dX7_runs_29 : decode cX7_runs 29 = .ok (.invokestatic 301, 3) := by decide +kernel
theorem dX7_runs_32 : decode cX7_runs 32 = .ok (.ifCond .ne 5, 3) := by decide +kernel
theorem dX7_runs_35 : decode cX7_runs 35 = .ok (.iconst (-1), 1) := by decide +kernel
theorem dX7_runs_36 : decode cX7_runs 36 = .ok (.ireturn, 1) := by decide +kernel
theorem dX7_runs_37 : decode cX7_runs 37 = .ok (.iconst 0, 1) := by decide +kernel
theorem dX7_runs_38 : decode cX7_runs 38 = .ok (.istore 4, 2) := by decide +kernel
theorem dX7_runs_40 : decode cX7_runs 40 = .ok (.iconst 0, 1) := by decide +kernel
theorem dX7_runs_41 : decode cX7_runs 41 = .ok (.istore 5, 2) := by decide +kernel
theorem dX7_runs_43 : decode cX7_runs 43 = .ok (.iload 5, 2) := by decide +kernel
theorem dX7_runs_45 : decode cX7_runs 45 = .ok (.iload_n 1, 1) := by decide +kernel
theorem dX7_runs_46 : decode cX7_runs 46 = .ok (.if_icmp .ge 87, 3) := by decide +kernel
theorem dX7_runs_49 : decode cX7_runs 49 = .ok (.aload_n 0, 1) := by decide +kernel
theorem dX7_runs_50 : decode cX7_runs 50 = .ok (.iconst 0, 1) := by decide +kernel
theorem dX7_runs_51 : decode cX7_runs 51 = .ok (.bipush 7, 2) := by decide +kernel
theorem dX7_runs_53 : decode cX7_runs 53 = .ok (.invokevirtual 415, 3) := by decide +kernel
theorem dX7_runs_56 : decode cX7_runs 56 = .ok (.aload_n 0, 1) := by decide +kernel
theorem dX7_runs_57 : decode cX7_runs 57 = .ok (.getfield 134, 3) := by decide +kernel
theorem dX7_runs_60 : decode cX7_runs 60 = .ok (.bipush 7, 2) := by decide +kernel
theorem dX7_runs_62 : decode cX7_runs 62 = .ok (.iload 5, 2) := by decide +kernel
theorem dX7_runs_64 : decode cX7_runs 64 = .ok (.iastore, 1) := by decide +kernel
theorem dX7_runs_65 : decode cX7_runs 65 = .ok (.aload_n 0, 1) := by decide +kernel
theorem dX7_runs_66 : decode cX7_runs 66 = .ok (.aload_n 0, 1) := by decide +kernel
theorem dX7_runs_67 : decode cX7_runs 67 = .ok (.getfield 249, 3) := by decide +kernel
theorem dX7_runs_70 : decode cX7_runs 70 = .ok (.putfield 298, 3) := by decide +kernel
theorem dX7_runs_73 : decode cX7_runs 73 = .ok (.iconst 0, 1) := by decide +kernel
theorem dX7_runs_74 : decode cX7_runs 74 = .ok (.istore 6, 2) := by decide +kernel
theorem dX7_runs_76 : decode cX7_runs 76 = .ok (.iload 6, 2) := by decide +kernel
theorem dX7_runs_78 : decode cX7_runs 78 = .ok (.iload_n 2, 1) := by decide +kernel
theorem dX7_runs_79 : decode cX7_runs 79 = .ok (.if_icmp .ge 15, 3) := by decide +kernel
