theorem dX7_readLaw_301 : decode cX7_readLaw 301 = .ok (.dup2, 1) := by decide +kernel
theorem dX7_readLaw_302 : decode cX7_readLaw 302 = .ok (.iaload, 1) := by decide +kernel
theorem dX7_readLaw_303 : decode cX7_readLaw 303 = .ok (.iconst 1, 1) := by decide +kernel
theorem dX7_readLaw_304 : decode cX7_readLaw 304 = .ok (.iadd, 1) := by decide +kernel
theorem dX7_readLaw_305 : decode cX7_readLaw 305 = .ok (.iastore, 1) := by decide +kernel
theorem dX7_readLaw_306 : decode cX7_readLaw 306 = .ok (.aload_n 0, 1) := by decide +kernel
theorem dX7_readLaw_307 : decode cX7_readLaw 307 = .ok (.bipush 59, 2) := by decide +kernel
theorem dX7_readLaw_309 : decode cX7_readLaw 309 = .ok (.invokevirtual 273, 3) := by decide +kernel
theorem dX7_readLaw_312 : decode cX7_readLaw 312 = .ok (.return_, 1) := by decide +kernel
theorem dX7_all_0 : decode cX7_all 0 = .ok (.aload_n 0, 1) := by decide +kernel
theorem dX7_all_1 : decode cX7_all 1 = .ok (.iload_n 1, 1) := by decide +kernel
theorem dX7_all_2 : decode cX7_all 2 = .ok (.invokevirtual 276, 3) := by decide +kernel
theorem dX7_all_5 : decode cX7_all 5 = .ok (.aload_n 0, 1) := by decide +kernel
theorem dX7_all_6 : decode cX7_all 6 = .ok (.bipush 11, 2) := by decide +kernel
theorem dX7_all_8 : decode cX7_all 8 = .ok (.invokevirtual 228, 3) := by decide +kernel
theorem dX7_all_11 : decode cX7_all 11 = .ok (.ifCond .ne 12, 3) := by decide +kernel
theorem dX7_all_14 : decode cX7_all 14 = .ok (.aload_n 0, 1) := by decide +kernel
theorem dX7_all_15 : decode cX7_all 15 = .ok (.bipush 12, 2) := by decide +kernel
theorem dX7_all_17 : decode cX7_all 17 = .ok (.invokevirtual 228, 3) := by decide +kernel
theorem dX7_all_20 : decode cX7_all 20 = .ok (.ifCond .eq 44, 3) := by decide +kernel
theorem dX7_all_23 : decode cX7_all 23 = .ok (.aload_n 0, 1) := by decide +kernel
theorem dX7_all_24 : decode cX7_all 24 = .ok (.bipush 11, 2) := by decide +kernel
theorem dX7_all_26 : decode cX7_all 26 = .ok (.invokevirtual 228, 3) := by decide +kernel
theorem dX7_all_29 : decode cX7_all 29 = .ok (.istore_n 2, 1) := by decide +kernel
theorem dX7_all_30 : decode cX7_all 30 = .ok (.aload_n 0, 1) := by decide +kernel
theorem dX7_all_31 : decode cX7_all 31 = .ok (.dup, 1) := by decide +kernel
theorem dX7_all_32 : decode cX7_all 32 = .ok (.getfield 216, 3) := by decide +kernel
theorem dX7_all_35 : decode cX7_all 35 = .ok (.iconst 1, 1) := by decide +kernel
theorem dX7_all_36 : decode cX7_all 36 = .ok (.iadd, 1) := by decide +kernel
theorem dX7_all_37 : decode cX7_all 37 = .ok (.putfield 216, 3) := by decide +kernel
theorem dX7_all_40 : decode cX7_all 40 = .ok (.aload_n 0, 1) := by decide +kernel
theorem dX7_all_41 : decode cX7_all 41 = .ok (.iload_n 1, 1) := by decide +kernel
theorem dX7_all_42 : decode cX7_all 42 = .ok (.invokevirtual 276, 3) := by decide +kernel
theorem dX7_all_45 : decode cX7_all 45 = .ok (.aload_n 0, 1) := by decide +kernel
theorem dX7_all_46 : decode cX7_all 46 = .ok (.iload_n 2, 1) := by decide +kernel
theorem dX7_all_47 : decode cX7_all 47 = .ok (.ifCond .eq 8, 3) := by decide +kernel
theorem dX7_all_50 : decode cX7_all 50 = .ok (.bipush 10, 2) := by decide +kernel
theorem dX7_all_52 : decode cX7_all 52 = .ok (.goto 5, 3) := by decide +kernel
theorem dX7_all_55 : decode cX7_all 55 = .ok (.bipush 11, 2) := by decide +kernel
theorem dX7_all_57 : decode cX7_all 57 = .ok (.iconst 0, 1) := by decide +kernel
theorem dX7_all_58 : decode cX7_all 58 = .ok (.invokevirtual 269, 3) := by decide +kernel
theorem dX7_all_61 : decode cX7_all 61 = .ok (.goto (-56), 3) := by decide +kernel
theorem dX7_all_64 : decode cX7_all 64 = .ok (.return_, 1) := by decide +kernel
theorem dX7_test_0 : decode cX7_test 0 = .ok (.aload_n 0, 1) := by decide +kernel
theorem dX7_test_1 : decode cX7_test 1 = .ok (.iload_n 1, 1) := by decide +kernel
theorem dX7_test_2 : decode cX7_test 2 = .ok (.invokevirtual 279, 3) := by decide +kernel
theorem dX7_test_5 : decode cX7_test 5 = .ok (.aload_n 0, 1) := by decide +kernel
theorem dX7_test_6 : decode cX7_test 6 = .ok (.bipush 60, 2) := by decide +kernel
theorem dX7_test_8 : decode cX7_test 8 = .ok (.invokevirtual 222, 3) := by decide +kernel
theorem dX7_test_11 : decode cX7_test 11 = .ok (.istore_n 2, 1) := by decide +kernel
theorem dX7_test_12 : decode cX7_test 12 = .ok (.aload_n 0, 1) := by decide +kernel
theorem dX7_test_13 : decode cX7_test 13 = .ok (.bipush 60, 2) := by decide +kernel
theorem dX7_test_15 : decode cX7_test 15 = .ok (.invokevirtual 282, 3) := by decide +kernel
theorem dX7_test_18 : decode cX7_test 18 = .ok (.ifCond .ne 12, 3) := by decide +kernel
theorem dX7_test_21 : decode cX7_test 21 = .ok (.aload_n 0, 1) := by decide +kernel
theorem dX7_test_22 : decode cX7_test 22 = .ok (.bipush 61, 2) := by decide +kernel
theorem dX7_test_24 : decode cX7_test 24 = .ok (.invokevirtual 282, 3) := by decide +kernel
theorem dX7_test_27 : decode cX7_test 27 = .ok (.ifCond .eq 24, 3) := by decide +kernel
theorem dX7_test_30 : decode cX7_test 30 = .ok (.aload_n 0, 1) := by decide +kernel
theorem dX7_test_31 : decode cX7_test 31 = .ok (.iload_n 1, 1) := by decide +kernel
theorem dX7_test_32 : decode cX7_test 32 = .ok (.invokevirtual 279, 3) := by decide +kernel
theorem dX7_test_35 : decode cX7_test 35 = .ok (.aload_n 0, 1) := by decide +kernel
theorem dX7_test_36 : decode cX7_test 36 = .ok (.iload_n 2, 1) := by decide +kernel
theorem dX7_test_37 : decode cX7_test 37 = .ok (.ifCond .eq 8, 3) := by decide +kernel
theorem dX7_test_40 : decode cX7_test 40 = .ok (.bipush 8, 2) := by decide +kernel
theorem dX7_test_42 : decode cX7_test 42 = .ok (.goto 5, 3) := by decide +kernel
theorem dX7_test_45 : decode cX7_test 45 = .ok (.bipush 9, 2) := by decide +kernel
theorem dX7_test_47 : decode cX7_test 47 = .ok (.iconst 0, 1) := by decide +kernel
theorem dX7_test_48 : decode cX7_test 48 = .ok (.invokevirtual 269, 3) := by decide +kernel
theorem dX7_test_51 : decode cX7_test 51 = .ok (.return_, 1) := by decide +kernel
theorem dX7_sums_0 : decode cX7_sums 0 = .ok (.aload_n 0, 1) := by decide +kernel
theorem dX7_sums_1 : decode cX7_sums 1 = .ok (.iload_n 1, 1) := by decide +kernel
theorem dX7_sums_2 : decode cX7_sums 2 = .ok (.invokevirtual 285, 3) := by decide +kernel
theorem dX7_sums_5 : decode cX7_sums 5 = .ok (.aload_n 0, 1) := by decide +kernel
theorem dX7_sums_6 : decode cX7_sums 6 = .ok (.bipush 43, 2) := by decide +kernel
theorem dX7_sums_8 : decode cX7_sums 8 = .ok (.invokevirtual 222, 3) := by decide +kernel
theorem dX7_sums_11 : decode cX7_sums 11 = .ok (.ifCond .ne 12, 3) := by decide +kernel
theorem dX7_sums_14 : decode cX7_sums 14 = .ok (.aload_n 0, 1) := by decide +kernel
theorem dX7_sums_15 : decode cX7_sums 15 = .ok (.bipush 45, 2) := by decide +kernel
theorem dX7_sums_17 : decode cX7_sums 17 = .ok (.invokevirtual 222, 3) := by decide +kernel
theorem dX7_sums_20 : decode cX7_sums 20 = .ok (.ifCond .eq 42, 3) := by decide +kernel
theorem dX7_sums_23 : decode cX7_sums 23 = .ok (.aload_n 0, 1) := by decide +kernel
theorem dX7_sums_24 : decode cX7_sums 24 = .ok (.bipush 43, 2) := by decide +kernel
theorem dX7_sums_26 : decode cX7_sums 26 = .ok (.invokevirtual 222, 3) := by decide +kernel
theorem dX7_sums_29 : decode cX7_sums 29 = .ok (.istore_n 2, 1) := by decide +kernel
theorem dX7_sums_30 : decode cX7_sums 30 = .ok (.aload_n 0, 1) := by decide +kernel
theorem dX7_sums_31 : decode cX7_sums 31 = .ok (.dup, 1) := by decide +kernel
theorem dX7_sums_32 : decode cX7_sums 32 = .ok (.getfield 216, 3) := by decide +kernel
theorem dX7_sums_35 : decode cX7_sums 35 = .ok (.iconst 1, 1) := by decide +kernel
theorem dX7_sums_36 : decode cX7_sums 36 = .ok (.iadd, 1) := by decide +kernel
theorem dX7_sums_37 : decode cX7_sums 37 = .ok (.putfield 216, 3) := by decide +kernel
theorem dX7_sums_40 : decode cX7_sums 40 = .ok (.aload_n 0, 1) := by decide +kernel
theorem dX7_sums_41 : decode cX7_sums 41 = .ok (.iload_n 1, 1) := by decide +kernel
theorem dX7_sums_42 : decode cX7_sums 42 = .ok (.invokevirtual 285, 3) := by decide +kernel
theorem dX7_sums_45 : decode cX7_sums 45 = .ok (.aload_n 0, 1) := by decide +kernel
theorem dX7_sums_46 : decode cX7_sums 46 = .ok (.iload_n 2, 1) := by decide +kernel
theorem dX7_sums_47 : decode cX7_sums 47 = .ok (.ifCond .eq 7, 3) := by decide +kernel
theorem dX7_sums_50 : decode cX7_sums 50 = .ok (.iconst 4, 1) := by decide +kernel
theorem dX7_sums_51 : decode cX7_sums 51 = .ok (.goto 4, 3) := by decide +kernel
theorem dX7_sums_54 : decode cX7_sums 54 = .ok (.iconst 5, 1) := by decide +kernel
theorem dX7_sums_55 : decode cX7_sums 55 = .ok (.iconst 0, 1) := by decide +kernel
theorem dX7_sums_56 : decode cX7_sums 56 = .ok (.invokevirtual 269, 3) := by decide +kernel
theorem dX7_sums_59 : decode cX7_sums 59 = .ok (.goto (-54), 3) := by decide +kernel
theorem dX7_sums_62 : decode cX7_sums 62 = .ok (.return_, 1) := by decide +kernel
theorem dX7_products_0 : decode cX7_products 0 = .ok (.aload_n 0, 1) := by decide +kernel
theorem dX7_products_1 : decode cX7_products 1 = .ok (.iload_n 1, 1) := by decide +kernel
theorem dX7_products_2 : decode cX7_products 2 = .ok (.invokevirtual 288, 3) := by decide +kernel
theorem dX7_products_5 : decode cX7_products 5 = .ok (.aload_n 0, 1) := by decide +kernel
theorem dX7_products_6 : decode cX7_products 6 = .ok (.bipush 42, 2) := by decide +kernel
theorem dX7_products_8 : decode cX7_products 8 = .ok (.invokevirtual 222, 3) := by decide +kernel
theorem dX7_products_11 : decode cX7_products 11 = .ok (.ifCond .ne 12, 3) := by decide +kernel
theorem dX7_products_14 : decode cX7_products 14 = .ok (.aload_n 0, 1) := by decide +kernel
theorem dX7_products_15 : decode cX7_products 15 = .ok (.bipush 47, 2) := by decide +kernel
theorem dX7_products_17 : decode cX7_products 17 = .ok (.invokevirtual 222, 3) := by decide +kernel
theorem dX7_products_20 : decode cX7_products 20 = .ok (.ifCond .eq 44, 3) := by decide +kernel
theorem dX7_products_23 : decode cX7_products 23 = .ok (.aload_n 0, 1) := by decide +kernel
theorem dX7_products_24 : decode cX7_products 24 = .ok (.bipush 42, 2) := by decide +kernel
theorem dX7_products_26 : decode cX7_products 26 = .ok (.invokevirtual 222, 3) := by decide +kernel
theorem dX7_products_29 : decode cX7_products 29 = .ok (.istore_n 2, 1) := by decide +kernel
theorem dX7_products_30 : decode cX7_products 30 = .ok (.aload_n 0, 1) := by decide +kernel
theorem dX7_products_31 : decode cX7_products 31 = .ok (.dup, 1) := by decide +kernel
theorem dX7_products_32 : decode cX7_products 32 = .ok (.getfield 216, 3) := by decide +kernel
theorem dX7_products_35 : decode cX7_products 35 = .ok (.iconst 1, 1) := by decide +kernel
theorem dX7_products_36 : decode cX7_products 36 = .ok (.iadd, 1) := by decide +kernel
theorem dX7_products_37 : decode cX7_products 37 = .ok (.putfield 216, 3) := by decide +kernel
theorem dX7_products_40 : decode cX7_products 40 = .ok (.aload_n 0, 1) := by decide +kernel
theorem dX7_products_41 : decode cX7_products 41 = .ok (.iload_n 1, 1) := by decide +kernel
theorem dX7_products_42 : decode cX7_products 42 = .ok (.invokevirtual 288, 3) := by decide +kernel
theorem dX7_products_45 : decode cX7_products 45 = .ok (.aload_n 0, 1) := by decide +kernel
theorem dX7_products_46 : decode cX7_products 46 = .ok (.iload_n 2, 1) := by decide +kernel
theorem dX7_products_47 : decode cX7_products 47 = .ok (.ifCond .eq 8, 3) := by decide +kernel
theorem dX7_products_50 : decode cX7_products 50 = .ok (.bipush 6, 2) := by decide +kernel
theorem dX7_products_52 : decode cX7_products 52 = .ok (.goto 5, 3) := by decide +kernel
theorem dX7_products_55 : decode cX7_products 55 = .ok (.bipush 7, 2) := by decide +kernel
theorem dX7_products_57 : decode cX7_products 57 = .ok (.iconst 0, 1) := by decide +kernel
theorem dX7_products_58 : decode cX7_products 58 = .ok (.invokevirtual 269, 3) := by decide +kernel
theorem dX7_products_61 : decode cX7_products 61 = .ok (.goto (-56), 3) := by decide +kernel
theorem dX7_products_64 : decode cX7_products 64 = .ok (.return_, 1) := by decide +kernel
theorem dX7_takePart_0 : decode cX7_takePart 0 = .ok (.aload_n 0, 1) := by decide +kernel
theorem dX7_takePart_1 : decode cX7_takePart 1 = .ok (.getfield 219, 3) := by decide +kernel
theorem dX7_takePart_4 : decode cX7_takePart 4 = .ok (.ifCond .le 4, 3) := by decide +kernel
theorem dX7_takePart_7 : decode cX7_takePart 7 = .ok (.return_, 1) := by decide +kernel
theorem dX7_takePart_8 : decode cX7_takePart 8 = .ok (.iconst (-1), 1) := by decide +kernel
theorem dX7_takePart_9 : decode cX7_takePart 9 = .ok (.istore_n 2, 1) := by decide +kernel
theorem dX7_takePart_10 : decode cX7_takePart 10 = .ok (.bipush 14, 2) := by decide +kernel
theorem dX7_takePart_12 : decode cX7_takePart 12 = .ok (.istore_n 3, 1) := by decide +kernel
theorem dX7_takePart_13 : decode cX7_takePart 13 = .ok (.iload_n 3, 1) := by decide +kernel
theorem dX7_takePart_14 : decode cX7_takePart 14 = .ok (.bipush 23, 2) := by decide +kernel
theorem dX7_takePart_16 : decode cX7_takePart 16 = .ok (.if_icmp .ge 26, 3) := by decide +kernel
theorem dX7_takePart_19 : decode cX7_takePart 19 = .ok (.aload_n 0, 1) := by decide +kernel
theorem dX7_takePart_20 : decode cX7_takePart 20 = .ok (.iload_n 3, 1) := by decide +kernel
theorem dX7_takePart_21 : decode cX7_takePart 21 = .ok (.invokevirtual 228, 3) := by decide +kernel
theorem dX7_takePart_24 : decode cX7_takePart 24 = .ok (.ifCond .eq 10, 3) := by decide +kernel
theorem dX7_takePart_27 : decode cX7_takePart 27 = .ok (.iload_n 3, 1) := by decide +kernel
theorem dX7_takePart_28 : decode cX7_takePart 28 = .ok (.bipush 14, 2) := by decide +kernel
theorem dX7_takePart_30 : decode cX7_takePart 30 = .ok (.isub, 1) := by decide +kernel
theorem dX7_takePart_31 : decode cX7_takePart 31 = .ok (.goto 4, 3) := by decide +kernel
theorem dX7_takePart_34 : decode cX7_takePart 34 = .ok (.iload_n 2, 1) := by decide +kernel
theorem dX7_takePart_35 : decode cX7_takePart 35 = .ok (.istore_n 2, 1) := by decide +kernel
theorem dX7_takePart_36 : decode cX7_takePart 36 = .ok (.iinc 3 1, 3) := by decide +kernel
theorem dX7_takePart_39 : decode cX7_takePart 39 = .ok (.goto (-26), 3) := by decide +kernel
theorem dX7_takePart_42 : decode cX7_takePart 42 = .ok (.aload_n 0, 1) := by decide +kernel
theorem dX7_takePart_43 : decode cX7_takePart 43 = .ok (.getfield 24, 3) := by decide +kernel
theorem dX7_takePart_46 : decode cX7_takePart 46 = .ok (.aload_n 0, 1) := by decide +kernel
theorem dX7_takePart_47 : decode cX7_takePart 47 = .ok (.getfield 216, 3) := by decide +kernel
theorem dX7_takePart_50 : decode cX7_takePart 50 = .ok (.iaload, 1) := by decide +kernel
theorem dX7_takePart_51 : decode cX7_takePart 51 = .ok (.iconst 2, 1) := by decide +kernel
theorem dX7_takePart_52 : decode cX7_takePart 52 = .ok (.if_icmp .ne 7, 3) := by decide +kernel
theorem dX7_takePart_55 : decode cX7_takePart 55 = .ok (.iconst 1, 1) := by decide +kernel
theorem dX7_takePart_56 : decode cX7_takePart 56 = .ok (.goto 4, 3) := by decide +kernel
theorem dX7_takePart_59 : decode cX7_takePart 59 = .ok (.iconst 0, 1) := by decide +kernel
theorem dX7_takePart_60 : decode cX7_takePart 60 = .ok (.istore_n 3, 1) := by decide +kernel
theorem dX7_takePart_61 : decode cX7_takePart 61 = .ok (.iload_n 2, 1) := by decide +kernel
theorem dX7_takePart_62 : decode cX7_takePart 62 = .ok (.ifCond .ge 33, 3) := by decide +kernel
theorem dX7_takePart_65 : decode cX7_takePart 65 = .ok (.iload_n 3, 1) := by decide +kernel
theorem dX7_takePart_66 : decode cX7_takePart 66 = .ok (.ifCond .ne 29, 3) := by decide +kernel
theorem dX7_takePart_69 : decode cX7_takePart 69 = .ok (.aload_n 0, 1) := by decide +kernel
theorem dX7_takePart_70 : decode cX7_takePart 70 = .ok (.bipush 40, 2) := by decide +kernel
theorem dX7_takePart_72 : decode cX7_takePart 72 = .ok (.invokevirtual 222, 3) := by decide +kernel
theorem dX7_takePart_75 : decode cX7_takePart 75 = .ok (.ifCond .ne 20, 3) := by decide +kernel
theorem dX7_takePart_78 : decode cX7_takePart 78 = .ok (.aload_n 0, 1) := by decide +kernel
theorem dX7_takePart_79 : decode cX7_takePart 79 = .ok (.bipush 13, 2) := by decide +kernel
theorem dX7_takePart_81 : decode cX7_takePart 81 = .ok (.invokevirtual 228, 3) := by decide +kernel
theorem dX7_takePart_84 : decode cX7_takePart 84 = .ok (.ifCond .ne 11, 3) := by decide +kernel
theorem dX7_takePart_87 : decode cX7_takePart 87 = .ok (.aload_n 0, 1) := by decide +kernel
theorem dX7_takePart_88 : decode cX7_takePart 88 = .ok (.iconst 1, 1) := by decide +kernel
theorem dX7_takePart_89 : decode cX7_takePart 89 = .ok (.invokevirtual 225, 3) := by decide +kernel
theorem dX7_takePart_92 : decode cX7_takePart 92 = .ok (.goto 13, 3) := by decide +kernel
theorem dX7_takePart_95 : decode cX7_takePart 95 = .ok (.iload_n 1, 1) := by decide +kernel
theorem dX7_takePart_96 : decode cX7_takePart 96 = .ok (.iconst 4, 1) := by decide +kernel
theorem dX7_takePart_97 : decode cX7_takePart 97 = .ok (.if_icmp .ne 8, 3) := by decide +kernel
theorem dX7_takePart_100 : decode cX7_takePart 100 = .ok (.aload_n 0, 1) := by decide +kernel
theorem dX7_takePart_101 : decode cX7_takePart 101 = .ok (.iconst 5, 1) := by decide +kernel
theorem dX7_takePart_102 : decode cX7_takePart 102 = .ok (.invokevirtual 225, 3) := by decide +kernel
theorem dX7_takePart_105 : decode cX7_takePart 105 = .ok (.aload_n 0, 1) := by decide +kernel
theorem dX7_takePart_106 : decode cX7_takePart 106 = .ok (.getfield 219, 3) := by decide +kernel
theorem dX7_takePart_109 : decode cX7_takePart 109 = .ok (.ifCond .le 4, 3) := by decide +kernel
theorem dX7_takePart_112 : decode cX7_takePart 112 = .ok (.return_, 1) := by decide +kernel
theorem dX7_takePart_113 : decode cX7_takePart 113 = .ok (.aload_n 0, 1) := by decide +kernel
theorem dX7_takePart_114 : decode cX7_takePart 114 = .ok (.bipush 13, 2) := by decide +kernel
theorem dX7_takePart_116 : decode cX7_takePart 116 = .ok (.invokevirtual 231, 3) := by decide +kernel
theorem dX7_takePart_119 : decode cX7_takePart 119 = .ok (.ifCond .eq 19, 3) := by decide +kernel
theorem dX7_takePart_122 : decode cX7_takePart 122 = .ok (.aload_n 0, 1) := by decide +kernel
theorem dX7_takePart_123 : decode cX7_takePart 123 = .ok (.iload_n 1, 1) := by decide +kernel
theorem dX7_takePart_124 : decode cX7_takePart 124 = .ok (.iconst 1, 1) := by decide +kernel
theorem dX7_takePart_125 : decode cX7_takePart 125 = .ok (.iadd, 1) := by decide +kernel
theorem dX7_takePart_126 : decode cX7_takePart 126 = .ok (.invokevirtual 288, 3) := by decide +kernel
theorem dX7_takePart_129 : decode cX7_takePart 129 = .ok (.aload_n 0, 1) := by decide +kernel
theorem dX7_takePart_130 : decode cX7_takePart 130 = .ok (.iconst 3, 1) := by decide +kernel
theorem dX7_takePart_131 : decode cX7_takePart 131 = .ok (.iconst 0, 1) := by decide +kernel
theorem dX7_takePart_132 : decode cX7_takePart 132 = .ok (.invokevirtual 269, 3) := by decide +kernel
theorem dX7_takePart_135 : decode cX7_takePart 135 = .ok (.goto 69, 3) := by decide +kernel
theorem dX7_takePart_138 : decode cX7_takePart 138 = .ok (.aload_n 0, 1) := by decide +kernel
theorem dX7_takePart_139 : decode cX7_takePart 139 = .ok (.bipush 40, 2) := by decide +kernel
theorem dX7_takePart_141 : decode cX7_takePart 141 = .ok (.invokevirtual 282, 3) := by decide +kernel
theorem dX7_takePart_144 : decode cX7_takePart 144 = .ok (.ifCond .eq 19, 3) := by decide +kernel
theorem dX7_takePart_147 : decode cX7_takePart 147 = .ok (.aload_n 0, 1) := by decide +kernel
theorem dX7_takePart_148 : decode cX7_takePart 148 = .ok (.iload_n 1, 1) := by decide +kernel
theorem dX7_takePart_149 : decode cX7_takePart 149 = .ok (.iconst 1, 1) := by decide +kernel
theorem dX7_takePart_150 : decode cX7_takePart 150 = .ok (.iadd, 1) := by decide +kernel
theorem dX7_takePart_151 : decode cX7_takePart 151 = .ok (.invokevirtual 266, 3) := by decide +kernel
theorem dX7_takePart_154 : decode cX7_takePart 154 = .ok (.aload_n 0, 1) := by decide +kernel
theorem dX7_takePart_155 : decode cX7_takePart 155 = .ok (.bipush 41, 2) := by decide +kernel
theorem dX7_takePart_157 : decode cX7_takePart 157 = .ok (.invokevirtual 273, 3) := by decide +kernel
theorem dX7_takePart_160 : decode cX7_takePart 160 = .ok (.goto 44, 3) := by decide +kernel
theorem dX7_takePart_163 : decode cX7_takePart 163 = .ok (.aload_n 0, 1) := by decide +kernel
theorem dX7_takePart_164 : decode cX7_takePart 164 = .ok (.iload_n 3, 1) := by decide +kernel
theorem dX7_takePart_165 : decode cX7_takePart 165 = .ok (.ifCond .eq 7, 3) := by decide +kernel
theorem dX7_takePart_168 : decode cX7_takePart 168 = .ok (.iconst 1, 1) := by decide +kernel
theorem dX7_takePart_169 : decode cX7_takePart 169 = .ok (.goto 4, 3) := by decide +kernel
theorem dX7_takePart_172 : decode cX7_takePart 172 = .ok (.iconst 2, 1) := by decide +kernel
theorem dX7_takePart_173 : decode cX7_takePart 173 = .ok (.iload_n 3, 1) := by decide +kernel
theorem dX7_takePart_174 : decode cX7_takePart 174 = .ok (.ifCond .eq 16, 3) := by decide +kernel
theorem dX7_takePart_177 : decode cX7_takePart 177 = .ok (.aload_n 0, 1) := by decide +kernel
theorem dX7_takePart_178 : decode cX7_takePart 178 = .ok (.getfield 30, 3) := by decide +kernel
theorem dX7_takePart_181 : decode cX7_takePart 181 = .ok (.aload_n 0, 1) := by decide +kernel
theorem dX7_takePart_182 : decode cX7_takePart 182 = .ok (.getfield 216, 3) := by decide +kernel
theorem dX7_takePart_185 : decode cX7_takePart 185 = .ok (.laload, 1) := by decide +kernel
theorem dX7_takePart_186 : decode cX7_takePart 186 = .ok (.l2i, 1) := by decide +kernel
theorem dX7_takePart_187 : decode cX7_takePart 187 = .ok (.goto 4, 3) := by decide +kernel
theorem dX7_takePart_190 : decode cX7_takePart 190 = .ok (.iload_n 2, 1) := by decide +kernel
theorem dX7_takePart_191 : decode cX7_takePart 191 = .ok (.invokevirtual 269, 3) := by decide +kernel
theorem dX7_takePart_194 : decode cX7_takePart 194 = .ok (.aload_n 0, 1) := by decide +kernel
theorem dX7_takePart_195 : decode cX7_takePart 195 = .ok (.dup, 1) := by decide +kernel
theorem dX7_takePart_196 : decode cX7_takePart 196 = .ok (.getfield 216, 3) := by decide +kernel
theorem dX7_takePart_199 : decode cX7_takePart 199 = .ok (.iconst 1, 1) := by decide +kernel
theorem dX7_takePart_200 : decode cX7_takePart 200 = .ok (.iadd, 1) := by decide +kernel
theorem dX7_takePart_201 : decode cX7_takePart 201 = .ok (.putfield 216, 3) := by decide +kernel
theorem dX7_takePart_204 : decode cX7_takePart 204 = .ok (.return_, 1) := by decide +kernel
theorem dX7_worth_0 : decode cX7_worth 0 = .ok (.iconst 0, 1) := by decide +kernel
theorem dX7_worth_1 : decode cX7_worth 1 = .ok (.istore_n 2, 1) := by decide +kernel
theorem dX7_worth_2 : decode cX7_worth 2 = .ok (.iload_n 1, 1) := by decide +kernel
theorem dX7_worth_3 : decode cX7_worth 3 = .ok (.istore_n 3, 1) := by decide +kernel
theorem dX7_worth_4 : decode cX7_worth 4 = .ok (.aload_n 0, 1) := by decide +kernel
theorem dX7_worth_5 : decode cX7_worth 5 = .ok (.getfield 104, 3) := by decide +kernel
theorem dX7_worth_8 : decode cX7_worth 8 = .ok (.iload_n 3, 1) := by decide +kernel
theorem dX7_worth_9 : decode cX7_worth 9 = .ok (.iaload, 1) := by decide +kernel
theorem dX7_worth_10 : decode cX7_worth 10 = .ok (.ifCond .eq 130, 3) := by decide +kernel
theorem dX7_worth_13 : decode cX7_worth 13 = .ok (.aload_n 0, 1) := by decide +kernel
theorem dX7_worth_14 : decode cX7_worth 14 = .ok (.getfield 104, 3) := by decide +kernel
theorem dX7_worth_17 : decode cX7_worth 17 = .ok (.iload_n 3, 1) := by decide +kernel
theorem dX7_worth_18 : decode cX7_worth 18 = .ok (.iaload, 1) := by decide +kernel
theorem dX7_worth_19 : decode cX7_worth 19 = .ok (.istore 4, 2) := by decide +kernel
theorem dX7_worth_21 : decode cX7_worth 21 = .ok (.iload 4, 2) := by decide +kernel
theorem dX7_worth_23 : decode cX7_worth 23 = .ok (.iconst 1, 1) := by decide +kernel
theorem dX7_worth_24 : decode cX7_worth 24 = .ok (.if_icmp .eq 9, 3) := by decide +kernel
theorem dX7_worth_27 : decode cX7_worth 27 = .ok (.iload 4, 2) := by decide +kernel
theorem dX7_worth_29 : decode cX7_worth 29 = .ok (.iconst 2, 1) := by decide +kernel
theorem dX7_worth_30 : decode cX7_worth 30 = .ok (.if_icmp .ne 41, 3) := by decide +kernel
theorem dX7_worth_33 : decode cX7_worth 33 = .ok (.aload_n 0, 1) := by decide +kernel
theorem dX7_worth_34 : decode cX7_worth 34 = .ok (.getfield 113, 3) := by decide +kernel
theorem dX7_worth_37 : decode cX7_worth 37 = .ok (.iload_n 2, 1) := by decide +kernel
theorem dX7_worth_38 : decode cX7_worth 38 = .ok (.iload 4, 2) := by decide +kernel
theorem dX7_worth_40 : decode cX7_worth 40 = .ok (.iconst 1, 1) := by decide +kernel
theorem dX7_worth_41 : decode cX7_worth 41 = .ok (.if_icmp .ne 12, 3) := by decide +kernel
theorem dX7_worth_44 : decode cX7_worth 44 = .ok (.aload_n 0, 1) := by decide +kernel
theorem dX7_worth_45 : decode cX7_worth 45 = .ok (.getfield 107, 3) := by decide +kernel
theorem dX7_worth_48 : decode cX7_worth 48 = .ok (.iload_n 3, 1) := by decide +kernel
theorem dX7_worth_49 : decode cX7_worth 49 = .ok (.iaload, 1) := by decide +kernel
theorem dX7_worth_50 : decode cX7_worth 50 = .ok (.goto 14, 3) := by decide +kernel
theorem dX7_worth_53 : decode cX7_worth 53 = .ok (.aload_n 0, 1) := by decide +kernel
theorem dX7_worth_54 : decode cX7_worth 54 = .ok (.getfield 110, 3) := by decide +kernel
theorem dX7_worth_57 : decode cX7_worth 57 = .ok (.aload_n 0, 1) := by decide +kernel
theorem dX7_worth_58 : decode cX7_worth 58 = .ok (.getfield 107, 3) := by decide +kernel
theorem dX7_worth_61 : decode cX7_worth 61 = .ok (.iload_n 3, 1) := by decide +kernel
theorem dX7_worth_62 : decode cX7_worth 62 = .ok (.iaload, 1) := by decide +kernel
theorem dX7_worth_63 : decode cX7_worth 63 = .ok (.iaload, 1) := by decide +kernel
theorem dX7_worth_64 : decode cX7_worth 64 = .ok (.iastore, 1) := by decide +kernel
theorem dX7_worth_65 : decode cX7_worth 65 = .ok (.iinc 2 1, 3) := by decide +kernel
theorem dX7_worth_68 : decode cX7_worth 68 = .ok (.goto 66, 3) := by decide +kernel
theorem dX7_worth_71 : decode cX7_worth 71 = .ok (.iload 4, 2) := by decide +kernel
theorem dX7_worth_73 : decode cX7_worth 73 = .ok (.iconst 3, 1) := by decide +kernel
theorem dX7_worth_74 : decode cX7_worth 74 = .ok (.if_icmp .ne 30, 3) := by decide +kernel
theorem dX7_worth_77 : decode cX7_worth 77 = .ok (.aload_n 0, 1) := by decide +kernel
theorem dX7_worth_78 : decode cX7_worth 78 = .ok (.getfield 113, 3) := by decide +kernel
theorem dX7_worth_81 : decode cX7_worth 81 = .ok (.iload_n 2, 1) := by decide +kernel
theorem dX7_worth_82 : decode cX7_worth 82 = .ok (.iconst 1, 1) := by decide +kernel
theorem dX7_worth_83 : decode cX7_worth 83 = .ok (.isub, 1) := by decide +kernel
theorem dX7_worth_84 : decode cX7_worth 84 = .ok (.aload_n 0, 1) := by decide +kernel
theorem dX7_worth_85 : decode cX7_worth 85 = .ok (.getfield 113, 3) := by decide +kernel
theorem dX7_worth_88 : decode cX7_worth 88 = .ok (.iload_n 2, 1) := by decide +kernel
theorem dX7_worth_89 : decode cX7_worth 89 = .ok (.iconst 1, 1) := by decide +kernel
theorem dX7_worth_90 : decode cX7_worth 90 = .ok (.isub, 1) := by decide +kernel
theorem dX7_worth_91 : decode cX7_worth 91 = .ok (.iaload, 1) := by decide +kernel
theorem dX7_worth_92 : decode cX7_worth 92 = .ok (.ifCond .ne 7, 3) := by decide +kernel
theorem dX7_worth_95 : decode cX7_worth 95 = .ok (.iconst 1, 1) := by decide +kernel
theorem dX7_worth_96 : decode cX7_worth 96 = .ok (.goto 4, 3) := by decide +kernel
theorem dX7_worth_99 : decode cX7_worth 99 = .ok (.iconst 0, 1) := by decide +kernel
theorem dX7_worth_100 : decode cX7_worth 100 = .ok (.iastore, 1) := by decide +kernel
theorem dX7_worth_101 : decode cX7_worth 101 = .ok (.goto 33, 3) := by decide +kernel
theorem dX7_worth_104 : decode cX7_worth 104 = .ok (.iinc 2 (-1), 3) := by decide +kernel
theorem dX7_worth_107 : decode cX7_worth 107 = .ok (.aload_n 0, 1) := by decide +kernel
theorem dX7_worth_108 : decode cX7_worth 108 = .ok (.getfield 113, 3) := by decide +kernel
theorem dX7_worth_111 : decode cX7_worth 111 = .ok (.iload_n 2, 1) := by decide +kernel
theorem dX7_worth_112 : decode cX7_worth 112 = .ok (.iconst 1, 1) := by decide +kernel
theorem dX7_worth_113 : decode cX7_worth 113 = .ok (.isub, 1) := by decide +kernel
theorem dX7_worth_114 : decode cX7_worth 114 = .ok (.iload 4, 2) := by decide +kernel
theorem dX7_worth_116 : decode cX7_worth 116 = .ok (.aload_n 0, 1) := by decide +kernel
theorem dX7_worth_117 : decode cX7_worth 117 = .ok (.getfield 113, 3) := by decide +kernel
theorem dX7_worth_120 : decode cX7_worth 120 = .ok (.iload_n 2, 1) := by decide +kernel
theorem dX7_worth_121 : decode cX7_worth 121 = .ok (.iconst 1, 1) := by decide +kernel
theorem dX7_worth_122 : decode cX7_worth 122 = .ok (.isub, 1) := by decide +kernel
theorem dX7_worth_123 : decode cX7_worth 123 = .ok (.iaload, 1) := by decide +kernel
theorem dX7_worth_124 : decode cX7_worth 124 = .ok (.aload_n 0, 1) := by decide +kernel
theorem dX7_worth_125 : decode cX7_worth 125 = .ok (.getfield 113, 3) := by decide +kernel
theorem dX7_worth_128 : decode cX7_worth 128 = .ok (.iload_n 2, 1) := by decide +kernel
theorem dX7_worth_129 : decode cX7_worth 129 = .ok (.iaload, 1) := by decide +kernel
theorem dX7_worth_130 : decode cX7_worth 130 = .ok (.invokestatic 291, 3) := by decide +kernel
theorem dX7_worth_133 : decode cX7_worth 133 = .ok (.iastore, 1) := by decide +kernel
theorem dX7_worth_134 : decode cX7_worth 134 = .ok (.iinc 3 1, 3) := by decide +kernel
theorem dX7_worth_137 : decode cX7_worth 137 = .ok (.goto (-133), 3) := by decide +kernel
theorem dX7_worth_140 : decode cX7_worth 140 = .ok (.aload_n 0, 1) := by decide +kernel
theorem dX7_worth_141 : decode cX7_worth 141 = .ok (.getfield 113, 3) := by decide +kernel
theorem dX7_worth_144 : decode cX7_worth 144 = .ok (.iconst 0, 1) := by decide +kernel
theorem dX7_worth_145 : decode cX7_worth 145 = .ok (.iaload, 1) := by decide +kernel
theorem dX7_worth_146 : decode cX7_worth 146 = .ok (.ireturn, 1) := by decide +kernel
theorem dX7_both_0 : decode cX7_both 0 = .ok (.iload_n 0, 1) := by decide +kernel
theorem dX7_both_1 : decode cX7_both 1 = .ok (.tableswitch 103 4 10 #[43, 47, 51, 55, 67, 78, 89], 43) := by decide +kernel
theorem dX7_both_44 : decode cX7_both 44 = .ok (.iload_n 1, 1) := by decide +kernel
theorem dX7_both_45 : decode cX7_both 45 = .ok (.iload_n 2, 1) := by decide +kernel
theorem dX7_both_46 : decode cX7_both 46 = .ok (.iadd, 1) := by decide +kernel
theorem dX7_both_47 : decode cX7_both 47 = .ok (.ireturn, 1) := by decide +kernel
theorem dX7_both_48 : decode cX7_both 48 = .ok (.iload_n 1, 1) := by decide +kernel
theorem dX7_both_49 : decode cX7_both 49 = .ok (.iload_n 2, 1) := by decide +kernel
theorem dX7_both_50 : decode cX7_both 50 = .ok (.isub, 1) := by decide +kernel
theorem dX7_both_51 : decode cX7_both 51 = .ok (.ireturn, 1) := by decide +kernel
theorem dX7_both_52 : decode cX7_both 52 = .ok (.iload_n 1, 1) := by decide +kernel
theorem dX7_both_53 : decode cX7_both 53 = .ok (.iload_n 2, 1) := by decide +kernel
theorem dX7_both_54 : decode cX7_both 54 = .ok (.imul, 1) := by decide +kernel
theorem dX7_both_55 : decode cX7_both 55 = .ok (.ireturn, 1) := by decide +kernel
theorem dX7_both_56 : decode cX7_both 56 = .ok (.iload_n 2, 1) := by decide +kernel
theorem dX7_both_57 : decode cX7_both 57 = .ok (.ifCond .ne 7, 3) := by decide +kernel
theorem dX7_both_60 : decode cX7_both 60 = .ok (.iconst 0, 1) := by decide +kernel
theorem dX7_both_61 : decode cX7_both 61 = .ok (.goto 6, 3) := by decide +kernel
theorem dX7_both_64 : decode cX7_both 64 = .ok (.iload_n 1, 1) := by decide +kernel
theorem dX7_both_65 : decode cX7_both 65 = .ok (.iload_n 2, 1) := by decide +kernel
theorem dX7_both_66 : decode cX7_both 66 = .ok (.idiv, 1) := by decide +kernel
theorem dX7_both_67 : decode cX7_both 67 = .ok (.ireturn, 1) := by decide +kernel
theorem dX7_both_68 : decode cX7_both 68 = .ok (.iload_n 1, 1) := by decide +kernel
theorem dX7_both_69 : decode cX7_both 69 = .ok (.iload_n 2, 1) := by decide +kernel
theorem dX7_both_70 : decode cX7_both 70 = .ok (.if_icmp .ge 7, 3) := by decide +kernel
theorem dX7_both_73 : decode cX7_both 73 = .ok (.iconst 1, 1) := by decide +kernel
theorem dX7_both_74 : decode cX7_both 74 = .ok (.goto 4, 3) := by decide +kernel
theorem dX7_both_77 : decode cX7_both 77 = .ok (.iconst 0, 1) := by decide +kernel
theorem dX7_both_78 : decode cX7_both 78 = .ok (.ireturn, 1) := by decide +kernel
theorem dX7_both_79 : decode cX7_both 79 = .ok (.iload_n 1, 1) := by decide +kernel
theorem dX7_both_80 : decode cX7_both 80 = .ok (.iload_n 2, 1) := by decide +kernel
theorem dX7_both_81 : decode cX7_both 81 = .ok (.if_icmp .ne 7, 3) := by decide +kernel
theorem dX7_both_84 : decode cX7_both 84 = .ok (.iconst 1, 1) := by decide +kernel
theorem dX7_both_85 : decode cX7_both 85 = .ok (.goto 4, 3) := by decide +kernel
theorem dX7_both_88 : decode cX7_both 88 = .ok (.iconst 0, 1) := by decide +kernel
theorem dX7_both_89 : decode cX7_both 89 = .ok (.ireturn, 1) := by decide +kernel
theorem dX7_both_90 : decode cX7_both 90 = .ok (.iload_n 1, 1) := by decide +kernel
theorem dX7_both_91 : decode cX7_both 91 = .ok (.ifCond .eq 11, 3) := by decide +kernel
theorem dX7_both_94 : decode cX7_both 94 = .ok (.iload_n 2, 1) := by decide +kernel
theorem dX7_both_95 : decode cX7_both 95 = .ok (.ifCond .eq 7, 3) := by decide +kernel
theorem dX7_both_98 : decode cX7_both 98 = .ok (.iconst 1, 1) := by decide +kernel
theorem dX7_both_99 : decode cX7_both 99 = .ok (.goto 4, 3) := by decide +kernel
theorem dX7_both_102 : decode cX7_both 102 = .ok (.iconst 0, 1) := by decide +kernel
theorem dX7_both_103 : decode cX7_both 103 = .ok (.ireturn, 1) := by decide +kernel
theorem dX7_both_104 : decode cX7_both 104 = .ok (.iload_n 1, 1) := by decide +kernel
theorem dX7_both_105 : decode cX7_both 105 = .ok (.ifCond .ne 7, 3) := by decide +kernel
theorem dX7_both_108 : decode cX7_both 108 = .ok (.iload_n 2, 1) := by decide +kernel
theorem dX7_both_109 : decode cX7_both 109 = .ok (.ifCond .eq 7, 3) := by decide +kernel
theorem dX7_both_112 : decode cX7_both 112 = .ok (.iconst 1, 1) := by decide +kernel
theorem dX7_both_113 : decode cX7_both 113 = .ok (.goto 4, 3) := by decide +kernel
theorem dX7_both_116 : decode cX7_both 116 = .ok (.iconst 0, 1) := by decide +kernel
theorem dX7_both_117 : decode cX7_both 117 = .ok (.ireturn, 1) := by decide +kernel
theorem dX7_lawFor_0 : decode cX7_lawFor 0 = .ok (.bipush 24, 2) := by decide +kernel
theorem dX7_lawFor_2 : decode cX7_lawFor 2 = .ok (.aload_n 0, 1) := by decide +kernel
theorem dX7_lawFor_3 : decode cX7_lawFor 3 = .ok (.getfield 243, 3) := by decide +kernel
theorem dX7_lawFor_6 : decode cX7_lawFor 6 = .ok (.imul, 1) := by decide +kernel
theorem dX7_lawFor_7 : decode cX7_lawFor 7 = .ok (.istore_n 2, 1) := by decide +kernel
theorem dX7_lawFor_8 : decode cX7_lawFor 8 = .ok (.iload_n 2, 1) := by decide +kernel
theorem dX7_lawFor_9 : decode cX7_lawFor 9 = .ok (.bipush 24, 2) := by decide +kernel
theorem dX7_lawFor_11 : decode cX7_lawFor 11 = .ok (.aload_n 0, 1) := by decide +kernel
theorem dX7_lawFor_12 : decode cX7_lawFor 12 = .ok (.getfield 243, 3) := by decide +kernel
theorem dX7_lawFor_15 : decode cX7_lawFor 15 = .ok (.imul, 1) := by decide +kernel
theorem dX7_lawFor_16 : decode cX7_lawFor 16 = .ok (.aload_n 0, 1) := by decide +kernel
theorem dX7_lawFor_17 : decode cX7_lawFor 17 = .ok (.getfield 83, 3) := by decide +kernel
theorem dX7_lawFor_20 : decode cX7_lawFor 20 = .ok (.aload_n 0, 1) := by decide +kernel
theorem dX7_lawFor_21 : decode cX7_lawFor 21 = .ok (.getfield 243, 3) := by decide +kernel
theorem dX7_lawFor_24 : decode cX7_lawFor 24 = .ok (.iaload, 1) := by decide +kernel
theorem dX7_lawFor_25 : decode cX7_lawFor 25 = .ok (.iadd, 1) := by decide +kernel
theorem dX7_lawFor_26 : decode cX7_lawFor 26 = .ok (.if_icmp .ge 74, 3) := by decide +kernel
theorem dX7_lawFor_29 : decode cX7_lawFor 29 = .ok (.aload_n 0, 1) := by decide +kernel
theorem dX7_lawFor_30 : decode cX7_lawFor 30 = .ok (.getfield 86, 3) := by decide +kernel
theorem dX7_lawFor_33 : decode cX7_lawFor 33 = .ok (.iload_n 2, 1) := by decide +kernel
theorem dX7_lawFor_34 : decode cX7_lawFor 34 = .ok (.iaload, 1) := by decide +kernel
theorem dX7_lawFor_35 : decode cX7_lawFor 35 = .ok (.iload_n 1, 1) := by decide +kernel
theorem dX7_lawFor_36 : decode cX7_lawFor 36 = .ok (.if_icmp .ne 58, 3) := by decide +kernel
theorem dX7_lawFor_39 : decode cX7_lawFor 39 = .ok (.aload_n 0, 1) := by decide +kernel
theorem dX7_lawFor_40 : decode cX7_lawFor 40 = .ok (.aload_n 0, 1) := by decide +kernel
theorem dX7_lawFor_41 : decode cX7_lawFor 41 = .ok (.getfield 98, 3) := by decide +kernel
theorem dX7_lawFor_44 : decode cX7_lawFor 44 = .ok (.iload_n 2, 1) := by decide +kernel
theorem dX7_lawFor_45 : decode cX7_lawFor 45 = .ok (.iaload, 1) := by decide +kernel
theorem dX7_lawFor_46 : decode cX7_lawFor 46 = .ok (.invokevirtual 295, 3) := by decide +kernel
theorem dX7_lawFor_49 : decode cX7_lawFor 49 = .ok (.ifCond .eq 45, 3) := by decide +kernel
theorem dX7_lawFor_52 : decode cX7_lawFor 52 = .ok (.aload_n 0, 1) := by decide +kernel
theorem dX7_lawFor_53 : decode cX7_lawFor 53 = .ok (.getfield 95, 3) := by decide +kernel
theorem dX7_lawFor_56 : decode cX7_lawFor 56 = .ok (.iload_n 2, 1) := by decide +kernel
theorem dX7_lawFor_57 : decode cX7_lawFor 57 = .ok (.iaload, 1) := by decide +kernel
theorem dX7_lawFor_58 : decode cX7_lawFor 58 = .ok (.ifCond .lt 29, 3) := by decide +kernel
theorem dX7_lawFor_61 : decode cX7_lawFor 61 = .ok (.aload_n 0, 1) := by decide +kernel
theorem dX7_lawFor_62 : decode cX7_lawFor 62 = .ok (.getfield 298, 3) := by decide +kernel
theorem dX7_lawFor_65 : decode cX7_lawFor 65 = .ok (.aload_n 0, 1) := by decide +kernel
theorem dX7_lawFor_66 : decode cX7_lawFor 66 = .ok (.getfield 95, 3) := by decide +kernel
theorem dX7_lawFor_69 : decode cX7_lawFor 69 = .ok (.iload_n 2, 1) := by decide +kernel
theorem dX7_lawFor_70 : decode cX7_lawFor 70 = .ok (.iaload, 1) := by decide +kernel
theorem dX7_lawFor_71 : decode cX7_lawFor 71 = .ok (.ishr, 1) := by decide +kernel
theorem dX7_lawFor_72 : decode cX7_lawFor 72 = .ok (.iconst 1, 1) := by decide +kernel
theorem dX7_lawFor_73 : decode cX7_lawFor 73 = .ok (.iand, 1) := by decide +kernel
theorem dX7_lawFor_74 : decode cX7_lawFor 74 = .ok (.iconst 1, 1) := by decide +kernel
theorem dX7_lawFor_75 : decode cX7_lawFor 75 = .ok (.if_icmp .ne 12, 3) := by decide +kernel
theorem dX7_lawFor_78 : decode cX7_lawFor 78 = .ok (.aload_n 0, 1) := by decide +kernel
theorem dX7_lawFor_79 : decode cX7_lawFor 79 = .ok (.getfield 92, 3) := by decide +kernel
theorem dX7_lawFor_82 : decode cX7_lawFor 82 = .ok (.iload_n 2, 1) := by decide +kernel
theorem dX7_lawFor_83 : decode cX7_lawFor 83 = .ok (.iaload, 1) := by decide +kernel
theorem dX7_lawFor_84 : decode cX7_lawFor 84 = .ok (.goto 9, 3) := by decide +kernel
theorem dX7_lawFor_87 : decode cX7_lawFor 87 = .ok (.aload_n 0, 1) := by decide +kernel
theorem dX7_lawFor_88 : decode cX7_lawFor 88 = .ok (.getfield 89, 3) := by decide +kernel
theorem dX7_lawFor_91 : decode cX7_lawFor 91 = .ok (.iload_n 2, 1) := by decide +kernel
theorem dX7_lawFor_92 : decode cX7_lawFor 92 = .ok (.iaload, 1) := by decide +kernel
theorem dX7_lawFor_93 : decode cX7_lawFor 93 = .ok (.ireturn, 1) := by decide +kernel
theorem dX7_lawFor_94 : decode cX7_lawFor 94 = .ok (.iinc 2 1, 3) := by decide +kernel
theorem dX7_lawFor_97 : decode cX7_lawFor 97 = .ok (.goto (-89), 3) := by decide +kernel
theorem dX7_lawFor_100 : decode cX7_lawFor 100 = .ok (.iconst (-1), 1) := by decide +kernel
theorem dX7_lawFor_101 : decode cX7_lawFor 101 = .ok (.ireturn, 1) := by decide +kernel
theorem dX7_within_0 : decode cX7_within 0 = .ok (.iload_n 0, 1) := by decide +kernel
theorem dX7_within_1 : decode cX7_within 1 = .ok (.iload_n 1, 1) := by decide +kernel
theorem dX7_within_2 : decode cX7_within 2 = .ok (.if_icmp .lt 12, 3) := by decide +kernel
theorem dX7_within_5 : decode cX7_within 5 = .ok (.iload_n 0, 1) := by decide +kernel
theorem dX7_within_6 : decode cX7_within 6 = .ok (.iload_n 2, 1) := by decide +kernel
theorem dX7_within_7 : decode cX7_within 7 = .ok (.if_icmp .gt 7, 3) := by decide +kernel
theorem dX7_within_10 : decode cX7_within 10 = .ok (.iconst 1, 1) := by decide +kernel
theorem dX7_within_11 : decode cX7_within 11 = .ok (.goto 4, 3) := by decide +kernel
theorem dX7_within_14 : decode cX7_within 14 = .ok (.iconst 0, 1) := by decide +kernel
theorem dX7_within_15 : decode cX7_within 15 = .ok (.ireturn, 1) := by decide +kernel
theorem dX7_clears_0 : decode cX7_clears 0 = .ok (.aload_n 0, 1) := by decide +kernel
theorem dX7_clears_1 : decode cX7_clears 1 = .ok (.getfield 116, 3) := by decide +kernel
theorem dX7_clears_4 : decode cX7_clears 4 = .ok (.iconst 0, 1) := by decide +kernel
theorem dX7_clears_5 : decode cX7_clears 5 = .ok (.iload_n 1, 1) := by decide +kernel
theorem dX7_clears_6 : decode cX7_clears 6 = .ok (.iastore, 1) := by decide +kernel
theorem dX7_clears_7 : decode cX7_clears 7 = .ok (.iconst 0, 1) := by decide +kernel
theorem dX7_clears_8 : decode cX7_clears 8 = .ok (.istore_n 2, 1) := by decide +kernel
theorem dX7_clears_9 : decode cX7_clears 9 = .ok (.iload_n 2, 1) := by decide +kernel
theorem dX7_clears_10 : decode cX7_clears 10 = .ok (.bipush 12, 2) := by decide +kernel
theorem dX7_clears_12 : decode cX7_clears 12 = .ok (.if_icmp .ge 35, 3) := by decide +kernel
theorem dX7_clears_15 : decode cX7_clears 15 = .ok (.aload_n 0, 1) := by decide +kernel
theorem dX7_clears_16 : decode cX7_clears 16 = .ok (.getfield 119, 3) := by decide +kernel
theorem dX7_clears_19 : decode cX7_clears 19 = .ok (.iload_n 2, 1) := by decide +kernel
theorem dX7_clears_20 : decode cX7_clears 20 = .ok (.iconst 0, 1) := by decide +kernel
theorem dX7_clears_21 : decode cX7_clears 21 = .ok (.iastore, 1) := by decide +kernel
theorem dX7_clears_22 : decode cX7_clears 22 = .ok (.aload_n 0, 1) := by decide +kernel
theorem dX7_clears_23 : decode cX7_clears 23 = .ok (.getfield 122, 3) := by decide +kernel
theorem dX7_clears_26 : decode cX7_clears 26 = .ok (.iload_n 2, 1) := by decide +kernel
theorem dX7_clears_27 : decode cX7_clears 27 = .ok (.iconst 0, 1) := by decide +kernel
theorem dX7_clears_28 : decode cX7_clears 28 = .ok (.iastore, 1) := by decide +kernel
theorem dX7_clears_29 : decode cX7_clears 29 = .ok (.aload_n 0, 1) := by decide +kernel
theorem dX7_clears_30 : decode cX7_clears 30 = .ok (.getfield 125, 3) := by decide +kernel
theorem dX7_clears_33 : decode cX7_clears 33 = .ok (.iload_n 2, 1) := by decide +kernel
theorem dX7_clears_34 : decode cX7_clears 34 = .ok (.bipush 100, 2) := by decide +kernel
theorem dX7_clears_36 : decode cX7_clears 36 = .ok (.iload_n 2, 1) := by decide +kernel
theorem dX7_clears_37 : decode cX7_clears 37 = .ok (.iconst 1, 1) := by decide +kernel
theorem dX7_clears_38 : decode cX7_clears 38 = .ok (.iadd, 1) := by decide +kernel
theorem dX7_clears_39 : decode cX7_clears 39 = .ok (.imul, 1) := by decide +kernel
theorem dX7_clears_40 : decode cX7_clears 40 = .ok (.iastore, 1) := by decide +kernel
theorem dX7_clears_41 : decode cX7_clears 41 = .ok (.iinc 2 1, 3) := by decide +kernel
theorem dX7_clears_44 : decode cX7_clears 44 = .ok (.goto (-35), 3) := by decide +kernel
theorem dX7_clears_47 : decode cX7_clears 47 = .ok (.iconst 0, 1) := by decide +kernel
theorem dX7_clears_48 : decode cX7_clears 48 = .ok (.istore_n 2, 1) := by decide +kernel
theorem dX7_clears_49 : decode cX7_clears 49 = .ok (.iload_n 2, 1) := by decide +kernel
theorem dX7_clears_50 : decode cX7_clears 50 = .ok (.bipush 60, 2) := by decide +kernel
theorem dX7_clears_52 : decode cX7_clears 52 = .ok (.if_icmp .ge 16, 3) := by decide +kernel
theorem dX7_clears_55 : decode cX7_clears 55 = .ok (.aload_n 0, 1) := by decide +kernel
theorem dX7_clears_56 : decode cX7_clears 56 = .ok (.getfield 128, 3) := by decide +kernel
theorem dX7_clears_59 : decode cX7_clears 59 = .ok (.iload_n 2, 1) := by decide +kernel
theorem dX7_clears_60 : decode cX7_clears 60 = .ok (.iconst 0, 1) := by decide +kernel
theorem dX7_clears_61 : decode cX7_clears 61 = .ok (.iastore, 1) := by decide +kernel
theorem dX7_clears_62 : decode cX7_clears 62 = .ok (.iinc 2 1, 3) := by decide +kernel
theorem dX7_clears_65 : decode cX7_clears 65 = .ok (.goto (-16), 3) := by decide +kernel
theorem dX7_clears_68 : decode cX7_clears 68 = .ok (.aload_n 0, 1) := by decide +kernel
theorem dX7_clears_69 : decode cX7_clears 69 = .ok (.getfield 146, 3) := by decide +kernel
theorem dX7_clears_72 : decode cX7_clears 72 = .ok (.iconst 0, 1) := by decide +kernel
theorem dX7_clears_73 : decode cX7_clears 73 = .ok (.iconst 0, 1) := by decide +kernel
theorem dX7_clears_74 : decode cX7_clears 74 = .ok (.iastore, 1) := by decide +kernel
theorem dX7_clears_75 : decode cX7_clears 75 = .ok (.aload_n 0, 1) := by decide +kernel
theorem dX7_clears_76 : decode cX7_clears 76 = .ok (.getfield 140, 3) := by decide +kernel
theorem dX7_clears_79 : decode cX7_clears 79 = .ok (.iconst 0, 1) := by decide +kernel
theorem dX7_clears_80 : decode cX7_clears 80 = .ok (.lconst 0, 1) := by decide +kernel
theorem dX7_clears_81 : decode cX7_clears 81 = .ok (.lastore, 1) := by decide +kernel
theorem dX7_clears_82 : decode cX7_clears 82 = .ok (.aload_n 0, 1) := by decide +kernel
theorem dX7_clears_83 : decode cX7_clears 83 = .ok (.getfield 143, 3) := by decide +kernel
theorem dX7_clears_86 : decode cX7_clears 86 = .ok (.iconst 0, 1) := by decide +kernel
theorem dX7_clears_87 : decode cX7_clears 87 = .ok (.lconst 0, 1) := by decide +kernel
theorem dX7_clears_88 : decode cX7_clears 88 = .ok (.lastore, 1) := by decide +kernel
theorem dX7_clears_89 : decode cX7_clears 89 = .ok (.return_, 1) := by decide +kernel
theorem dX7_copies_0 : decode cX7_copies 0 = .ok (.aload_n 0, 1) := by decide +kernel
theorem dX7_copies_1 : decode cX7_copies 1 = .ok (.getfield 116, 3) := by decide +kernel
theorem dX7_copies_4 : decode cX7_copies 4 = .ok (.iload_n 2, 1) := by decide +kernel
theorem dX7_copies_5 : decode cX7_copies 5 = .ok (.aload_n 0, 1) := by decide +kernel
theorem dX7_copies_6 : decode cX7_copies 6 = .ok (.getfield 116, 3) := by decide +kernel
theorem dX7_copies_9 : decode cX7_copies 9 = .ok (.iload_n 1, 1) := by decide +kernel
theorem dX7_copies_10 : decode cX7_copies 10 = .ok (.iaload, 1) := by decide +kernel
theorem dX7_copies_11 : decode cX7_copies 11 = .ok (.iastore, 1) := by decide +kernel
theorem dX7_copies_12 : decode cX7_copies 12 = .ok (.aload_n 0, 1) := by decide +kernel
theorem dX7_copies_13 : decode cX7_copies 13 = .ok (.getfield 131, 3) := by decide +kernel
theorem dX7_copies_16 : decode cX7_copies 16 = .ok (.iload_n 2, 1) := by decide +kernel
theorem dX7_copies_17 : decode cX7_copies 17 = .ok (.aload_n 0, 1) := by decide +kernel
theorem dX7_copies_18 : decode cX7_copies 18 = .ok (.getfield 131, 3) := by decide +kernel
theorem dX7_copies_21 : decode cX7_copies 21 = .ok (.iload_n 1, 1) := by decide +kernel
theorem dX7_copies_22 : decode cX7_copies 22 = .ok (.iaload, 1) := by decide +kernel
theorem dX7_copies_23 : decode cX7_copies 23 = .ok (.iastore, 1) := by decide +kernel
theorem dX7_copies_24 : decode cX7_copies 24 = .ok (.aload_n 0, 1) := by decide +kernel
theorem dX7_copies_25 : decode cX7_copies 25 = .ok (.getfield 134, 3) := by decide +kernel
theorem dX7_copies_28 : decode cX7_copies 28 = .ok (.iload_n 2, 1) := by decide +kernel
theorem dX7_copies_29 : decode cX7_copies 29 = .ok (.aload_n 0, 1) := by decide +kernel
theorem dX7_copies_30 : decode cX7_copies 30 = .ok (.getfield 134, 3) := by decide +kernel
theorem dX7_copies_33 : decode cX7_copies 33 = .ok (.iload_n 1, 1) := by decide +kernel
theorem dX7_copies_34 : decode cX7_copies 34 = .ok (.iaload, 1) := by decide +kernel
theorem dX7_copies_35 : decode cX7_copies 35 = .ok (.iastore, 1) := by decide +kernel
theorem dX7_copies_36 : decode cX7_copies 36 = .ok (.aload_n 0, 1) := by decide +kernel
theorem dX7_copies_37 : decode cX7_copies 37 = .ok (.getfield 137, 3) := by decide +kernel
theorem dX7_copies_40 : decode cX7_copies 40 = .ok (.iload_n 2, 1) := by decide +kernel
theorem dX7_copies_41 : decode cX7_copies 41 = .ok (.aload_n 0, 1) := by decide +kernel
theorem dX7_copies_42 : decode cX7_copies 42 = .ok (.getfield 137, 3) := by decide +kernel
theorem dX7_copies_45 : decode cX7_copies 45 = .ok (.iload_n 1, 1) := by decide +kernel
theorem dX7_copies_46 : decode cX7_copies 46 = .ok (.iaload, 1) := by decide +kernel
theorem dX7_copies_47 : decode cX7_copies 47 = .ok (.iastore, 1) := by decide +kernel
theorem dX7_copies_48 : decode cX7_copies 48 = .ok (.aload_n 0, 1) := by decide +kernel
theorem dX7_copies_49 : decode cX7_copies 49 = .ok (.getfield 140, 3) := by decide +kernel
theorem dX7_copies_52 : decode cX7_copies 52 = .ok (.iload_n 2, 1) := by decide +kernel
theorem dX7_copies_53 : decode cX7_copies 53 = .ok (.aload_n 0, 1) := by decide +kernel
theorem dX7_copies_54 : decode cX7_copies 54 = .ok (.getfield 140, 3) := by decide +kernel
theorem dX7_copies_57 : decode cX7_copies 57 = .ok (.iload_n 1, 1) := by decide +kernel
theorem dX7_copies_58 : decode cX7_copies 58 = .ok (.laload, 1) := by decide +kernel
theorem dX7_copies_59 : decode cX7_copies 59 = .ok (.lastore, 1) := by decide +kernel
theorem dX7_copies_60 : decode cX7_copies 60 = .ok (.aload_n 0, 1) := by decide +kernel
theorem dX7_copies_61 : decode cX7_copies 61 = .ok (.getfield 143, 3) := by decide +kernel
theorem dX7_copies_64 : decode cX7_copies 64 = .ok (.iload_n 2, 1) := by decide +kernel
theorem dX7_copies_65 : decode cX7_copies 65 = .ok (.aload_n 0, 1) := by decide +kernel
theorem dX7_copies_66 : decode cX7_copies 66 = .ok (.getfield 143, 3) := by decide +kernel
theorem dX7_copies_69 : decode cX7_copies 69 = .ok (.iload_n 1, 1) := by decide +kernel
theorem dX7_copies_70 : decode cX7_copies 70 = .ok (.laload, 1) := by decide +kernel
theorem dX7_copies_71 : decode cX7_copies 71 = .ok (.lastore, 1) := by decide +kernel
theorem dX7_copies_72 : decode cX7_copies 72 = .ok (.aload_n 0, 1) := by decide +kernel
theorem dX7_copies_73 : decode cX7_copies 73 = .ok (.getfield 146, 3) := by decide +kernel
theorem dX7_copies_76 : decode cX7_copies 76 = .ok (.iload_n 2, 1) := by decide +kernel
theorem dX7_copies_77 : decode cX7_copies 77 = .ok (.aload_n 0, 1) := by decide +kernel
theorem dX7_copies_78 : decode cX7_copies 78 = .ok (.getfield 146, 3) := by decide +kernel
theorem dX7_copies_81 : decode cX7_copies 81 = .ok (.iload_n 1, 1) := by decide +kernel
theorem dX7_copies_82 : decode cX7_copies 82 = .ok (.iaload, 1) := by decide +kernel
theorem dX7_copies_83 : decode cX7_copies 83 = .ok (.iastore, 1) := by decide +kernel
theorem dX7_copies_84 : decode cX7_copies 84 = .ok (.iconst 0, 1) := by decide +kernel
theorem dX7_copies_85 : decode cX7_copies 85 = .ok (.istore_n 3, 1) := by decide +kernel
theorem dX7_copies_86 : decode cX7_copies 86 = .ok (.iload_n 3, 1) := by decide +kernel
theorem dX7_copies_87 : decode cX7_copies 87 = .ok (.bipush 12, 2) := by decide +kernel
theorem dX7_copies_89 : decode cX7_copies 89 = .ok (.if_icmp .ge 75, 3) := by decide +kernel
theorem dX7_copies_92 : decode cX7_copies 92 = .ok (.aload_n 0, 1) := by decide +kernel
theorem dX7_copies_93 : decode cX7_copies 93 = .ok (.getfield 119, 3) := by decide +kernel
theorem dX7_copies_96 : decode cX7_copies 96 = .ok (.bipush 12, 2) := by decide +kernel
theorem dX7_copies_98 : decode cX7_copies 98 = .ok (.iload_n 2, 1) := by decide +kernel
theorem dX7_copies_99 : decode cX7_copies 99 = .ok (.imul, 1) := by decide +kernel
theorem dX7_copies_100 : decode cX7_copies 100 = .ok (.iload_n 3, 1) := by decide +kernel
theorem dX7_copies_101 : decode cX7_copies 101 = .ok (.iadd, 1) := by decide +kernel
theorem dX7_copies_102 : decode cX7_copies 102 = .ok (.aload_n 0, 1) := by decide +kernel
theorem dX7_copies_103 : decode cX7_copies 103 = .ok (.getfield 119, 3) := by decide +kernel
theorem dX7_copies_106 : decode cX7_copies 106 = .ok (.bipush 12, 2) := by decide +kernel
theorem dX7_copies_108 : decode cX7_copies 108 = .ok (.iload_n 1, 1) := by decide +kernel
theorem dX7_copies_109 : decode cX7_copies 109 = .ok (.imul, 1) := by decide +kernel
theorem dX7_copies_110 : decode cX7_copies 110 = .ok (.iload_n 3, 1) := by decide +kernel
theorem dX7_copies_111 : decode cX7_copies 111 = .ok (.iadd, 1) := by decide +kernel
theorem dX7_copies_112 : decode cX7_copies 112 = .ok (.iaload, 1) := by decide +kernel
theorem dX7_copies_113 : decode cX7_copies 113 = .ok (.iastore, 1) := by decide +kernel
theorem dX7_copies_114 : decode cX7_copies 114 = .ok (.aload_n 0, 1) := by decide +kernel
theorem dX7_copies_115 : decode cX7_copies 115 = .ok (.getfield 122, 3) := by decide +kernel
theorem dX7_copies_118 : decode cX7_copies 118 = .ok (.bipush 12, 2) := by decide +kernel
theorem dX7_copies_120 : decode cX7_copies 120 = .ok (.iload_n 2, 1) := by decide +kernel
theorem dX7_copies_121 : decode cX7_copies 121 = .ok (.imul, 1) := by decide +kernel
theorem dX7_copies_122 : decode cX7_copies 122 = .ok (.iload_n 3, 1) := by decide +kernel
theorem dX7_copies_123 : decode cX7_copies 123 = .ok (.iadd, 1) := by decide +kernel
theorem dX7_copies_124 : decode cX7_copies 124 = .ok (.aload_n 0, 1) := by decide +kernel
theorem dX7_copies_125 : decode cX7_copies 125 = .ok (.getfield 122, 3) := by decide +kernel
theorem dX7_copies_128 : decode cX7_copies 128 = .ok (.bipush 12, 2) := by decide +kernel
theorem dX7_copies_130 : decode cX7_copies 130 = .ok (.iload_n 1, 1) := by decide +kernel
theorem dX7_copies_131 : decode cX7_copies 131 = .ok (.imul, 1) := by decide +kernel
theorem dX7_copies_132 : decode cX7_copies 132 = .ok (.iload_n 3, 1) := by decide +kernel
theorem dX7_copies_133 : decode cX7_copies 133 = .ok (.iadd, 1) := by decide +kernel
theorem dX7_copies_134 : decode cX7_copies 134 = .ok (.iaload, 1) := by decide +kernel
theorem dX7_copies_135 : decode cX7_copies 135 = .ok (.iastore, 1) := by decide +kernel
theorem dX7_copies_136 : decode cX7_copies 136 = .ok (.aload_n 0, 1) := by decide +kernel
theorem dX7_copies_137 : decode cX7_copies 137 = .ok (.getfield 125, 3) := by decide +kernel
theorem dX7_copies_140 : decode cX7_copies 140 = .ok (.bipush 12, 2) := by decide +kernel
theorem dX7_copies_142 : decode cX7_copies 142 = .ok (.iload_n 2, 1) := by decide +kernel
theorem dX7_copies_143 : decode cX7_copies 143 = .ok (.imul, 1) := by decide +kernel
theorem dX7_copies_144 : decode cX7_copies 144 = .ok (.iload_n 3, 1) := by decide +kernel
theorem dX7_copies_145 : decode cX7_copies 145 = .ok (.iadd, 1) := by decide +kernel
theorem dX7_copies_146 : decode cX7_copies 146 = .ok (.aload_n 0, 1) := by decide +kernel
theorem dX7_copies_147 : decode cX7_copies 147 = .ok (.getfield 125, 3) := by decide +kernel
theorem dX7_copies_150 : decode cX7_copies 150 = .ok (.bipush 12, 2) := by decide +kernel
theorem dX7_copies_152 : decode cX7_copies 152 = .ok (.iload_n 1, 1) := by decide +kernel
theorem dX7_copies_153 : decode cX7_copies 153 = .ok (.imul, 1) := by decide +kernel
theorem dX7_copies_154 : decode cX7_copies 154 = .ok (.iload_n 3, 1) := by decide +kernel
theorem dX7_copies_155 : decode cX7_copies 155 = .ok (.iadd, 1) := by decide +kernel
theorem dX7_copies_156 : decode cX7_copies 156 = .ok (.iaload, 1) := by decide +kernel
theorem dX7_copies_157 : decode cX7_copies 157 = .ok (.iastore, 1) := by decide +kernel
theorem dX7_copies_158 : decode cX7_copies 158 = .ok (.iinc 3 1, 3) := by decide +kernel
theorem dX7_copies_161 : decode cX7_copies 161 = .ok (.goto (-75), 3) := by decide +kernel
theorem dX7_copies_164 : decode cX7_copies 164 = .ok (.iconst 0, 1) := by decide +kernel
theorem dX7_copies_165 : decode cX7_copies 165 = .ok (.istore_n 3, 1) := by decide +kernel
theorem dX7_copies_166 : decode cX7_copies 166 = .ok (.iload_n 3, 1) := by decide +kernel
theorem dX7_copies_167 : decode cX7_copies 167 = .ok (.bipush 60, 2) := by decide +kernel
theorem dX7_copies_169 : decode cX7_copies 169 = .ok (.if_icmp .ge 31, 3) := by decide +kernel
theorem dX7_copies_172 : decode cX7_copies 172 = .ok (.aload_n 0, 1) := by decide +kernel
theorem dX7_copies_173 : decode cX7_copies 173 = .ok (.getfield 128, 3) := by decide +kernel
theorem dX7_copies_176 : decode cX7_copies 176 = .ok (.bipush 60, 2) := by decide +kernel
theorem dX7_copies_178 : decode cX7_copies 178 = .ok (.iload_n 2, 1) := by decide +kernel
theorem dX7_copies_179 : decode cX7_copies 179 = .ok (.imul, 1) := by decide +kernel
theorem dX7_copies_180 : decode cX7_copies 180 = .ok (.iload_n 3, 1) := by decide +kernel
theorem dX7_copies_181 : decode cX7_copies 181 = .ok (.iadd, 1) := by decide +kernel
theorem dX7_copies_182 : decode cX7_copies 182 = .ok (.aload_n 0, 1) := by decide +kernel
theorem dX7_copies_183 : decode cX7_copies 183 = .ok (.getfield 128, 3) := by decide +kernel
theorem dX7_copies_186 : decode cX7_copies 186 = .ok (.bipush 60, 2) := by decide +kernel
theorem dX7_copies_188 : decode cX7_copies 188 = .ok (.iload_n 1, 1) := by decide +kernel
theorem dX7_copies_189 : decode cX7_copies 189 = .ok (.imul, 1) := by decide +kernel
theorem dX7_copies_190 : decode cX7_copies 190 = .ok (.iload_n 3, 1) := by decide +kernel
theorem dX7_copies_191 : decode cX7_copies 191 = .ok (.iadd, 1) := by decide +kernel
theorem dX7_copies_192 : decode cX7_copies 192 = .ok (.iaload, 1) := by decide +kernel
theorem dX7_copies_193 : decode cX7_copies 193 = .ok (.iastore, 1) := by decide +kernel
theorem dX7_copies_194 : decode cX7_copies 194 = .ok (.iinc 3 1, 3) := by decide +kernel
theorem dX7_copies_197 : decode cX7_copies 197 = .ok (.goto (-31), 3) := by decide +kernel
theorem dX7_copies_200 : decode cX7_copies 200 = .ok (.iconst 0, 1) := by decide +kernel
theorem dX7_copies_201 : decode cX7_copies 201 = .ok (.istore_n 3, 1) := by decide +kernel
theorem dX7_copies_202 : decode cX7_copies 202 = .ok (.iload_n 3, 1) := by decide +kernel
theorem dX7_copies_203 : decode cX7_copies 203 = .ok (.bipush 30, 2) := by decide +kernel
theorem dX7_copies_205 : decode cX7_copies 205 = .ok (.if_icmp .ge 151, 3) := by decide +kernel
theorem dX7_copies_208 : decode cX7_copies 208 = .ok (.bipush 30, 2) := by decide +kernel
theorem dX7_copies_210 : decode cX7_copies 210 = .ok (.iload_n 1, 1) := by decide +kernel
theorem dX7_copies_211 : decode cX7_copies 211 = .ok (.imul, 1) := by decide +kernel
theorem dX7_copies_212 : decode cX7_copies 212 = .ok (.iload_n 3, 1) := by decide +kernel
theorem dX7_copies_213 : decode cX7_copies 213 = .ok (.iadd, 1) := by decide +kernel
theorem dX7_copies_214 : decode cX7_copies 214 = .ok (.istore 4, 2) := by decide +kernel
theorem dX7_copies_216 : decode cX7_copies 216 = .ok (.bipush 30, 2) := by decide +kernel
theorem dX7_copies_218 : decode cX7_copies 218 = .ok (.iload_n 2, 1) := by decide +kernel
theorem dX7_copies_219 : decode cX7_copies 219 = .ok (.imul, 1) := by decide +kernel
theorem dX7_copies_220 : decode cX7_copies 220 = .ok (.iload_n 3, 1) := by decide +kernel
theorem dX7_copies_221 : decode cX7_copies 221 = .ok (.iadd, 1) := by decide +kernel
theorem dX7_copies_222 : decode cX7_copies 222 = .ok (.istore 5, 2) := by decide +kernel
theorem dX7_copies_224 : decode cX7_copies 224 = .ok (.aload_n 0, 1) := by decide +kernel
theorem dX7_copies_225 : decode cX7_copies 225 = .ok (.getfield 149, 3) := by decide +kernel
theorem dX7_copies_228 : decode cX7_copies 228 = .ok (.iload 5, 2) := by decide +kernel
theorem dX7_copies_230 : decode cX7_copies 230 = .ok (.aload_n 0, 1) := by decide +kernel
theorem dX7_copies_231 : decode cX7_copies 231 = .ok (.getfield 149, 3) := by decide +kernel
theorem dX7_copies_234 : decode cX7_copies 234 = .ok (.iload 4, 2) := by decide +kernel
theorem dX7_copies_236 : decode cX7_copies 236 = .ok (.iaload, 1) := by decide +kernel
theorem dX7_copies_237 : decode cX7_copies 237 = .ok (.iastore, 1) := by decide +kernel
theorem dX7_copies_238 : decode cX7_copies 238 = .ok (.aload_n 0, 1) := by decide +kernel
theorem dX7_copies_239 : decode cX7_copies 239 = .ok (.getfield 152, 3) := by decide +kernel
theorem dX7_copies_242 : decode cX7_copies 242 = .ok (.iload 5, 2) := by decide +kernel
theorem dX7_copies_244 : decode cX7_copies 244 = .ok (.aload_n 0, 1) := by decide +kernel
theorem dX7_copies_245 : decode cX7_copies 245 = .ok (.getfield 152, 3) := by decide +kernel
theorem dX7_copies_248 : decode cX7_copies 248 = .ok (.iload 4, 2) := by decide +kernel
theorem dX7_copies_250 : decode cX7_copies 250 = .ok (.iaload, 1) := by decide +kernel
theorem dX7_copies_251 : decode cX7_copies 251 = .ok (.iastore, 1) := by decide +kernel
theorem dX7_copies_252 : decode cX7_copies 252 = .ok (.aload_n 0, 1) := by decide +kernel
theorem dX7_copies_253 : decode cX7_copies 253 = .ok (.getfield 155, 3) := by decide +kernel
theorem dX7_copies_256 : decode cX7_copies 256 = .ok (.iload 5, 2) := by decide +kernel
theorem dX7_copies_258 : decode cX7_copies 258 = .ok (.aload_n 0, 1) := by decide +kernel
theorem dX7_copies_259 : decode cX7_copies 259 = .ok (.getfield 155, 3) := by decide +kernel
theorem dX7_copies_262 : decode cX7_copies 262 = .ok (.iload 4, 2) := by decide +kernel
theorem dX7_copies_264 : decode cX7_copies 264 = .ok (.iaload, 1) := by decide +kernel
theorem dX7_copies_265 : decode cX7_copies 265 = .ok (.iastore, 1) := by decide +kernel
theorem dX7_copies_266 : decode cX7_copies 266 = .ok (.aload_n 0, 1) := by decide +kernel
theorem dX7_copies_267 : decode cX7_copies 267 = .ok (.getfield 158, 3) := by decide +kernel
theorem dX7_copies_270 : decode cX7_copies 270 = .ok (.iload 5, 2) := by decide +kernel
theorem dX7_copies_272 : decode cX7_copies 272 = .ok (.aload_n 0, 1) := by decide +kernel
theorem dX7_copies_273 : decode cX7_copies 273 = .ok (.getfield 158, 3) := by decide +kernel
theorem dX7_copies_276 : decode cX7_copies 276 = .ok (.iload 4, 2) := by decide +kernel
theorem dX7_copies_278 : decode cX7_copies 278 = .ok (.iaload, 1) := by decide +kernel
theorem dX7_copies_279 : decode cX7_copies 279 = .ok (.iastore, 1) := by decide +kernel
theorem dX7_copies_280 : decode cX7_copies 280 = .ok (.aload_n 0, 1) := by decide +kernel
theorem dX7_copies_281 : decode cX7_copies 281 = .ok (.getfield 161, 3) := by decide +kernel
theorem dX7_copies_284 : decode cX7_copies 284 = .ok (.iload 5, 2) := by decide +kernel
theorem dX7_copies_286 : decode cX7_copies 286 = .ok (.aload_n 0, 1) := by decide +kernel
theorem dX7_copies_287 : decode cX7_copies 287 = .ok (.getfield 161, 3) := by decide +kernel
theorem dX7_copies_290 : decode cX7_copies 290 = .ok (.iload 4, 2) := by decide +kernel
theorem dX7_copies_292 : decode cX7_copies 292 = .ok (.iaload, 1) := by decide +kernel
theorem dX7_copies_293 : decode cX7_copies 293 = .ok (.iastore, 1) := by decide +kernel
theorem dX7_copies_294 : decode cX7_copies 294 = .ok (.aload_n 0, 1) := by decide +kernel
theorem dX7_copies_295 : decode cX7_copies 295 = .ok (.getfield 164, 3) := by decide +kernel
theorem dX7_copies_298 : decode cX7_copies 298 = .ok (.iload 5, 2) := by decide +kernel
theorem dX7_copies_300 : decode cX7_copies 300 = .ok (.aload_n 0, 1) := by decide +kernel
theorem dX7_copies_301 : decode cX7_copies 301 = .ok (.getfield 164, 3) := by decide +kernel
theorem dX7_copies_304 : decode cX7_copies 304 = .ok (.iload 4, 2) := by decide +kernel
theorem dX7_copies_306 : decode cX7_copies 306 = .ok (.iaload, 1) := by decide +kernel
theorem dX7_copies_307 : decode cX7_copies 307 = .ok (.iastore, 1) := by decide +kernel
theorem dX7_copies_308 : decode cX7_copies 308 = .ok (.iconst 0, 1) := by decide +kernel
theorem dX7_copies_309 : decode cX7_copies 309 = .ok (.istore 6, 2) := by decide +kernel
theorem dX7_copies_311 : decode cX7_copies 311 = .ok (.iload 6, 2) := by decide +kernel
theorem dX7_copies_313 : decode cX7_copies 313 = .ok (.bipush 12, 2) := by decide +kernel
theorem dX7_copies_315 : decode cX7_copies 315 = .ok (.if_icmp .ge 35, 3) := by decide +kernel
theorem dX7_copies_318 : decode cX7_copies 318 = .ok (.aload_n 0, 1) := by decide +kernel
theorem dX7_copies_319 : decode cX7_copies 319 = .ok (.getfield 167, 3) := by decide +kernel
theorem dX7_copies_322 : decode cX7_copies 322 = .ok (.bipush 12, 2) := by decide +kernel
theorem dX7_copies_324 : decode cX7_copies 324 = .ok (.iload 5, 2) := by decide +kernel
theorem dX7_copies_326 : decode cX7_copies 326 = .ok (.imul, 1) := by decide +kernel
theorem dX7_copies_327 : decode cX7_copies 327 = .ok (.iload 6, 2) := by decide +kernel
theorem dX7_copies_329 : decode cX7_copies 329 = .ok (.iadd, 1) := by decide +kernel
theorem dX7_copies_330 : decode cX7_copies 330 = .ok (.aload_n 0, 1) := by decide +kernel
theorem dX7_copies_331 : decode cX7_copies 331 = .ok (.getfield 167, 3) := by decide +kernel
theorem dX7_copies_334 : decode cX7_copies 334 = .ok (.bipush 12, 2) := by decide +kernel
theorem dX7_copies_336 : decode cX7_copies 336 = .ok (.iload 4, 2) := by decide +kernel
theorem dX7_copies_338 : decode cX7_copies 338 = .ok (.imul, 1) := by decide +kernel
theorem dX7_copies_339 : decode cX7_copies 339 = .ok (.iload 6, 2) := by decide +kernel
theorem dX7_copies_341 : decode cX7_copies 341 = .ok (.iadd, 1) := by decide +kernel
theorem dX7_copies_342 : decode cX7_copies 342 = .ok (.iaload, 1) := by decide +kernel
theorem dX7_copies_343 : decode cX7_copies 343 = .ok (.iastore, 1) := by decide +kernel
theorem dX7_copies_344 : decode cX7_copies 344 = .ok (.iinc 6 1, 3) := by decide +kernel
theorem dX7_copies_347 : decode cX7_copies 347 = .ok (.goto (-36), 3) := by decide +kernel
theorem dX7_copies_350 : decode cX7_copies 350 = .ok (.iinc 3 1, 3) := by decide +kernel
theorem dX7_copies_353 : decode cX7_copies 353 = .ok (.goto (-151), 3) := by decide +kernel
theorem dX7_copies_356 : decode cX7_copies 356 = .ok (.return_, 1) := by decide +kernel
theorem dX7_rings_0 : decode cX7_rings 0 = .ok (.aload_n 0, 1) := by decide +kernel
theorem dX7_rings_1 : decode cX7_rings 1 = .ok (.iconst 0, 1) := by decide +kernel
theorem dX7_rings_2 : decode cX7_rings 2 = .ok (.putfield 1, 3) := by decide +kernel
theorem dX7_rings_5 : decode cX7_rings 5 = .ok (.aload_n 0, 1) := by decide +kernel
theorem dX7_rings_6 : decode cX7_rings 6 = .ok (.getfield 137, 3) := by decide +kernel
theorem dX7_rings_9 : decode cX7_rings 9 = .ok (.iconst 0, 1) := by decide +kernel
theorem dX7_rings_10 : decode cX7_rings 10 = .ok (.iaload, 1) := by decide +kernel
theorem dX7_rings_11 : decode cX7_rings 11 = .ok (.ifCond .gt 13, 3) := by decide +kernel
theorem dX7_rings_14 : decode cX7_rings 14 = .ok (.iload_n 1, 1) := by decide +kernel
theorem dX7_rings_15 : decode cX7_rings 15 = .ok (.iconst 2, 1) := by decide +kernel
theorem dX7_rings_16 : decode cX7_rings 16 = .ok (.bipush 12, 2) := by decide +kernel
theorem dX7_rings_18 : decode cX7_rings 18 = .ok (.invokestatic 301, 3) := by decide +kernel
theorem dX7_rings_21 : decode cX7_rings 21 = .ok (.ifCond .ne 5, 3) := by decide +kernel
theorem dX7_rings_24 : decode cX7_rings 24 = .ok (.iconst 0, 1) := by decide +kernel
theorem dX7_rings_25 : decode cX7_rings 25 = .ok (.ireturn, 1) := by decide +kernel
theorem dX7_rings_26 : decode cX7_rings 26 = .ok (.aload_n 0, 1) := by decide +kernel
theorem dX7_rings_27 : decode cX7_rings 27 = .ok (.iload_n 1, 1) := by decide +kernel
theorem dX7_rings_28 : decode cX7_rings 28 = .ok (.invokevirtual 186, 3) := by decide +kernel
theorem dX7_rings_31 : decode cX7_rings 31 = .ok (.iconst 1, 1) := by decide +kernel
theorem dX7_rings_32 : decode cX7_rings 32 = .ok (.ireturn, 1) := by decide +kernel
theorem dX7_isRing_0 : decode cX7_isRing 0 = .ok (.iload_n 1, 1) := by decide +kernel
theorem dX7_isRing_1 : decode cX7_isRing 1 = .ok (.ifCond .lt 17, 3) := by decide +kernel
theorem dX7_isRing_4 : decode cX7_isRing 4 = .ok (.iload_n 1, 1) := by decide +kernel
theorem dX7_isRing_5 : decode cX7_isRing 5 = .ok (.aload_n 0, 1) := by decide +kernel
theorem dX7_isRing_6 : decode cX7_isRing 6 = .ok (.getfield 116, 3) := by decide +kernel
theorem dX7_isRing_9 : decode cX7_isRing 9 = .ok (.iconst 0, 1) := by decide +kernel
theorem dX7_isRing_10 : decode cX7_isRing 10 = .ok (.iaload, 1) := by decide +kernel
theorem dX7_isRing_11 : decode cX7_isRing 11 = .ok (.if_icmp .ge 7, 3) := by decide +kernel
theorem dX7_isRing_14 : decode cX7_isRing 14 = .ok (.iconst 1, 1) := by decide +kernel
theorem dX7_isRing_15 : decode cX7_isRing 15 = .ok (.goto 4, 3) := by decide +kernel
theorem dX7_isRing_18 : decode cX7_isRing 18 = .ok (.iconst 0, 1) := by decide +kernel
theorem dX7_isRing_19 : decode cX7_isRing 19 = .ok (.ireturn, 1) := by decide +kernel
theorem dX7_ring_0 : decode cX7_ring 0 = .ok (.aload_n 0, 1) := by decide +kernel
theorem dX7_ring_1 : decode cX7_ring 1 = .ok (.iconst 0, 1) := by decide +kernel
theorem dX7_ring_2 : decode cX7_ring 2 = .ok (.putfield 1, 3) := by decide +kernel
theorem dX7_ring_5 : decode cX7_ring 5 = .ok (.aload_n 0, 1) := by decide +kernel
theorem dX7_ring_6 : decode cX7_ring 6 = .ok (.getfield 137, 3) := by decide +kernel
theorem dX7_ring_9 : decode cX7_ring 9 = .ok (.iconst 0, 1) := by decide +kernel
theorem dX7_ring_10 : decode cX7_ring 10 = .ok (.iaload, 1) := by decide +kernel
theorem dX7_ring_11 : decode cX7_ring 11 = .ok (.ifCond .gt 44, 3) := by decide +kernel
theorem dX7_ring_14 : decode cX7_ring 14 = .ok (.aload_n 0, 1) := by decide +kernel
theorem dX7_ring_15 : decode cX7_ring 15 = .ok (.iload_n 1, 1) := by decide +kernel
theorem dX7_ring_16 : decode cX7_ring 16 = .ok (.invokevirtual 305, 3) := by decide +kernel
theorem dX7_ring_19 : decode cX7_ring 19 = .ok (.ifCond .eq 36, 3) := by decide +kernel
theorem dX7_ring_22 : decode cX7_ring 22 = .ok (.iload_n 2, 1) := by decide +kernel
theorem dX7_ring_23 : decode cX7_ring 23 = .ok (.iconst 0, 1) := by decide +kernel
theorem dX7_ring_24 : decode cX7_ring 24 = .ok (.ldc 252, 2) := by decide +kernel
theorem dX7_ring_26 : decode cX7_ring 26 = .ok (.invokestatic 301, 3) := by decide +kernel
theorem dX7_ring_29 : decode cX7_ring 29 = .ok (.ifCond .eq 26, 3) := by decide +kernel
theorem dX7_ring_32 : decode cX7_ring 32 = .ok (.iload_n 3, 1) := by decide +kernel
theorem dX7_ring_33 : decode cX7_ring 33 = .ok (.iconst 0, 1) := by decide +kernel
theorem dX7_ring_34 : decode cX7_ring 34 = .ok (.sipush 999, 3) := by decide +kernel
theorem dX7_ring_37 : decode cX7_ring 37 = .ok (.invokestatic 301, 3) := by decide +kernel
theorem dX7_ring_40 : decode cX7_ring 40 = .ok (.ifCond .eq 15, 3) := by decide +kernel
theorem dX7_ring_43 : decode cX7_ring 43 = .ok (.iload 4, 2) := by decide +kernel
theorem dX7_ring_45 : decode cX7_ring 45 = .ok (.iconst 1, 1) := by decide +kernel
theorem dX7_ring_46 : decode cX7_ring 46 = .ok (.sipush 9999, 3) := by decide +kernel
theorem dX7_ring_49 : decode cX7_ring 49 = .ok (.invokestatic 301, 3) := by decide +kernel
theorem dX7_ring_52 : decode cX7_ring 52 = .ok (.ifCond .ne 5, 3) := by decide +kernel
theorem dX7_ring_55 : decode cX7_ring 55 = .ok (.iconst 0, 1) := by decide +kernel
theorem dX7_ring_56 : decode cX7_ring 56 = .ok (.ireturn, 1) := by decide +kernel
theorem dX7_ring_57 : decode cX7_ring 57 = .ok (.aload_n 0, 1) := by decide +kernel
theorem dX7_ring_58 : decode cX7_ring 58 = .ok (.getfield 119, 3) := by decide +kernel
theorem dX7_ring_61 : decode cX7_ring 61 = .ok (.iload_n 1, 1) := by decide +kernel
theorem dX7_ring_62 : decode cX7_ring 62 = .ok (.iload_n 2, 1) := by decide +kernel
theorem dX7_ring_63 : decode cX7_ring 63 = .ok (.iastore, 1) := by decide +kernel
theorem dX7_ring_64 : decode cX7_ring 64 = .ok (.aload_n 0, 1) := by decide +kernel
theorem dX7_ring_65 : decode cX7_ring 65 = .ok (.getfield 122, 3) := by decide +kernel
theorem dX7_ring_68 : decode cX7_ring 68 = .ok (.iload_n 1, 1) := by decide +kernel
theorem dX7_ring_69 : decode cX7_ring 69 = .ok (.iload_n 3, 1) := by decide +kernel
theorem dX7_ring_70 : decode cX7_ring 70 = .ok (.iastore, 1) := by decide +kernel
theorem dX7_ring_71 : decode cX7_ring 71 = .ok (.aload_n 0, 1) := by decide +kernel
theorem dX7_ring_72 : decode cX7_ring 72 = .ok (.getfield 125, 3) := by decide +kernel
theorem dX7_ring_75 : decode cX7_ring 75 = .ok (.iload_n 1, 1) := by decide +kernel
theorem dX7_ring_76 : decode cX7_ring 76 = .ok (.iload 4, 2) := by decide +kernel
theorem dX7_ring_78 : decode cX7_ring 78 = .ok (.iastore, 1) := by decide +kernel
theorem dX7_ring_79 : decode cX7_ring 79 = .ok (.iconst 1, 1) := by decide +kernel
theorem dX7_ring_80 : decode cX7_ring 80 = .ok (.ireturn, 1) := by decide +kernel
theorem dX7_dust_0 : decode cX7_dust 0 = .ok (.aload_n 0, 1) := by decide +kernel
theorem dX7_dust_1 : decode cX7_dust 1 = .ok (.iconst 0, 1) := by decide +kernel
theorem dX7_dust_2 : decode cX7_dust 2 = .ok (.putfield 1, 3) := by decide +kernel
theorem dX7_dust_5 : decode cX7_dust 5 = .ok (.aload_n 0, 1) := by decide +kernel
theorem dX7_dust_6 : decode cX7_dust 6 = .ok (.getfield 137, 3) := by decide +kernel
theorem dX7_dust_9 : decode cX7_dust 9 = .ok (.iconst 0, 1) := by decide +kernel
theorem dX7_dust_10 : decode cX7_dust 10 = .ok (.iaload, 1) := by decide +kernel
theorem dX7_dust_11 : decode cX7_dust 11 = .ok (.ifCond .gt 30, 3) := by decide +kernel
theorem dX7_dust_14 : decode cX7_dust 14 = .ok (.aload_n 0, 1) := by decide +kernel
theorem dX7_dust_15 : decode cX7_dust 15 = .ok (.iload_n 1, 1) := by decide +kernel
theorem dX7_dust_16 : decode cX7_dust 16 = .ok (.invokevirtual 305, 3) := by decide +kernel
theorem dX7_dust_19 : decode cX7_dust 19 = .ok (.ifCond .eq 22, 3) := by decide +kernel
theorem dX7_dust_22 : decode cX7_dust 22 = .ok (.iload_n 2, 1) := by decide +kernel
theorem dX7_dust_23 : decode cX7_dust 23 = .ok (.iconst 0, 1) := by decide +kernel
theorem dX7_dust_24 : decode cX7_dust 24 = .ok (.iconst 4, 1) := by decide +kernel
theorem dX7_dust_25 : decode cX7_dust 25 = .ok (.invokestatic 301, 3) := by decide +kernel
theorem dX7_dust_28 : decode cX7_dust 28 = .ok (.ifCond .eq 13, 3) := by decide +kernel
theorem dX7_dust_31 : decode cX7_dust 31 = .ok (.iload_n 3, 1) := by decide +kernel
theorem dX7_dust_32 : decode cX7_dust 32 = .ok (.iconst 0, 1) := by decide +kernel
theorem dX7_dust_33 : decode cX7_dust 33 = .ok (.ldc 252, 2) := by decide +kernel
theorem dX7_dust_35 : decode cX7_dust 35 = .ok (.invokestatic 301, 3) := by decide +kernel
theorem dX7_dust_38 : decode cX7_dust 38 = .ok (.ifCond .ne 5, 3) := by decide +kernel
theorem dX7_dust_41 : decode cX7_dust 41 = .ok (.iconst 0, 1) := by decide +kernel
theorem dX7_dust_42 : decode cX7_dust 42 = .ok (.ireturn, 1) := by decide +kernel
theorem dX7_dust_43 : decode cX7_dust 43 = .ok (.aload_n 0, 1) := by decide +kernel
theorem dX7_dust_44 : decode cX7_dust 44 = .ok (.getfield 128, 3) := by decide +kernel
theorem dX7_dust_47 : decode cX7_dust 47 = .ok (.iconst 5, 1) := by decide +kernel
theorem dX7_dust_48 : decode cX7_dust 48 = .ok (.iload_n 1, 1) := by decide +kernel
theorem dX7_dust_49 : decode cX7_dust 49 = .ok (.imul, 1) := by decide +kernel
theorem dX7_dust_50 : decode cX7_dust 50 = .ok (.iload_n 2, 1) := by decide +kernel
theorem dX7_dust_51 : decode cX7_dust 51 = .ok (.iadd, 1) := by decide +kernel
theorem dX7_dust_52 : decode cX7_dust 52 = .ok (.iload_n 3, 1) := by decide +kernel
theorem dX7_dust_53 : decode cX7_dust 53 = .ok (.iastore, 1) := by decide +kernel
theorem dX7_dust_54 : decode cX7_dust 54 = .ok (.iconst 1, 1) := by decide +kernel
theorem dX7_dust_55 : decode cX7_dust 55 = .ok (.ireturn, 1) := by decide +kernel
theorem dX7_star_0 : decode cX7_star 0 = .ok (.aload_n 0, 1) := by decide +kernel
theorem dX7_star_1 : decode cX7_star 1 = .ok (.iconst 0, 1) := by decide +kernel
theorem dX7_star_2 : decode cX7_star 2 = .ok (.putfield 1, 3) := by decide +kernel
theorem dX7_star_5 : decode cX7_star 5 = .ok (.iload_n 1, 1) := by decide +kernel
theorem dX7_star_6 : decode cX7_star 6 = .ok (.iconst 0, 1) := by decide +kernel
theorem dX7_star_7 : decode cX7_star 7 = .ok (.ldc 252, 2) := by decide +kernel
theorem dX7_star_9 : decode cX7_star 9 = .ok (.invokestatic 301, 3) := by decide +kernel
theorem dX7_star_12 : decode cX7_star 12 = .ok (.ifCond .eq 23, 3) := by decide +kernel
theorem dX7_star_15 : decode cX7_star 15 = .ok (.iload_n 2, 1) := by decide +kernel
theorem dX7_star_16 : decode cX7_star 16 = .ok (.iconst 0, 1) := by decide +kernel
theorem dX7_star_17 : decode cX7_star 17 = .ok (.bipush 20, 2) := by decide +kernel
theorem dX7_star_19 : decode cX7_star 19 = .ok (.invokestatic 301, 3) := by decide +kernel
theorem dX7_star_22 : decode cX7_star 22 = .ok (.ifCond .eq 13, 3) := by decide +kernel
theorem dX7_star_25 : decode cX7_star 25 = .ok (.iload_n 3, 1) := by decide +kernel
theorem dX7_star_26 : decode cX7_star 26 = .ok (.iconst 1, 1) := by decide +kernel
theorem dX7_star_27 : decode cX7_star 27 = .ok (.bipush 101, 2) := by decide +kernel
theorem dX7_star_29 : decode cX7_star 29 = .ok (.invokestatic 301, 3) := by decide +kernel
theorem dX7_star_32 : decode cX7_star 32 = .ok (.ifCond .ne 5, 3) := by decide +kernel
theorem dX7_star_35 : decode cX7_star 35 = .ok (.iconst 0, 1) := by decide +kernel
theorem dX7_star_36 : decode cX7_star 36 = .ok (.ireturn, 1) := by decide +kernel
theorem dX7_star_37 : decode cX7_star 37 = .ok (.aload_n 0, 1) := by decide +kernel
theorem dX7_star_38 : decode cX7_star 38 = .ok (.getfield 131, 3) := by decide +kernel
theorem dX7_star_41 : decode cX7_star 41 = .ok (.iconst 0, 1) := by decide +kernel
theorem dX7_star_42 : decode cX7_star 42 = .ok (.iload_n 1, 1) := by decide +kernel
theorem dX7_star_43 : decode cX7_star 43 = .ok (.iastore, 1) := by decide +kernel
theorem dX7_star_44 : decode cX7_star 44 = .ok (.aload_n 0, 1) := by decide +kernel
theorem dX7_star_45 : decode cX7_star 45 = .ok (.iload_n 2, 1) := by decide +kernel
theorem dX7_star_46 : decode cX7_star 46 = .ok (.putfield 308, 3) := by decide +kernel
theorem dX7_star_49 : decode cX7_star 49 = .ok (.aload_n 0, 1) := by decide +kernel
theorem dX7_star_50 : decode cX7_star 50 = .ok (.iload_n 3, 1) := by decide +kernel
theorem dX7_star_51 : decode cX7_star 51 = .ok (.putfield 190, 3) := by decide +kernel
theorem dX7_star_54 : decode cX7_star 54 = .ok (.iconst 1, 1) := by decide +kernel
theorem dX7_star_55 : decode cX7_star 55 = .ok (.ireturn, 1) := by decide +kernel
theorem dX7_seed_0 : decode cX7_seed 0 = .ok (.aload_n 0, 1) := by decide +kernel
theorem dX7_seed_1 : decode cX7_seed 1 = .ok (.iconst 0, 1) := by decide +kernel
theorem dX7_seed_2 : decode cX7_seed 2 = .ok (.putfield 1, 3) := by decide +kernel
theorem dX7_seed_5 : decode cX7_seed 5 = .ok (.iload_n 1, 1) := by decide +kernel
theorem dX7_seed_6 : decode cX7_seed 6 = .ok (.ifCond .ge 5, 3) := by decide +kernel
theorem dX7_seed_9 : decode cX7_seed 9 = .ok (.iconst 0, 1) := by decide +kernel
theorem dX7_seed_10 : decode cX7_seed 10 = .ok (.ireturn, 1) := by decide +kernel
theorem dX7_seed_11 : decode cX7_seed 11 = .ok (.aload_n 0, 1) := by decide +kernel
theorem dX7_seed_12 : decode cX7_seed 12 = .ok (.getfield 134, 3) := by decide +kernel
theorem dX7_seed_15 : decode cX7_seed 15 = .ok (.iconst 0, 1) := by decide +kernel
theorem dX7_seed_16 : decode cX7_seed 16 = .ok (.iload_n 1, 1) := by decide +kernel
theorem dX7_seed_17 : decode cX7_seed 17 = .ok (.iastore, 1) := by decide +kernel
theorem dX7_seed_18 : decode cX7_seed 18 = .ok (.iconst 1, 1) := by decide +kernel
theorem dX7_seed_19 : decode cX7_seed 19 = .ok (.ireturn, 1) := by decide +kernel
theorem dX7_end_0 : decode cX7_end 0 = .ok (.aload_n 0, 1) := by decide +kernel
theorem dX7_end_1 : decode cX7_end 1 = .ok (.iconst 0, 1) := by decide +kernel
theorem dX7_end_2 : decode cX7_end 2 = .ok (.putfield 1, 3) := by decide +kernel
theorem dX7_end_5 : decode cX7_end 5 = .ok (.aload_n 0, 1) := by decide +kernel
theorem dX7_end_6 : decode cX7_end 6 = .ok (.iload_n 1, 1) := by decide +kernel
theorem dX7_end_7 : decode cX7_end 7 = .ok (.invokevirtual 311, 3) := by decide +kernel
theorem dX7_end_10 : decode cX7_end 10 = .ok (.ifCond .ne 5, 3) := by decide +kernel
theorem dX7_end_13 : decode cX7_end 13 = .ok (.iconst 0, 1) := by decide +kernel
theorem dX7_end_14 : decode cX7_end 14 = .ok (.ireturn, 1) := by decide +kernel
theorem dX7_end_15 : decode cX7_end 15 = .ok (.aload_n 0, 1) := by decide +kernel
theorem dX7_end_16 : decode cX7_end 16 = .ok (.iload_n 1, 1) := by decide +kernel
theorem dX7_end_17 : decode cX7_end 17 = .ok (.putfield 249, 3) := by decide +kernel
theorem dX7_end_20 : decode cX7_end 20 = .ok (.iconst 1, 1) := by decide +kernel
theorem dX7_end_21 : decode cX7_end 21 = .ok (.ireturn, 1) := by decide +kernel
theorem dX7_isEnd_0 : decode cX7_isEnd 0 = .ok (.iload_n 1, 1) := by decide +kernel
theorem dX7_isEnd_1 : decode cX7_isEnd 1 = .ok (.ifCond .lt 22, 3) := by decide +kernel
theorem dX7_isEnd_4 : decode cX7_isEnd 4 = .ok (.iload_n 1, 1) := by decide +kernel
theorem dX7_isEnd_5 : decode cX7_isEnd 5 = .ok (.iconst 1, 1) := by decide +kernel
theorem dX7_isEnd_6 : decode cX7_isEnd 6 = .ok (.aload_n 0, 1) := by decide +kernel
theorem dX7_isEnd_7 : decode cX7_isEnd 7 = .ok (.getfield 101, 3) := by decide +kernel
theorem dX7_isEnd_10 : decode cX7_isEnd 10 = .ok (.aload_n 0, 1) := by decide +kernel
theorem dX7_isEnd_11 : decode cX7_isEnd 11 = .ok (.getfield 243, 3) := by decide +kernel
theorem dX7_isEnd_14 : decode cX7_isEnd 14 = .ok (.iaload, 1) := by decide +kernel
theorem dX7_isEnd_15 : decode cX7_isEnd 15 = .ok (.ishl, 1) := by decide +kernel
theorem dX7_isEnd_16 : decode cX7_isEnd 16 = .ok (.if_icmp .ge 7, 3) := by decide +kernel
theorem dX7_isEnd_19 : decode cX7_isEnd 19 = .ok (.iconst 1, 1) := by decide +kernel
theorem dX7_isEnd_20 : decode cX7_isEnd 20 = .ok (.goto 4, 3) := by decide +kernel
theorem dX7_isEnd_23 : decode cX7_isEnd 23 = .ok (.iconst 0, 1) := by decide +kernel
theorem dX7_isEnd_24 : decode cX7_isEnd 24 = .ok (.ireturn, 1) := by decide +kernel
theorem dX7_allDust_0 : decode cX7_allDust 0 = .ok (.iconst 0, 1) := by decide +kernel
theorem dX7_allDust_1 : decode cX7_allDust 1 = .ok (.istore_n 3, 1) := by decide +kernel
theorem dX7_allDust_2 : decode cX7_allDust 2 = .ok (.iconst 0, 1) := by decide +kernel
theorem dX7_allDust_3 : decode cX7_allDust 3 = .ok (.istore 4, 2) := by decide +kernel
theorem dX7_allDust_5 : decode cX7_allDust 5 = .ok (.iload 4, 2) := by decide +kernel
theorem dX7_allDust_7 : decode cX7_allDust 7 = .ok (.iconst 5, 1) := by decide +kernel
theorem dX7_allDust_8 : decode cX7_allDust 8 = .ok (.if_icmp .ge 28, 3) := by decide +kernel
theorem dX7_allDust_11 : decode cX7_allDust 11 = .ok (.iload_n 3, 1) := by decide +kernel
theorem dX7_allDust_12 : decode cX7_allDust 12 = .ok (.aload_n 0, 1) := by decide +kernel
theorem dX7_allDust_13 : decode cX7_allDust 13 = .ok (.getfield 128, 3) := by decide +kernel
theorem dX7_allDust_16 : decode cX7_allDust 16 = .ok (.bipush 60, 2) := by decide +kernel
theorem dX7_allDust_18 : decode cX7_allDust 18 = .ok (.iload_n 1, 1) := by decide +kernel
theorem dX7_allDust_19 : decode cX7_allDust 19 = .ok (.imul, 1) := by decide +kernel
theorem dX7_allDust_20 : decode cX7_allDust 20 = .ok (.iconst 5, 1) := by decide +kernel
theorem dX7_allDust_21 : decode cX7_allDust 21 = .ok (.iload_n 2, 1) := by decide +kernel
theorem dX7_allDust_22 : decode cX7_allDust 22 = .ok (.imul, 1) := by decide +kernel
theorem dX7_allDust_23 : decode cX7_allDust 23 = .ok (.iadd, 1) := by decide +kernel
theorem dX7_allDust_24 : decode cX7_allDust 24 = .ok (.iload 4, 2) := by decide +kernel
theorem dX7_allDust_26 : decode cX7_allDust 26 = .ok (.iadd, 1) := by decide +kernel
theorem dX7_allDust_27 : decode cX7_allDust 27 = .ok (.iaload, 1) := by decide +kernel
theorem dX7_allDust_28 : decode cX7_allDust 28 = .ok (.iadd, 1) := by decide +kernel
theorem dX7_allDust_29 : decode cX7_allDust 29 = .ok (.istore_n 3, 1) := by decide +kernel
theorem dX7_allDust_30 : decode cX7_allDust 30 = .ok (.iinc 4 1, 3) := by decide +kernel
theorem dX7_allDust_33 : decode cX7_allDust 33 = .ok (.goto (-28), 3) := by decide +kernel
theorem dX7_allDust_36 : decode cX7_allDust 36 = .ok (.iload_n 3, 1) := by decide +kernel
theorem dX7_allDust_37 : decode cX7_allDust 37 = .ok (.ireturn, 1) := by decide +kernel
theorem dX7_there_0 : decode cX7_there 0 = .ok (.iconst 0, 1) := by decide +kernel
theorem dX7_there_1 : decode cX7_there 1 = .ok (.istore_n 2, 1) := by decide +kernel
theorem dX7_there_2 : decode cX7_there 2 = .ok (.iconst 0, 1) := by decide +kernel
theorem dX7_there_3 : decode cX7_there 3 = .ok (.istore_n 3, 1) := by decide +kernel
theorem dX7_there_4 : decode cX7_there 4 = .ok (.iload_n 3, 1) := by decide +kernel
theorem dX7_there_5 : decode cX7_there 5 = .ok (.aload_n 0, 1) := by decide +kernel
theorem dX7_there_6 : decode cX7_there 6 = .ok (.getfield 146, 3) := by decide +kernel
theorem dX7_there_9 : decode cX7_there 9 = .ok (.iload_n 1, 1) := by decide +kernel
theorem dX7_there_10 : decode cX7_there 10 = .ok (.iaload, 1) := by decide +kernel
theorem dX7_there_11 : decode cX7_there 11 = .ok (.if_icmp .ge 31, 3) := by decide +kernel
theorem dX7_there_14 : decode cX7_there 14 = .ok (.iload_n 2, 1) := by decide +kernel
theorem dX7_there_15 : decode cX7_there 15 = .ok (.aload_n 0, 1) := by decide +kernel
theorem dX7_there_16 : decode cX7_there 16 = .ok (.getfield 149, 3) := by decide +kernel
theorem dX7_there_19 : decode cX7_there 19 = .ok (.bipush 30, 2) := by decide +kernel
theorem dX7_there_21 : decode cX7_there 21 = .ok (.iload_n 1, 1) := by decide +kernel
theorem dX7_there_22 : decode cX7_there 22 = .ok (.imul, 1) := by decide +kernel
theorem dX7_there_23 : decode cX7_there 23 = .ok (.iload_n 3, 1) := by decide +kernel
theorem dX7_there_24 : decode cX7_there 24 = .ok (.iadd, 1) := by decide +kernel
theorem dX7_there_25 : decode cX7_there 25 = .ok (.iaload, 1) := by decide +kernel
theorem dX7_there_26 : decode cX7_there 26 = .ok (.ifCond .ne 7, 3) := by decide +kernel
theorem dX7_there_29 : decode cX7_there 29 = .ok (.iconst 1, 1) := by decide +kernel
theorem dX7_there_30 : decode cX7_there 30 = .ok (.goto 4, 3) := by decide +kernel
theorem dX7_there_33 : decode cX7_there 33 = .ok (.iconst 0, 1) := by decide +kernel
theorem dX7_there_34 : decode cX7_there 34 = .ok (.iadd, 1) := by decide +kernel
theorem dX7_there_35 : decode cX7_there 35 = .ok (.istore_n 2, 1) := by decide +kernel
theorem dX7_there_36 : decode cX7_there 36 = .ok (.iinc 3 1, 3) := by decide +kernel
theorem dX7_there_39 : decode cX7_there 39 = .ok (.goto (-35), 3) := by decide +kernel
theorem dX7_there_42 : decode cX7_there 42 = .ok (.iload_n 2, 1) := by decide +kernel
theorem dX7_there_43 : decode cX7_there 43 = .ok (.ireturn, 1) := by decide +kernel
theorem dX7_knowsRing_0 : decode cX7_knowsRing 0 = .ok (.aload_n 0, 1) := by decide +kernel
theorem dX7_knowsRing_1 : decode cX7_knowsRing 1 = .ok (.getfield 110, 3) := by decide +kernel
theorem dX7_knowsRing_4 : decode cX7_knowsRing 4 = .ok (.iconst 0, 1) := by decide +kernel
theorem dX7_knowsRing_5 : decode cX7_knowsRing 5 = .ok (.iload_n 2, 1) := by decide +kernel
theorem dX7_knowsRing_6 : decode cX7_knowsRing 6 = .ok (.iastore, 1) := by decide +kernel
theorem dX7_knowsRing_7 : decode cX7_knowsRing 7 = .ok (.aload_n 0, 1) := by decide +kernel
theorem dX7_knowsRing_8 : decode cX7_knowsRing 8 = .ok (.getfield 110, 3) := by decide +kernel
theorem dX7_knowsRing_11 : decode cX7_knowsRing 11 = .ok (.iconst 1, 1) := by decide +kernel
theorem dX7_knowsRing_12 : decode cX7_knowsRing 12 = .ok (.iconst 0, 1) := by decide +kernel
theorem dX7_knowsRing_13 : decode cX7_knowsRing 13 = .ok (.iastore, 1) := by decide +kernel
theorem dX7_knowsRing_14 : decode cX7_knowsRing 14 = .ok (.aload_n 0, 1) := by decide +kernel
theorem dX7_knowsRing_15 : decode cX7_knowsRing 15 = .ok (.getfield 110, 3) := by decide +kernel
theorem dX7_knowsRing_18 : decode cX7_knowsRing 18 = .ok (.iconst 2, 1) := by decide +kernel
theorem dX7_knowsRing_19 : decode cX7_knowsRing 19 = .ok (.aload_n 0, 1) := by decide +kernel
