theorem dX0_init_0 : decode cX0_init 0 = .ok (.aload_n 0, 1) := by decide +kernel
theorem dX0_init_1 : decode cX0_init 1 = .ok (.invokespecial 3, 3) := by decide +kernel
theorem dX0_init_4 : decode cX0_init 4 = .ok (.aload_n 0, 1) := by decide +kernel
theorem dX0_init_5 : decode cX0_init 5 = .ok (.new 9, 3) := by decide +kernel
theorem dX0_init_8 : decode cX0_init 8 = .ok (.dup, 1) := by decide +kernel
theorem dX0_init_9 : decode cX0_init 9 = .ok (.invokespecial 11, 3) := by decide +kernel
theorem dX0_init_12 : decode cX0_init 12 = .ok (.putfield 12, 3) := by decide +kernel
theorem dX0_init_15 : decode cX0_init 15 = .ok (.aload_n 0, 1) := by decide +kernel
theorem dX0_init_16 : decode cX0_init 16 = .ok (.new 18, 3) := by decide +kernel
theorem dX0_init_19 : decode cX0_init 19 = .ok (.dup, 1) := by decide +kernel
theorem dX0_init_20 : decode cX0_init 20 = .ok (.invokespecial 20, 3) := by decide +kernel
theorem dX0_init_23 : decode cX0_init 23 = .ok (.putfield 21, 3) := by decide +kernel
theorem dX0_init_26 : decode cX0_init 26 = .ok (.aload_n 0, 1) := by decide +kernel
theorem dX0_init_27 : decode cX0_init 27 = .ok (.bipush 101, 2) := by decide +kernel
theorem dX0_init_29 : decode cX0_init 29 = .ok (.putfield 25, 3) := by decide +kernel
theorem dX0_init_32 : decode cX0_init 32 = .ok (.aload_n 0, 1) := by decide +kernel
theorem dX0_init_33 : decode cX0_init 33 = .ok (.bipush 9, 2) := by decide +kernel
theorem dX0_init_35 : decode cX0_init 35 = .ok (.newarray .int, 2) := by decide +kernel
theorem dX0_init_37 : decode cX0_init 37 = .ok (.putfield 29, 3) := by decide +kernel
theorem dX0_init_40 : decode cX0_init 40 = .ok (.aload_n 0, 1) := by decide +kernel
theorem dX0_init_41 : decode cX0_init 41 = .ok (.bipush 60, 2) := by decide +kernel
theorem dX0_init_43 : decode cX0_init 43 = .ok (.newarray .int, 2) := by decide +kernel
theorem dX0_init_45 : decode cX0_init 45 = .ok (.putfield 33, 3) := by decide +kernel
theorem dX0_init_48 : decode cX0_init 48 = .ok (.aload_n 0, 1) := by decide +kernel
theorem dX0_init_49 : decode cX0_init 49 = .ok (.bipush 12, 2) := by decide +kernel
theorem dX0_init_51 : decode cX0_init 51 = .ok (.newarray .int, 2) := by decide +kernel
theorem dX0_init_53 : decode cX0_init 53 = .ok (.putfield 36, 3) := by decide +kernel
theorem dX0_init_56 : decode cX0_init 56 = .ok (.return_, 1) := by decide +kernel
theorem dX0_enter_0 : decode cX0_enter 0 = .ok (.aload_n 0, 1) := by decide +kernel
theorem dX0_enter_1 : decode cX0_enter 1 = .ok (.aload_n 1, 1) := by decide +kernel
theorem dX0_enter_2 : decode cX0_enter 2 = .ok (.putfield 12, 3) := by decide +kernel
theorem dX0_enter_5 : decode cX0_enter 5 = .ok (.aload_n 0, 1) := by decide +kernel
theorem dX0_enter_6 : decode cX0_enter 6 = .ok (.iload_n 2, 1) := by decide +kernel
theorem dX0_enter_7 : decode cX0_enter 7 = .ok (.putfield 39, 3) := by decide +kernel
theorem dX0_enter_10 : decode cX0_enter 10 = .ok (.return_, 1) := by decide +kernel
theorem dX0_go_0 : decode cX0_go 0 = .ok (.iconst 0, 1) := by decide +kernel
theorem dX0_go_1 : decode cX0_go 1 = .ok (.istore_n 2, 1) := by decide +kernel
theorem dX0_go_2 : decode cX0_go 2 = .ok (.iload_n 2, 1) := by decide +kernel
theorem dX0_go_3 : decode cX0_go 3 = .ok (.iload_n 1, 1) := by decide +kernel
theorem dX0_go_4 : decode cX0_go 4 = .ok (.if_icmp .ge 58, 3) := by decide +kernel
theorem dX0_go_7 : decode cX0_go 7 = .ok (.aload_n 0, 1) := by decide +kernel
theorem dX0_go_8 : decode cX0_go 8 = .ok (.invokevirtual 42, 3) := by decide +kernel
theorem dX0_go_11 : decode cX0_go 11 = .ok (.aload_n 0, 1) := by decide +kernel
theorem dX0_go_12 : decode cX0_go 12 = .ok (.invokevirtual 45, 3) := by decide +kernel
theorem dX0_go_15 : decode cX0_go 15 = .ok (.aload_n 0, 1) := by decide +kernel
theorem dX0_go_16 : decode cX0_go 16 = .ok (.invokevirtual 48, 3) := by decide +kernel
theorem dX0_go_19 : decode cX0_go 19 = .ok (.aload_n 0, 1) := by decide +kernel
theorem dX0_go_20 : decode cX0_go 20 = .ok (.invokevirtual 51, 3) := by decide +kernel
theorem dX0_go_23 : decode cX0_go 23 = .ok (.aload_n 0, 1) := by decide +kernel
theorem dX0_go_24 : decode cX0_go 24 = .ok (.invokevirtual 54, 3) := by decide +kernel
theorem dX0_go_27 : decode cX0_go 27 = .ok (.aload_n 0, 1) := by decide +kernel
theorem dX0_go_28 : decode cX0_go 28 = .ok (.invokevirtual 57, 3) := by decide +kernel
theorem dX0_go_31 : decode cX0_go 31 = .ok (.aload_n 0, 1) := by decide +kernel
theorem dX0_go_32 : decode cX0_go 32 = .ok (.invokevirtual 60, 3) := by decide +kernel
theorem dX0_go_35 : decode cX0_go 35 = .ok (.aload_n 0, 1) := by decide +kernel
theorem dX0_go_36 : decode cX0_go 36 = .ok (.invokevirtual 63, 3) := by decide +kernel
theorem dX0_go_39 : decode cX0_go 39 = .ok (.aload_n 0, 1) := by decide +kernel
theorem dX0_go_40 : decode cX0_go 40 = .ok (.invokevirtual 66, 3) := by decide +kernel
theorem dX0_go_43 : decode cX0_go 43 = .ok (.aload_n 0, 1) := by decide +kernel
theorem dX0_go_44 : decode cX0_go 44 = .ok (.getfield 12, 3) := by decide +kernel
theorem dX0_go_47 : decode cX0_go 47 = .ok (.dup, 1) := by decide +kernel
theorem dX0_go_48 : decode cX0_go 48 = .ok (.getfield 69, 3) := by decide +kernel
theorem dX0_go_51 : decode cX0_go 51 = .ok (.iconst 1, 1) := by decide +kernel
theorem dX0_go_52 : decode cX0_go 52 = .ok (.iadd, 1) := by decide +kernel
theorem dX0_go_53 : decode cX0_go 53 = .ok (.putfield 69, 3) := by decide +kernel
theorem dX0_go_56 : decode cX0_go 56 = .ok (.iinc 2 1, 3) := by decide +kernel
theorem dX0_go_59 : decode cX0_go 59 = .ok (.goto (-57), 3) := by decide +kernel
theorem dX0_go_62 : decode cX0_go 62 = .ok (.return_, 1) := by decide +kernel
theorem dX0_lawForDust_0 : decode cX0_lawForDust 0 = .ok (.aload_n 0, 1) := by decide +kernel
theorem dX0_lawForDust_1 : decode cX0_lawForDust 1 = .ok (.getfield 21, 3) := by decide +kernel
theorem dX0_lawForDust_4 : decode cX0_lawForDust 4 = .ok (.iload_n 1, 1) := by decide +kernel
theorem dX0_lawForDust_5 : decode cX0_lawForDust 5 = .ok (.invokevirtual 72, 3) := by decide +kernel
theorem dX0_lawForDust_8 : decode cX0_lawForDust 8 = .ok (.ifCond .eq 5, 3) := by decide +kernel
theorem dX0_lawForDust_11 : decode cX0_lawForDust 11 = .ok (.iconst (-1), 1) := by decide +kernel
theorem dX0_lawForDust_12 : decode cX0_lawForDust 12 = .ok (.ireturn, 1) := by decide +kernel
theorem dX0_lawForDust_13 : decode cX0_lawForDust 13 = .ok (.aload_n 0, 1) := by decide +kernel
theorem dX0_lawForDust_14 : decode cX0_lawForDust 14 = .ok (.iload_n 2, 1) := by decide +kernel
theorem dX0_lawForDust_15 : decode cX0_lawForDust 15 = .ok (.invokevirtual 76, 3) := by decide +kernel
theorem dX0_lawForDust_18 : decode cX0_lawForDust 18 = .ok (.aload_n 0, 1) := by decide +kernel
theorem dX0_lawForDust_19 : decode cX0_lawForDust 19 = .ok (.getfield 29, 3) := by decide +kernel
theorem dX0_lawForDust_22 : decode cX0_lawForDust 22 = .ok (.iconst 1, 1) := by decide +kernel
theorem dX0_lawForDust_23 : decode cX0_lawForDust 23 = .ok (.iload_n 3, 1) := by decide +kernel
theorem dX0_lawForDust_24 : decode cX0_lawForDust 24 = .ok (.iastore, 1) := by decide +kernel
theorem dX0_lawForDust_25 : decode cX0_lawForDust 25 = .ok (.aload_n 0, 1) := by decide +kernel
theorem dX0_lawForDust_26 : decode cX0_lawForDust 26 = .ok (.getfield 29, 3) := by decide +kernel
theorem dX0_lawForDust_29 : decode cX0_lawForDust 29 = .ok (.iconst 4, 1) := by decide +kernel
theorem dX0_lawForDust_30 : decode cX0_lawForDust 30 = .ok (.aload_n 0, 1) := by decide +kernel
theorem dX0_lawForDust_31 : decode cX0_lawForDust 31 = .ok (.getfield 12, 3) := by decide +kernel
theorem dX0_lawForDust_34 : decode cX0_lawForDust 34 = .ok (.getfield 80, 3) := by decide +kernel
theorem dX0_lawForDust_37 : decode cX0_lawForDust 37 = .ok (.iload_n 2, 1) := by decide +kernel
theorem dX0_lawForDust_38 : decode cX0_lawForDust 38 = .ok (.iconst 5, 1) := by decide +kernel
theorem dX0_lawForDust_39 : decode cX0_lawForDust 39 = .ok (.imul, 1) := by decide +kernel
theorem dX0_lawForDust_40 : decode cX0_lawForDust 40 = .ok (.iload_n 3, 1) := by decide +kernel
theorem dX0_lawForDust_41 : decode cX0_lawForDust 41 = .ok (.iadd, 1) := by decide +kernel
theorem dX0_lawForDust_42 : decode cX0_lawForDust 42 = .ok (.iaload, 1) := by decide +kernel
theorem dX0_lawForDust_43 : decode cX0_lawForDust 43 = .ok (.iastore, 1) := by decide +kernel
theorem dX0_lawForDust_44 : decode cX0_lawForDust 44 = .ok (.aload_n 0, 1) := by decide +kernel
theorem dX0_lawForDust_45 : decode cX0_lawForDust 45 = .ok (.getfield 29, 3) := by decide +kernel
theorem dX0_lawForDust_48 : decode cX0_lawForDust 48 = .ok (.bipush 6, 2) := by decide +kernel
theorem dX0_lawForDust_50 : decode cX0_lawForDust 50 = .ok (.iconst 0, 1) := by decide +kernel
theorem dX0_lawForDust_51 : decode cX0_lawForDust 51 = .ok (.iastore, 1) := by decide +kernel
theorem dX0_lawForDust_52 : decode cX0_lawForDust 52 = .ok (.aload_n 0, 1) := by decide +kernel
theorem dX0_lawForDust_53 : decode cX0_lawForDust 53 = .ok (.getfield 21, 3) := by decide +kernel
theorem dX0_lawForDust_56 : decode cX0_lawForDust 56 = .ok (.iload_n 1, 1) := by decide +kernel
theorem dX0_lawForDust_57 : decode cX0_lawForDust 57 = .ok (.aload_n 0, 1) := by decide +kernel
theorem dX0_lawForDust_58 : decode cX0_lawForDust 58 = .ok (.getfield 39, 3) := by decide +kernel
theorem dX0_lawForDust_61 : decode cX0_lawForDust 61 = .ok (.aload_n 0, 1) := by decide +kernel
theorem dX0_lawForDust_62 : decode cX0_lawForDust 62 = .ok (.getfield 29, 3) := by decide +kernel
theorem dX0_lawForDust_65 : decode cX0_lawForDust 65 = .ok (.invokevirtual 83, 3) := by decide +kernel
theorem dX0_lawForDust_68 : decode cX0_lawForDust 68 = .ok (.ireturn, 1) := by decide +kernel
theorem dX0_lawForLump_0 : decode cX0_lawForLump 0 = .ok (.aload_n 0, 1) := by decide +kernel
theorem dX0_lawForLump_1 : decode cX0_lawForLump 1 = .ok (.getfield 21, 3) := by decide +kernel
theorem dX0_lawForLump_4 : decode cX0_lawForLump 4 = .ok (.iload_n 1, 1) := by decide +kernel
theorem dX0_lawForLump_5 : decode cX0_lawForLump 5 = .ok (.invokevirtual 72, 3) := by decide +kernel
theorem dX0_lawForLump_8 : decode cX0_lawForLump 8 = .ok (.ifCond .eq 5, 3) := by decide +kernel
theorem dX0_lawForLump_11 : decode cX0_lawForLump 11 = .ok (.iconst (-1), 1) := by decide +kernel
theorem dX0_lawForLump_12 : decode cX0_lawForLump 12 = .ok (.ireturn, 1) := by decide +kernel
theorem dX0_lawForLump_13 : decode cX0_lawForLump 13 = .ok (.aload_n 0, 1) := by decide +kernel
theorem dX0_lawForLump_14 : decode cX0_lawForLump 14 = .ok (.aload_n 2, 1) := by decide +kernel
theorem dX0_lawForLump_15 : decode cX0_lawForLump 15 = .ok (.getfield 87, 3) := by decide +kernel
theorem dX0_lawForLump_18 : decode cX0_lawForLump 18 = .ok (.invokevirtual 76, 3) := by decide +kernel
theorem dX0_lawForLump_21 : decode cX0_lawForLump 21 = .ok (.aload_n 0, 1) := by decide +kernel
theorem dX0_lawForLump_22 : decode cX0_lawForLump 22 = .ok (.getfield 29, 3) := by decide +kernel
theorem dX0_lawForLump_25 : decode cX0_lawForLump 25 = .ok (.iconst 1, 1) := by decide +kernel
theorem dX0_lawForLump_26 : decode cX0_lawForLump 26 = .ok (.iconst 0, 1) := by decide +kernel
theorem dX0_lawForLump_27 : decode cX0_lawForLump 27 = .ok (.iastore, 1) := by decide +kernel
theorem dX0_lawForLump_28 : decode cX0_lawForLump 28 = .ok (.aload_n 0, 1) := by decide +kernel
theorem dX0_lawForLump_29 : decode cX0_lawForLump 29 = .ok (.getfield 29, 3) := by decide +kernel
theorem dX0_lawForLump_32 : decode cX0_lawForLump 32 = .ok (.iconst 4, 1) := by decide +kernel
theorem dX0_lawForLump_33 : decode cX0_lawForLump 33 = .ok (.iconst 0, 1) := by decide +kernel
theorem dX0_lawForLump_34 : decode cX0_lawForLump 34 = .ok (.iastore, 1) := by decide +kernel
theorem dX0_lawForLump_35 : decode cX0_lawForLump 35 = .ok (.aload_n 0, 1) := by decide +kernel
theorem dX0_lawForLump_36 : decode cX0_lawForLump 36 = .ok (.getfield 29, 3) := by decide +kernel
theorem dX0_lawForLump_39 : decode cX0_lawForLump 39 = .ok (.bipush 6, 2) := by decide +kernel
theorem dX0_lawForLump_41 : decode cX0_lawForLump 41 = .ok (.aload_n 2, 1) := by decide +kernel
theorem dX0_lawForLump_42 : decode cX0_lawForLump 42 = .ok (.getfield 92, 3) := by decide +kernel
theorem dX0_lawForLump_45 : decode cX0_lawForLump 45 = .ok (.iastore, 1) := by decide +kernel
theorem dX0_lawForLump_46 : decode cX0_lawForLump 46 = .ok (.aload_n 0, 1) := by decide +kernel
theorem dX0_lawForLump_47 : decode cX0_lawForLump 47 = .ok (.getfield 21, 3) := by decide +kernel
theorem dX0_lawForLump_50 : decode cX0_lawForLump 50 = .ok (.iload_n 1, 1) := by decide +kernel
theorem dX0_lawForLump_51 : decode cX0_lawForLump 51 = .ok (.aload_n 0, 1) := by decide +kernel
theorem dX0_lawForLump_52 : decode cX0_lawForLump 52 = .ok (.getfield 39, 3) := by decide +kernel
theorem dX0_lawForLump_55 : decode cX0_lawForLump 55 = .ok (.aload_n 0, 1) := by decide +kernel
theorem dX0_lawForLump_56 : decode cX0_lawForLump 56 = .ok (.getfield 29, 3) := by decide +kernel
theorem dX0_lawForLump_59 : decode cX0_lawForLump 59 = .ok (.invokevirtual 83, 3) := by decide +kernel
theorem dX0_lawForLump_62 : decode cX0_lawForLump 62 = .ok (.ireturn, 1) := by decide +kernel
theorem dX0_tellOfRing_0 : decode cX0_tellOfRing 0 = .ok (.aload_n 0, 1) := by decide +kernel
theorem dX0_tellOfRing_1 : decode cX0_tellOfRing 1 = .ok (.getfield 29, 3) := by decide +kernel
theorem dX0_tellOfRing_4 : decode cX0_tellOfRing 4 = .ok (.iconst 0, 1) := by decide +kernel
theorem dX0_tellOfRing_5 : decode cX0_tellOfRing 5 = .ok (.iload_n 1, 1) := by decide +kernel
theorem dX0_tellOfRing_6 : decode cX0_tellOfRing 6 = .ok (.iastore, 1) := by decide +kernel
theorem dX0_tellOfRing_7 : decode cX0_tellOfRing 7 = .ok (.aload_n 0, 1) := by decide +kernel
theorem dX0_tellOfRing_8 : decode cX0_tellOfRing 8 = .ok (.getfield 29, 3) := by decide +kernel
theorem dX0_tellOfRing_11 : decode cX0_tellOfRing 11 = .ok (.iconst 2, 1) := by decide +kernel
theorem dX0_tellOfRing_12 : decode cX0_tellOfRing 12 = .ok (.aload_n 0, 1) := by decide +kernel
theorem dX0_tellOfRing_13 : decode cX0_tellOfRing 13 = .ok (.getfield 12, 3) := by decide +kernel
theorem dX0_tellOfRing_16 : decode cX0_tellOfRing 16 = .ok (.getfield 95, 3) := by decide +kernel
theorem dX0_tellOfRing_19 : decode cX0_tellOfRing 19 = .ok (.iload_n 1, 1) := by decide +kernel
theorem dX0_tellOfRing_20 : decode cX0_tellOfRing 20 = .ok (.iaload, 1) := by decide +kernel
theorem dX0_tellOfRing_21 : decode cX0_tellOfRing 21 = .ok (.iastore, 1) := by decide +kernel
theorem dX0_tellOfRing_22 : decode cX0_tellOfRing 22 = .ok (.aload_n 0, 1) := by decide +kernel
theorem dX0_tellOfRing_23 : decode cX0_tellOfRing 23 = .ok (.getfield 29, 3) := by decide +kernel
theorem dX0_tellOfRing_26 : decode cX0_tellOfRing 26 = .ok (.iconst 3, 1) := by decide +kernel
theorem dX0_tellOfRing_27 : decode cX0_tellOfRing 27 = .ok (.aload_n 0, 1) := by decide +kernel
theorem dX0_tellOfRing_28 : decode cX0_tellOfRing 28 = .ok (.getfield 12, 3) := by decide +kernel
theorem dX0_tellOfRing_31 : decode cX0_tellOfRing 31 = .ok (.getfield 98, 3) := by decide +kernel
theorem dX0_tellOfRing_34 : decode cX0_tellOfRing 34 = .ok (.iload_n 1, 1) := by decide +kernel
theorem dX0_tellOfRing_35 : decode cX0_tellOfRing 35 = .ok (.iaload, 1) := by decide +kernel
theorem dX0_tellOfRing_36 : decode cX0_tellOfRing 36 = .ok (.iastore, 1) := by decide +kernel
theorem dX0_tellOfRing_37 : decode cX0_tellOfRing 37 = .ok (.aload_n 0, 1) := by decide +kernel
theorem dX0_tellOfRing_38 : decode cX0_tellOfRing 38 = .ok (.getfield 29, 3) := by decide +kernel
theorem dX0_tellOfRing_41 : decode cX0_tellOfRing 41 = .ok (.iconst 5, 1) := by decide +kernel
theorem dX0_tellOfRing_42 : decode cX0_tellOfRing 42 = .ok (.aload_n 0, 1) := by decide +kernel
theorem dX0_tellOfRing_43 : decode cX0_tellOfRing 43 = .ok (.getfield 12, 3) := by decide +kernel
theorem dX0_tellOfRing_46 : decode cX0_tellOfRing 46 = .ok (.iload_n 1, 1) := by decide +kernel
theorem dX0_tellOfRing_47 : decode cX0_tellOfRing 47 = .ok (.invokevirtual 101, 3) := by decide +kernel
theorem dX0_tellOfRing_50 : decode cX0_tellOfRing 50 = .ok (.iastore, 1) := by decide +kernel
theorem dX0_tellOfRing_51 : decode cX0_tellOfRing 51 = .ok (.aload_n 0, 1) := by decide +kernel
theorem dX0_tellOfRing_52 : decode cX0_tellOfRing 52 = .ok (.getfield 29, 3) := by decide +kernel
theorem dX0_tellOfRing_55 : decode cX0_tellOfRing 55 = .ok (.bipush 7, 2) := by decide +kernel
theorem dX0_tellOfRing_57 : decode cX0_tellOfRing 57 = .ok (.aload_n 0, 1) := by decide +kernel
theorem dX0_tellOfRing_58 : decode cX0_tellOfRing 58 = .ok (.getfield 12, 3) := by decide +kernel
theorem dX0_tellOfRing_61 : decode cX0_tellOfRing 61 = .ok (.getfield 69, 3) := by decide +kernel
theorem dX0_tellOfRing_64 : decode cX0_tellOfRing 64 = .ok (.iastore, 1) := by decide +kernel
theorem dX0_tellOfRing_65 : decode cX0_tellOfRing 65 = .ok (.aload_n 0, 1) := by decide +kernel
theorem dX0_tellOfRing_66 : decode cX0_tellOfRing 66 = .ok (.getfield 29, 3) := by decide +kernel
theorem dX0_tellOfRing_69 : decode cX0_tellOfRing 69 = .ok (.bipush 8, 2) := by decide +kernel
theorem dX0_tellOfRing_71 : decode cX0_tellOfRing 71 = .ok (.aload_n 0, 1) := by decide +kernel
theorem dX0_tellOfRing_72 : decode cX0_tellOfRing 72 = .ok (.getfield 12, 3) := by decide +kernel
theorem dX0_tellOfRing_75 : decode cX0_tellOfRing 75 = .ok (.getfield 105, 3) := by decide +kernel
theorem dX0_tellOfRing_78 : decode cX0_tellOfRing 78 = .ok (.iastore, 1) := by decide +kernel
theorem dX0_tellOfRing_79 : decode cX0_tellOfRing 79 = .ok (.return_, 1) := by decide +kernel
theorem dX0_shareOf_0 : decode cX0_shareOf 0 = .ok (.iload_n 0, 1) := by decide +kernel
theorem dX0_shareOf_1 : decode cX0_shareOf 1 = .ok (.iload_n 1, 1) := by decide +kernel
theorem dX0_shareOf_2 : decode cX0_shareOf 2 = .ok (.imul, 1) := by decide +kernel
theorem dX0_shareOf_3 : decode cX0_shareOf 3 = .ok (.bipush 100, 2) := by decide +kernel
theorem dX0_shareOf_5 : decode cX0_shareOf 5 = .ok (.idiv, 1) := by decide +kernel
theorem dX0_shareOf_6 : decode cX0_shareOf 6 = .ok (.ireturn, 1) := by decide +kernel
theorem dX0_stick_0 : decode cX0_stick 0 = .ok (.aload_n 0, 1) := by decide +kernel
theorem dX0_stick_1 : decode cX0_stick 1 = .ok (.getfield 21, 3) := by decide +kernel
theorem dX0_stick_4 : decode cX0_stick 4 = .ok (.iconst 0, 1) := by decide +kernel
theorem dX0_stick_5 : decode cX0_stick 5 = .ok (.invokevirtual 72, 3) := by decide +kernel
theorem dX0_stick_8 : decode cX0_stick 8 = .ok (.ifCond .eq 4, 3) := by decide +kernel
theorem dX0_stick_11 : decode cX0_stick 11 = .ok (.return_, 1) := by decide +kernel
theorem dX0_stick_12 : decode cX0_stick 12 = .ok (.iconst 0, 1) := by decide +kernel
theorem dX0_stick_13 : decode cX0_stick 13 = .ok (.istore_n 1, 1) := by decide +kernel
theorem dX0_stick_14 : decode cX0_stick 14 = .ok (.iload_n 1, 1) := by decide +kernel
theorem dX0_stick_15 : decode cX0_stick 15 = .ok (.aload_n 0, 1) := by decide +kernel
theorem dX0_stick_16 : decode cX0_stick 16 = .ok (.getfield 12, 3) := by decide +kernel
theorem dX0_stick_19 : decode cX0_stick 19 = .ok (.getfield 108, 3) := by decide +kernel
theorem dX0_stick_22 : decode cX0_stick 22 = .ok (.if_icmp .ge 101, 3) := by decide +kernel
theorem dX0_stick_25 : decode cX0_stick 25 = .ok (.iconst 3, 1) := by decide +kernel
theorem dX0_stick_26 : decode cX0_stick 26 = .ok (.istore_n 2, 1) := by decide +kernel
theorem dX0_stick_27 : decode cX0_stick 27 = .ok (.iload_n 2, 1) := by decide +kernel
theorem dX0_stick_28 : decode cX0_stick 28 = .ok (.ifCond .lt 89, 3) := by decide +kernel
theorem dX0_stick_31 : decode cX0_stick 31 = .ok (.iload_n 1, 1) := by decide +kernel
theorem dX0_stick_32 : decode cX0_stick 32 = .ok (.iconst 5, 1) := by decide +kernel
theorem dX0_stick_33 : decode cX0_stick 33 = .ok (.imul, 1) := by decide +kernel
theorem dX0_stick_34 : decode cX0_stick 34 = .ok (.iload_n 2, 1) := by decide +kernel
theorem dX0_stick_35 : decode cX0_stick 35 = .ok (.iadd, 1) := by decide +kernel
theorem dX0_stick_36 : decode cX0_stick 36 = .ok (.istore_n 3, 1) := by decide +kernel
theorem dX0_stick_37 : decode cX0_stick 37 = .ok (.aload_n 0, 1) := by decide +kernel
theorem dX0_stick_38 : decode cX0_stick 38 = .ok (.getfield 12, 3) := by decide +kernel
theorem dX0_stick_41 : decode cX0_stick 41 = .ok (.getfield 80, 3) := by decide +kernel
theorem dX0_stick_44 : decode cX0_stick 44 = .ok (.iload_n 3, 1) := by decide +kernel
theorem dX0_stick_45 : decode cX0_stick 45 = .ok (.iaload, 1) := by decide +kernel
theorem dX0_stick_46 : decode cX0_stick 46 = .ok (.ifCond .gt 10, 3) := by decide +kernel
theorem dX0_stick_49 : decode cX0_stick 49 = .ok (.aload_n 0, 1) := by decide +kernel
theorem dX0_stick_50 : decode cX0_stick 50 = .ok (.getfield 111, 3) := by decide +kernel
theorem dX0_stick_53 : decode cX0_stick 53 = .ok (.ifCond .le 58, 3) := by decide +kernel
theorem dX0_stick_56 : decode cX0_stick 56 = .ok (.aload_n 0, 1) := by decide +kernel
theorem dX0_stick_57 : decode cX0_stick 57 = .ok (.getfield 12, 3) := by decide +kernel
theorem dX0_stick_60 : decode cX0_stick 60 = .ok (.getfield 80, 3) := by decide +kernel
theorem dX0_stick_63 : decode cX0_stick 63 = .ok (.iload_n 3, 1) := by decide +kernel
theorem dX0_stick_64 : decode cX0_stick 64 = .ok (.iaload, 1) := by decide +kernel
theorem dX0_stick_65 : decode cX0_stick 65 = .ok (.aload_n 0, 1) := by decide +kernel
theorem dX0_stick_66 : decode cX0_stick 66 = .ok (.aload_n 0, 1) := by decide +kernel
theorem dX0_stick_67 : decode cX0_stick 67 = .ok (.iconst 0, 1) := by decide +kernel
theorem dX0_stick_68 : decode cX0_stick 68 = .ok (.iload_n 1, 1) := by decide +kernel
theorem dX0_stick_69 : decode cX0_stick 69 = .ok (.iload_n 2, 1) := by decide +kernel
theorem dX0_stick_70 : decode cX0_stick 70 = .ok (.invokevirtual 114, 3) := by decide +kernel
theorem dX0_stick_73 : decode cX0_stick 73 = .ok (.invokevirtual 118, 3) := by decide +kernel
theorem dX0_stick_76 : decode cX0_stick 76 = .ok (.invokestatic 121, 3) := by decide +kernel
theorem dX0_stick_79 : decode cX0_stick 79 = .ok (.istore 4, 2) := by decide +kernel
theorem dX0_stick_81 : decode cX0_stick 81 = .ok (.aload_n 0, 1) := by decide +kernel
theorem dX0_stick_82 : decode cX0_stick 82 = .ok (.getfield 12, 3) := by decide +kernel
theorem dX0_stick_85 : decode cX0_stick 85 = .ok (.getfield 80, 3) := by decide +kernel
theorem dX0_stick_88 : decode cX0_stick 88 = .ok (.iload_n 3, 1) := by decide +kernel
theorem dX0_stick_89 : decode cX0_stick 89 = .ok (.dup2, 1) := by decide +kernel
theorem dX0_stick_90 : decode cX0_stick 90 = .ok (.iaload, 1) := by decide +kernel
theorem dX0_stick_91 : decode cX0_stick 91 = .ok (.iload 4, 2) := by decide +kernel
theorem dX0_stick_93 : decode cX0_stick 93 = .ok (.isub, 1) := by decide +kernel
theorem dX0_stick_94 : decode cX0_stick 94 = .ok (.iastore, 1) := by decide +kernel
theorem dX0_stick_95 : decode cX0_stick 95 = .ok (.aload_n 0, 1) := by decide +kernel
theorem dX0_stick_96 : decode cX0_stick 96 = .ok (.getfield 12, 3) := by decide +kernel
theorem dX0_stick_99 : decode cX0_stick 99 = .ok (.getfield 80, 3) := by decide +kernel
theorem dX0_stick_102 : decode cX0_stick 102 = .ok (.iload_n 3, 1) := by decide +kernel
theorem dX0_stick_103 : decode cX0_stick 103 = .ok (.iconst 1, 1) := by decide +kernel
theorem dX0_stick_104 : decode cX0_stick 104 = .ok (.iadd, 1) := by decide +kernel
theorem dX0_stick_105 : decode cX0_stick 105 = .ok (.dup2, 1) := by decide +kernel
theorem dX0_stick_106 : decode cX0_stick 106 = .ok (.iaload, 1) := by decide +kernel
theorem dX0_stick_107 : decode cX0_stick 107 = .ok (.iload 4, 2) := by decide +kernel
theorem dX0_stick_109 : decode cX0_stick 109 = .ok (.iadd, 1) := by decide +kernel
theorem dX0_stick_110 : decode cX0_stick 110 = .ok (.iastore, 1) := by decide +kernel
theorem dX0_stick_111 : decode cX0_stick 111 = .ok (.iinc 2 (-1), 3) := by decide +kernel
theorem dX0_stick_114 : decode cX0_stick 114 = .ok (.goto (-87), 3) := by decide +kernel
theorem dX0_stick_117 : decode cX0_stick 117 = .ok (.iinc 1 1, 3) := by decide +kernel
theorem dX0_stick_120 : decode cX0_stick 120 = .ok (.goto (-106), 3) := by decide +kernel
theorem dX0_stick_123 : decode cX0_stick 123 = .ok (.return_, 1) := by decide +kernel
theorem dX0_luckyNumber_0 : decode cX0_luckyNumber 0 = .ok (.iload_n 1, 1) := by decide +kernel
theorem dX0_luckyNumber_1 : decode cX0_luckyNumber 1 = .ok (.iconst (-1), 1) := by decide +kernel
theorem dX0_luckyNumber_2 : decode cX0_luckyNumber 2 = .ok (.if_icmp .ne 5, 3) := by decide +kernel
theorem dX0_luckyNumber_5 : decode cX0_luckyNumber 5 = .ok (.iconst 0, 1) := by decide +kernel
theorem dX0_luckyNumber_6 : decode cX0_luckyNumber 6 = .ok (.ireturn, 1) := by decide +kernel
theorem dX0_luckyNumber_7 : decode cX0_luckyNumber 7 = .ok (.aload_n 0, 1) := by decide +kernel
theorem dX0_luckyNumber_8 : decode cX0_luckyNumber 8 = .ok (.getfield 111, 3) := by decide +kernel
theorem dX0_luckyNumber_11 : decode cX0_luckyNumber 11 = .ok (.ifCond .ne 5, 3) := by decide +kernel
theorem dX0_luckyNumber_14 : decode cX0_luckyNumber 14 = .ok (.iload_n 1, 1) := by decide +kernel
theorem dX0_luckyNumber_15 : decode cX0_luckyNumber 15 = .ok (.ireturn, 1) := by decide +kernel
theorem dX0_luckyNumber_16 : decode cX0_luckyNumber 16 = .ok (.iload_n 1, 1) := by decide +kernel
theorem dX0_luckyNumber_17 : decode cX0_luckyNumber 17 = .ok (.aload_n 0, 1) := by decide +kernel
theorem dX0_luckyNumber_18 : decode cX0_luckyNumber 18 = .ok (.getfield 12, 3) := by decide +kernel
theorem dX0_luckyNumber_21 : decode cX0_luckyNumber 21 = .ok (.invokevirtual 125, 3) := by decide +kernel
theorem dX0_luckyNumber_24 : decode cX0_luckyNumber 24 = .ok (.iconst 2, 1) := by decide +kernel
theorem dX0_luckyNumber_25 : decode cX0_luckyNumber 25 = .ok (.aload_n 0, 1) := by decide +kernel
theorem dX0_luckyNumber_26 : decode cX0_luckyNumber 26 = .ok (.getfield 111, 3) := by decide +kernel
theorem dX0_luckyNumber_29 : decode cX0_luckyNumber 29 = .ok (.imul, 1) := by decide +kernel
theorem dX0_luckyNumber_30 : decode cX0_luckyNumber 30 = .ok (.iconst 1, 1) := by decide +kernel
theorem dX0_luckyNumber_31 : decode cX0_luckyNumber 31 = .ok (.iadd, 1) := by decide +kernel
theorem dX0_luckyNumber_32 : decode cX0_luckyNumber 32 = .ok (.irem, 1) := by decide +kernel
theorem dX0_luckyNumber_33 : decode cX0_luckyNumber 33 = .ok (.iadd, 1) := by decide +kernel
theorem dX0_luckyNumber_34 : decode cX0_luckyNumber 34 = .ok (.aload_n 0, 1) := by decide +kernel
theorem dX0_luckyNumber_35 : decode cX0_luckyNumber 35 = .ok (.getfield 111, 3) := by decide +kernel
theorem dX0_luckyNumber_38 : decode cX0_luckyNumber 38 = .ok (.isub, 1) := by decide +kernel
theorem dX0_luckyNumber_39 : decode cX0_luckyNumber 39 = .ok (.istore_n 2, 1) := by decide +kernel
theorem dX0_luckyNumber_40 : decode cX0_luckyNumber 40 = .ok (.iconst 0, 1) := by decide +kernel
theorem dX0_luckyNumber_41 : decode cX0_luckyNumber 41 = .ok (.bipush 100, 2) := by decide +kernel
theorem dX0_luckyNumber_43 : decode cX0_luckyNumber 43 = .ok (.iload_n 2, 1) := by decide +kernel
theorem dX0_luckyNumber_44 : decode cX0_luckyNumber 44 = .ok (.invokestatic 129, 3) := by decide +kernel
theorem dX0_luckyNumber_47 : decode cX0_luckyNumber 47 = .ok (.invokestatic 134, 3) := by decide +kernel
theorem dX0_luckyNumber_50 : decode cX0_luckyNumber 50 = .ok (.ireturn, 1) := by decide +kernel
theorem dX0_breakUp_0 : decode cX0_breakUp 0 = .ok (.aload_n 0, 1) := by decide +kernel
theorem dX0_breakUp_1 : decode cX0_breakUp 1 = .ok (.getfield 21, 3) := by decide +kernel
theorem dX0_breakUp_4 : decode cX0_breakUp 4 = .ok (.iconst 1, 1) := by decide +kernel
theorem dX0_breakUp_5 : decode cX0_breakUp 5 = .ok (.invokevirtual 72, 3) := by decide +kernel
theorem dX0_breakUp_8 : decode cX0_breakUp 8 = .ok (.ifCond .eq 4, 3) := by decide +kernel
theorem dX0_breakUp_11 : decode cX0_breakUp 11 = .ok (.return_, 1) := by decide +kernel
theorem dX0_breakUp_12 : decode cX0_breakUp 12 = .ok (.iconst 0, 1) := by decide +kernel
theorem dX0_breakUp_13 : decode cX0_breakUp 13 = .ok (.istore_n 1, 1) := by decide +kernel
theorem dX0_breakUp_14 : decode cX0_breakUp 14 = .ok (.iload_n 1, 1) := by decide +kernel
theorem dX0_breakUp_15 : decode cX0_breakUp 15 = .ok (.aload_n 0, 1) := by decide +kernel
theorem dX0_breakUp_16 : decode cX0_breakUp 16 = .ok (.getfield 12, 3) := by decide +kernel
theorem dX0_breakUp_19 : decode cX0_breakUp 19 = .ok (.getfield 108, 3) := by decide +kernel
theorem dX0_breakUp_22 : decode cX0_breakUp 22 = .ok (.if_icmp .ge 105, 3) := by decide +kernel
theorem dX0_breakUp_25 : decode cX0_breakUp 25 = .ok (.iconst 1, 1) := by decide +kernel
theorem dX0_breakUp_26 : decode cX0_breakUp 26 = .ok (.istore_n 2, 1) := by decide +kernel
theorem dX0_breakUp_27 : decode cX0_breakUp 27 = .ok (.iload_n 2, 1) := by decide +kernel
theorem dX0_breakUp_28 : decode cX0_breakUp 28 = .ok (.iconst 5, 1) := by decide +kernel
theorem dX0_breakUp_29 : decode cX0_breakUp 29 = .ok (.if_icmp .ge 92, 3) := by decide +kernel
theorem dX0_breakUp_32 : decode cX0_breakUp 32 = .ok (.iload_n 1, 1) := by decide +kernel
theorem dX0_breakUp_33 : decode cX0_breakUp 33 = .ok (.iconst 5, 1) := by decide +kernel
theorem dX0_breakUp_34 : decode cX0_breakUp 34 = .ok (.imul, 1) := by decide +kernel
theorem dX0_breakUp_35 : decode cX0_breakUp 35 = .ok (.iload_n 2, 1) := by decide +kernel
theorem dX0_breakUp_36 : decode cX0_breakUp 36 = .ok (.iadd, 1) := by decide +kernel
theorem dX0_breakUp_37 : decode cX0_breakUp 37 = .ok (.istore_n 3, 1) := by decide +kernel
theorem dX0_breakUp_38 : decode cX0_breakUp 38 = .ok (.aload_n 0, 1) := by decide +kernel
theorem dX0_breakUp_39 : decode cX0_breakUp 39 = .ok (.getfield 12, 3) := by decide +kernel
theorem dX0_breakUp_42 : decode cX0_breakUp 42 = .ok (.getfield 80, 3) := by decide +kernel
theorem dX0_breakUp_45 : decode cX0_breakUp 45 = .ok (.iload_n 3, 1) := by decide +kernel
theorem dX0_breakUp_46 : decode cX0_breakUp 46 = .ok (.iaload, 1) := by decide +kernel
theorem dX0_breakUp_47 : decode cX0_breakUp 47 = .ok (.ifCond .le 13, 3) := by decide +kernel
theorem dX0_breakUp_50 : decode cX0_breakUp 50 = .ok (.aload_n 0, 1) := by decide +kernel
theorem dX0_breakUp_51 : decode cX0_breakUp 51 = .ok (.iconst 1, 1) := by decide +kernel
theorem dX0_breakUp_52 : decode cX0_breakUp 52 = .ok (.iload_n 1, 1) := by decide +kernel
theorem dX0_breakUp_53 : decode cX0_breakUp 53 = .ok (.iload_n 2, 1) := by decide +kernel
theorem dX0_breakUp_54 : decode cX0_breakUp 54 = .ok (.invokevirtual 114, 3) := by decide +kernel
theorem dX0_breakUp_57 : decode cX0_breakUp 57 = .ok (.goto 4, 3) := by decide +kernel
theorem dX0_breakUp_60 : decode cX0_breakUp 60 = .ok (.iconst (-1), 1) := by decide +kernel
theorem dX0_breakUp_61 : decode cX0_breakUp 61 = .ok (.istore 4, 2) := by decide +kernel
theorem dX0_breakUp_63 : decode cX0_breakUp 63 = .ok (.iload 4, 2) := by decide +kernel
theorem dX0_breakUp_65 : decode cX0_breakUp 65 = .ok (.iconst (-1), 1) := by decide +kernel
theorem dX0_breakUp_66 : decode cX0_breakUp 66 = .ok (.if_icmp .eq 49, 3) := by decide +kernel
theorem dX0_breakUp_69 : decode cX0_breakUp 69 = .ok (.aload_n 0, 1) := by decide +kernel
theorem dX0_breakUp_70 : decode cX0_breakUp 70 = .ok (.getfield 12, 3) := by decide +kernel
theorem dX0_breakUp_73 : decode cX0_breakUp 73 = .ok (.getfield 80, 3) := by decide +kernel
theorem dX0_breakUp_76 : decode cX0_breakUp 76 = .ok (.iload_n 3, 1) := by decide +kernel
theorem dX0_breakUp_77 : decode cX0_breakUp 77 = .ok (.iaload, 1) := by decide +kernel
theorem dX0_breakUp_78 : decode cX0_breakUp 78 = .ok (.iload 4, 2) := by decide +kernel
theorem dX0_breakUp_80 : decode cX0_breakUp 80 = .ok (.invokestatic 121, 3) := by decide +kernel
theorem dX0_breakUp_83 : decode cX0_breakUp 83 = .ok (.istore 5, 2) := by decide +kernel
theorem dX0_breakUp_85 : decode cX0_breakUp 85 = .ok (.aload_n 0, 1) := by decide +kernel
theorem dX0_breakUp_86 : decode cX0_breakUp 86 = .ok (.getfield 12, 3) := by decide +kernel
theorem dX0_breakUp_89 : decode cX0_breakUp 89 = .ok (.getfield 80, 3) := by decide +kernel
theorem dX0_breakUp_92 : decode cX0_breakUp 92 = .ok (.iload_n 3, 1) := by decide +kernel
theorem dX0_breakUp_93 : decode cX0_breakUp 93 = .ok (.dup2, 1) := by decide +kernel
theorem dX0_breakUp_94 : decode cX0_breakUp 94 = .ok (.iaload, 1) := by decide +kernel
theorem dX0_breakUp_95 : decode cX0_breakUp 95 = .ok (.iload 5, 2) := by decide +kernel
theorem dX0_breakUp_97 : decode cX0_breakUp 97 = .ok (.isub, 1) := by decide +kernel
theorem dX0_breakUp_98 : decode cX0_breakUp 98 = .ok (.iastore, 1) := by decide +kernel
theorem dX0_breakUp_99 : decode cX0_breakUp 99 = .ok (.aload_n 0, 1) := by decide +kernel
theorem dX0_breakUp_100 : decode cX0_breakUp 100 = .ok (.getfield 12, 3) := by decide +kernel
theorem dX0_breakUp_103 : decode cX0_breakUp 103 = .ok (.getfield 80, 3) := by decide +kernel
theorem dX0_breakUp_106 : decode cX0_breakUp 106 = .ok (.iload_n 1, 1) := by decide +kernel
theorem dX0_breakUp_107 : decode cX0_breakUp 107 = .ok (.iconst 5, 1) := by decide +kernel
theorem dX0_breakUp_108 : decode cX0_breakUp 108 = .ok (.imul, 1) := by decide +kernel
theorem dX0_breakUp_109 : decode cX0_breakUp 109 = .ok (.dup2, 1) := by decide +kernel
theorem dX0_breakUp_110 : decode cX0_breakUp 110 = .ok (.iaload, 1) := by decide +kernel
theorem dX0_breakUp_111 : decode cX0_breakUp 111 = .ok (.iload 5, 2) := by decide +kernel
theorem dX0_breakUp_113 : decode cX0_breakUp 113 = .ok (.iadd, 1) := by decide +kernel
theorem dX0_breakUp_114 : decode cX0_breakUp 114 = .ok (.iastore, 1) := by decide +kernel
theorem dX0_breakUp_115 : decode cX0_breakUp 115 = .ok (.iinc 2 1, 3) := by decide +kernel
theorem dX0_breakUp_118 : decode cX0_breakUp 118 = .ok (.goto (-91), 3) := by decide +kernel
theorem dX0_breakUp_121 : decode cX0_breakUp 121 = .ok (.iinc 1 1, 3) := by decide +kernel
theorem dX0_breakUp_124 : decode cX0_breakUp 124 = .ok (.goto (-110), 3) := by decide +kernel
theorem dX0_breakUp_127 : decode cX0_breakUp 127 = .ok (.return_, 1) := by decide +kernel
theorem dX0_findGaps_0 : decode cX0_findGaps 0 = .ok (.iconst 0, 1) := by decide +kernel
theorem dX0_findGaps_1 : decode cX0_findGaps 1 = .ok (.istore_n 1, 1) := by decide +kernel
theorem dX0_findGaps_2 : decode cX0_findGaps 2 = .ok (.iload_n 1, 1) := by decide +kernel
theorem dX0_findGaps_3 : decode cX0_findGaps 3 = .ok (.bipush 12, 2) := by decide +kernel
theorem dX0_findGaps_5 : decode cX0_findGaps 5 = .ok (.if_icmp .ge 16, 3) := by decide +kernel
theorem dX0_findGaps_8 : decode cX0_findGaps 8 = .ok (.aload_n 0, 1) := by decide +kernel
theorem dX0_findGaps_9 : decode cX0_findGaps 9 = .ok (.getfield 36, 3) := by decide +kernel
theorem dX0_findGaps_12 : decode cX0_findGaps 12 = .ok (.iload_n 1, 1) := by decide +kernel
theorem dX0_findGaps_13 : decode cX0_findGaps 13 = .ok (.iconst 5, 1) := by decide +kernel
theorem dX0_findGaps_14 : decode cX0_findGaps 14 = .ok (.iastore, 1) := by decide +kernel
theorem dX0_findGaps_15 : decode cX0_findGaps 15 = .ok (.iinc 1 1, 3) := by decide +kernel
theorem dX0_findGaps_18 : decode cX0_findGaps 18 = .ok (.goto (-16), 3) := by decide +kernel
theorem dX0_findGaps_21 : decode cX0_findGaps 21 = .ok (.aload_n 0, 1) := by decide +kernel
theorem dX0_findGaps_22 : decode cX0_findGaps 22 = .ok (.getfield 21, 3) := by decide +kernel
theorem dX0_findGaps_25 : decode cX0_findGaps 25 = .ok (.bipush 7, 2) := by decide +kernel
theorem dX0_findGaps_27 : decode cX0_findGaps 27 = .ok (.invokevirtual 72, 3) := by decide +kernel
theorem dX0_findGaps_30 : decode cX0_findGaps 30 = .ok (.ifCond .ne 14, 3) := by decide +kernel
theorem dX0_findGaps_33 : decode cX0_findGaps 33 = .ok (.aload_n 0, 1) := by decide +kernel
theorem dX0_findGaps_34 : decode cX0_findGaps 34 = .ok (.getfield 21, 3) := by decide +kernel
theorem dX0_findGaps_37 : decode cX0_findGaps 37 = .ok (.iconst 2, 1) := by decide +kernel
theorem dX0_findGaps_38 : decode cX0_findGaps 38 = .ok (.invokevirtual 72, 3) := by decide +kernel
theorem dX0_findGaps_41 : decode cX0_findGaps 41 = .ok (.ifCond .eq 4, 3) := by decide +kernel
theorem dX0_findGaps_44 : decode cX0_findGaps 44 = .ok (.return_, 1) := by decide +kernel
theorem dX0_findGaps_45 : decode cX0_findGaps 45 = .ok (.iconst 0, 1) := by decide +kernel
theorem dX0_findGaps_46 : decode cX0_findGaps 46 = .ok (.istore_n 1, 1) := by decide +kernel
theorem dX0_findGaps_47 : decode cX0_findGaps 47 = .ok (.iload_n 1, 1) := by decide +kernel
theorem dX0_findGaps_48 : decode cX0_findGaps 48 = .ok (.aload_n 0, 1) := by decide +kernel
theorem dX0_findGaps_49 : decode cX0_findGaps 49 = .ok (.getfield 12, 3) := by decide +kernel
theorem dX0_findGaps_52 : decode cX0_findGaps 52 = .ok (.getfield 137, 3) := by decide +kernel
theorem dX0_findGaps_55 : decode cX0_findGaps 55 = .ok (.if_icmp .ge 66, 3) := by decide +kernel
theorem dX0_findGaps_58 : decode cX0_findGaps 58 = .ok (.aload_n 0, 1) := by decide +kernel
theorem dX0_findGaps_59 : decode cX0_findGaps 59 = .ok (.getfield 12, 3) := by decide +kernel
theorem dX0_findGaps_62 : decode cX0_findGaps 62 = .ok (.getfield 140, 3) := by decide +kernel
theorem dX0_findGaps_65 : decode cX0_findGaps 65 = .ok (.iload_n 1, 1) := by decide +kernel
theorem dX0_findGaps_66 : decode cX0_findGaps 66 = .ok (.aaload, 1) := by decide +kernel
theorem dX0_findGaps_67 : decode cX0_findGaps 67 = .ok (.astore_n 2, 1) := by decide +kernel
theorem dX0_findGaps_68 : decode cX0_findGaps 68 = .ok (.aload_n 2, 1) := by decide +kernel
theorem dX0_findGaps_69 : decode cX0_findGaps 69 = .ok (.getfield 144, 3) := by decide +kernel
theorem dX0_findGaps_72 : decode cX0_findGaps 72 = .ok (.ifCond .ne 13, 3) := by decide +kernel
theorem dX0_findGaps_75 : decode cX0_findGaps 75 = .ok (.aload_n 0, 1) := by decide +kernel
theorem dX0_findGaps_76 : decode cX0_findGaps 76 = .ok (.bipush 7, 2) := by decide +kernel
theorem dX0_findGaps_78 : decode cX0_findGaps 78 = .ok (.aload_n 2, 1) := by decide +kernel
theorem dX0_findGaps_79 : decode cX0_findGaps 79 = .ok (.invokevirtual 147, 3) := by decide +kernel
theorem dX0_findGaps_82 : decode cX0_findGaps 82 = .ok (.goto 4, 3) := by decide +kernel
theorem dX0_findGaps_85 : decode cX0_findGaps 85 = .ok (.iconst (-1), 1) := by decide +kernel
theorem dX0_findGaps_86 : decode cX0_findGaps 86 = .ok (.istore_n 3, 1) := by decide +kernel
theorem dX0_findGaps_87 : decode cX0_findGaps 87 = .ok (.iload_n 3, 1) := by decide +kernel
theorem dX0_findGaps_88 : decode cX0_findGaps 88 = .ok (.iconst (-1), 1) := by decide +kernel
theorem dX0_findGaps_89 : decode cX0_findGaps 89 = .ok (.if_icmp .eq 26, 3) := by decide +kernel
theorem dX0_findGaps_92 : decode cX0_findGaps 92 = .ok (.iload_n 3, 1) := by decide +kernel
theorem dX0_findGaps_93 : decode cX0_findGaps 93 = .ok (.aload_n 0, 1) := by decide +kernel
theorem dX0_findGaps_94 : decode cX0_findGaps 94 = .ok (.getfield 36, 3) := by decide +kernel
theorem dX0_findGaps_97 : decode cX0_findGaps 97 = .ok (.aload_n 2, 1) := by decide +kernel
theorem dX0_findGaps_98 : decode cX0_findGaps 98 = .ok (.getfield 87, 3) := by decide +kernel
theorem dX0_findGaps_101 : decode cX0_findGaps 101 = .ok (.iaload, 1) := by decide +kernel
theorem dX0_findGaps_102 : decode cX0_findGaps 102 = .ok (.if_icmp .ge 13, 3) := by decide +kernel
theorem dX0_findGaps_105 : decode cX0_findGaps 105 = .ok (.aload_n 0, 1) := by decide +kernel
theorem dX0_findGaps_106 : decode cX0_findGaps 106 = .ok (.getfield 36, 3) := by decide +kernel
theorem dX0_findGaps_109 : decode cX0_findGaps 109 = .ok (.aload_n 2, 1) := by decide +kernel
theorem dX0_findGaps_110 : decode cX0_findGaps 110 = .ok (.getfield 87, 3) := by decide +kernel
theorem dX0_findGaps_113 : decode cX0_findGaps 113 = .ok (.iload_n 3, 1) := by decide +kernel
theorem dX0_findGaps_114 : decode cX0_findGaps 114 = .ok (.iastore, 1) := by decide +kernel
theorem dX0_findGaps_115 : decode cX0_findGaps 115 = .ok (.iinc 1 1, 3) := by decide +kernel
theorem dX0_findGaps_118 : decode cX0_findGaps 118 = .ok (.goto (-71), 3) := by decide +kernel
theorem dX0_findGaps_121 : decode cX0_findGaps 121 = .ok (.return_, 1) := by decide +kernel
theorem dX0_drift_0 : decode cX0_drift 0 = .ok (.aload_n 0, 1) := by decide +kernel
theorem dX0_drift_1 : decode cX0_drift 1 = .ok (.getfield 21, 3) := by decide +kernel
theorem dX0_drift_4 : decode cX0_drift 4 = .ok (.iconst 2, 1) := by decide +kernel
theorem dX0_drift_5 : decode cX0_drift 5 = .ok (.invokevirtual 72, 3) := by decide +kernel
theorem dX0_drift_8 : decode cX0_drift 8 = .ok (.ifCond .eq 4, 3) := by decide +kernel
theorem dX0_drift_11 : decode cX0_drift 11 = .ok (.return_, 1) := by decide +kernel
theorem dX0_drift_12 : decode cX0_drift 12 = .ok (.iconst 0, 1) := by decide +kernel
theorem dX0_drift_13 : decode cX0_drift 13 = .ok (.istore_n 1, 1) := by decide +kernel
theorem dX0_drift_14 : decode cX0_drift 14 = .ok (.iload_n 1, 1) := by decide +kernel
theorem dX0_drift_15 : decode cX0_drift 15 = .ok (.aload_n 0, 1) := by decide +kernel
theorem dX0_drift_16 : decode cX0_drift 16 = .ok (.getfield 12, 3) := by decide +kernel
theorem dX0_drift_19 : decode cX0_drift 19 = .ok (.getfield 108, 3) := by decide +kernel
theorem dX0_drift_22 : decode cX0_drift 22 = .ok (.if_icmp .ge 144, 3) := by decide +kernel
theorem dX0_drift_25 : decode cX0_drift 25 = .ok (.aload_n 0, 1) := by decide +kernel
theorem dX0_drift_26 : decode cX0_drift 26 = .ok (.getfield 12, 3) := by decide +kernel
theorem dX0_drift_29 : decode cX0_drift 29 = .ok (.iload_n 1, 1) := by decide +kernel
theorem dX0_drift_30 : decode cX0_drift 30 = .ok (.invokevirtual 151, 3) := by decide +kernel
theorem dX0_drift_33 : decode cX0_drift 33 = .ok (.istore_n 2, 1) := by decide +kernel
theorem dX0_drift_34 : decode cX0_drift 34 = .ok (.iload_n 2, 1) := by decide +kernel
theorem dX0_drift_35 : decode cX0_drift 35 = .ok (.iload_n 1, 1) := by decide +kernel
theorem dX0_drift_36 : decode cX0_drift 36 = .ok (.if_icmp .ge 17, 3) := by decide +kernel
theorem dX0_drift_39 : decode cX0_drift 39 = .ok (.iload_n 2, 1) := by decide +kernel
theorem dX0_drift_40 : decode cX0_drift 40 = .ok (.iconst (-1), 1) := by decide +kernel
theorem dX0_drift_41 : decode cX0_drift 41 = .ok (.if_icmp .eq 12, 3) := by decide +kernel
theorem dX0_drift_44 : decode cX0_drift 44 = .ok (.aload_n 0, 1) := by decide +kernel
theorem dX0_drift_45 : decode cX0_drift 45 = .ok (.getfield 36, 3) := by decide +kernel
theorem dX0_drift_48 : decode cX0_drift 48 = .ok (.iload_n 2, 1) := by decide +kernel
theorem dX0_drift_49 : decode cX0_drift 49 = .ok (.iaload, 1) := by decide +kernel
theorem dX0_drift_50 : decode cX0_drift 50 = .ok (.goto 4, 3) := by decide +kernel
theorem dX0_drift_53 : decode cX0_drift 53 = .ok (.iconst 5, 1) := by decide +kernel
theorem dX0_drift_54 : decode cX0_drift 54 = .ok (.istore_n 3, 1) := by decide +kernel
theorem dX0_drift_55 : decode cX0_drift 55 = .ok (.iconst 0, 1) := by decide +kernel
theorem dX0_drift_56 : decode cX0_drift 56 = .ok (.istore 4, 2) := by decide +kernel
theorem dX0_drift_58 : decode cX0_drift 58 = .ok (.iload 4, 2) := by decide +kernel
theorem dX0_drift_60 : decode cX0_drift 60 = .ok (.iconst 5, 1) := by decide +kernel
theorem dX0_drift_61 : decode cX0_drift 61 = .ok (.if_icmp .ge 99, 3) := by decide +kernel
theorem dX0_drift_64 : decode cX0_drift 64 = .ok (.iload_n 1, 1) := by decide +kernel
theorem dX0_drift_65 : decode cX0_drift 65 = .ok (.iconst 5, 1) := by decide +kernel
theorem dX0_drift_66 : decode cX0_drift 66 = .ok (.imul, 1) := by decide +kernel
theorem dX0_drift_67 : decode cX0_drift 67 = .ok (.iload 4, 2) := by decide +kernel
theorem dX0_drift_69 : decode cX0_drift 69 = .ok (.iadd, 1) := by decide +kernel
theorem dX0_drift_70 : decode cX0_drift 70 = .ok (.istore 5, 2) := by decide +kernel
theorem dX0_drift_72 : decode cX0_drift 72 = .ok (.iload_n 2, 1) := by decide +kernel
theorem dX0_drift_73 : decode cX0_drift 73 = .ok (.iload_n 1, 1) := by decide +kernel
theorem dX0_drift_74 : decode cX0_drift 74 = .ok (.if_icmp .eq 22, 3) := by decide +kernel
theorem dX0_drift_77 : decode cX0_drift 77 = .ok (.iload 4, 2) := by decide +kernel
theorem dX0_drift_79 : decode cX0_drift 79 = .ok (.iload_n 3, 1) := by decide +kernel
theorem dX0_drift_80 : decode cX0_drift 80 = .ok (.if_icmp .ge 16, 3) := by decide +kernel
theorem dX0_drift_83 : decode cX0_drift 83 = .ok (.aload_n 0, 1) := by decide +kernel
theorem dX0_drift_84 : decode cX0_drift 84 = .ok (.getfield 12, 3) := by decide +kernel
theorem dX0_drift_87 : decode cX0_drift 87 = .ok (.getfield 80, 3) := by decide +kernel
theorem dX0_drift_90 : decode cX0_drift 90 = .ok (.iload 5, 2) := by decide +kernel
theorem dX0_drift_92 : decode cX0_drift 92 = .ok (.iaload, 1) := by decide +kernel
theorem dX0_drift_93 : decode cX0_drift 93 = .ok (.ifCond .ne 7, 3) := by decide +kernel
theorem dX0_drift_96 : decode cX0_drift 96 = .ok (.iconst 1, 1) := by decide +kernel
theorem dX0_drift_97 : decode cX0_drift 97 = .ok (.goto 4, 3) := by decide +kernel
theorem dX0_drift_100 : decode cX0_drift 100 = .ok (.iconst 0, 1) := by decide +kernel
theorem dX0_drift_101 : decode cX0_drift 101 = .ok (.istore 6, 2) := by decide +kernel
theorem dX0_drift_103 : decode cX0_drift 103 = .ok (.iload 6, 2) := by decide +kernel
theorem dX0_drift_105 : decode cX0_drift 105 = .ok (.ifCond .eq 7, 3) := by decide +kernel
theorem dX0_drift_108 : decode cX0_drift 108 = .ok (.iconst (-1), 1) := by decide +kernel
theorem dX0_drift_109 : decode cX0_drift 109 = .ok (.goto 11, 3) := by decide +kernel
theorem dX0_drift_112 : decode cX0_drift 112 = .ok (.aload_n 0, 1) := by decide +kernel
theorem dX0_drift_113 : decode cX0_drift 113 = .ok (.iconst 2, 1) := by decide +kernel
theorem dX0_drift_114 : decode cX0_drift 114 = .ok (.iload_n 1, 1) := by decide +kernel
theorem dX0_drift_115 : decode cX0_drift 115 = .ok (.iload 4, 2) := by decide +kernel
theorem dX0_drift_117 : decode cX0_drift 117 = .ok (.invokevirtual 114, 3) := by decide +kernel
theorem dX0_drift_120 : decode cX0_drift 120 = .ok (.istore 7, 2) := by decide +kernel
theorem dX0_drift_122 : decode cX0_drift 122 = .ok (.aload_n 0, 1) := by decide +kernel
theorem dX0_drift_123 : decode cX0_drift 123 = .ok (.getfield 33, 3) := by decide +kernel
theorem dX0_drift_126 : decode cX0_drift 126 = .ok (.iload 5, 2) := by decide +kernel
theorem dX0_drift_128 : decode cX0_drift 128 = .ok (.iload 7, 2) := by decide +kernel
theorem dX0_drift_130 : decode cX0_drift 130 = .ok (.iconst (-1), 1) := by decide +kernel
theorem dX0_drift_131 : decode cX0_drift 131 = .ok (.if_icmp .ne 7, 3) := by decide +kernel
theorem dX0_drift_134 : decode cX0_drift 134 = .ok (.iconst 0, 1) := by decide +kernel
theorem dX0_drift_135 : decode cX0_drift 135 = .ok (.goto 18, 3) := by decide +kernel
theorem dX0_drift_138 : decode cX0_drift 138 = .ok (.aload_n 0, 1) := by decide +kernel
theorem dX0_drift_139 : decode cX0_drift 139 = .ok (.getfield 12, 3) := by decide +kernel
theorem dX0_drift_142 : decode cX0_drift 142 = .ok (.getfield 80, 3) := by decide +kernel
theorem dX0_drift_145 : decode cX0_drift 145 = .ok (.iload 5, 2) := by decide +kernel
theorem dX0_drift_147 : decode cX0_drift 147 = .ok (.iaload, 1) := by decide +kernel
theorem dX0_drift_148 : decode cX0_drift 148 = .ok (.iload 7, 2) := by decide +kernel
theorem dX0_drift_150 : decode cX0_drift 150 = .ok (.invokestatic 121, 3) := by decide +kernel
theorem dX0_drift_153 : decode cX0_drift 153 = .ok (.iastore, 1) := by decide +kernel
theorem dX0_drift_154 : decode cX0_drift 154 = .ok (.iinc 4 1, 3) := by decide +kernel
theorem dX0_drift_157 : decode cX0_drift 157 = .ok (.goto (-99), 3) := by decide +kernel
theorem dX0_drift_160 : decode cX0_drift 160 = .ok (.iinc 1 1, 3) := by decide +kernel
theorem dX0_drift_163 : decode cX0_drift 163 = .ok (.goto (-149), 3) := by decide +kernel
theorem dX0_drift_166 : decode cX0_drift 166 = .ok (.iconst 0, 1) := by decide +kernel
theorem dX0_drift_167 : decode cX0_drift 167 = .ok (.istore_n 1, 1) := by decide +kernel
theorem dX0_drift_168 : decode cX0_drift 168 = .ok (.iload_n 1, 1) := by decide +kernel
theorem dX0_drift_169 : decode cX0_drift 169 = .ok (.aload_n 0, 1) := by decide +kernel
theorem dX0_drift_170 : decode cX0_drift 170 = .ok (.getfield 12, 3) := by decide +kernel
theorem dX0_drift_173 : decode cX0_drift 173 = .ok (.getfield 108, 3) := by decide +kernel
theorem dX0_drift_176 : decode cX0_drift 176 = .ok (.if_icmp .ge 22, 3) := by decide +kernel
theorem dX0_drift_179 : decode cX0_drift 179 = .ok (.aload_n 0, 1) := by decide +kernel
theorem dX0_drift_180 : decode cX0_drift 180 = .ok (.iload_n 1, 1) := by decide +kernel
theorem dX0_drift_181 : decode cX0_drift 181 = .ok (.aload_n 0, 1) := by decide +kernel
theorem dX0_drift_182 : decode cX0_drift 182 = .ok (.getfield 12, 3) := by decide +kernel
theorem dX0_drift_185 : decode cX0_drift 185 = .ok (.iload_n 1, 1) := by decide +kernel
theorem dX0_drift_186 : decode cX0_drift 186 = .ok (.invokevirtual 151, 3) := by decide +kernel
theorem dX0_drift_189 : decode cX0_drift 189 = .ok (.invokevirtual 154, 3) := by decide +kernel
theorem dX0_drift_192 : decode cX0_drift 192 = .ok (.iinc 1 1, 3) := by decide +kernel
theorem dX0_drift_195 : decode cX0_drift 195 = .ok (.goto (-27), 3) := by decide +kernel
theorem dX0_drift_198 : decode cX0_drift 198 = .ok (.return_, 1) := by decide +kernel
theorem dX0_leave_0 : decode cX0_leave 0 = .ok (.iconst 0, 1) := by decide +kernel
theorem dX0_leave_1 : decode cX0_leave 1 = .ok (.istore_n 3, 1) := by decide +kernel
theorem dX0_leave_2 : decode cX0_leave 2 = .ok (.iload_n 3, 1) := by decide +kernel
theorem dX0_leave_3 : decode cX0_leave 3 = .ok (.iconst 5, 1) := by decide +kernel
theorem dX0_leave_4 : decode cX0_leave 4 = .ok (.if_icmp .ge 79, 3) := by decide +kernel
theorem dX0_leave_7 : decode cX0_leave 7 = .ok (.aload_n 0, 1) := by decide +kernel
theorem dX0_leave_8 : decode cX0_leave 8 = .ok (.getfield 33, 3) := by decide +kernel
theorem dX0_leave_11 : decode cX0_leave 11 = .ok (.iload_n 1, 1) := by decide +kernel
theorem dX0_leave_12 : decode cX0_leave 12 = .ok (.iconst 5, 1) := by decide +kernel
theorem dX0_leave_13 : decode cX0_leave 13 = .ok (.imul, 1) := by decide +kernel
theorem dX0_leave_14 : decode cX0_leave 14 = .ok (.iload_n 3, 1) := by decide +kernel
theorem dX0_leave_15 : decode cX0_leave 15 = .ok (.iadd, 1) := by decide +kernel
theorem dX0_leave_16 : decode cX0_leave 16 = .ok (.iaload, 1) := by decide +kernel
theorem dX0_leave_17 : decode cX0_leave 17 = .ok (.istore 4, 2) := by decide +kernel
theorem dX0_leave_19 : decode cX0_leave 19 = .ok (.aload_n 0, 1) := by decide +kernel
theorem dX0_leave_20 : decode cX0_leave 20 = .ok (.getfield 12, 3) := by decide +kernel
theorem dX0_leave_23 : decode cX0_leave 23 = .ok (.getfield 80, 3) := by decide +kernel
theorem dX0_leave_26 : decode cX0_leave 26 = .ok (.iload_n 1, 1) := by decide +kernel
theorem dX0_leave_27 : decode cX0_leave 27 = .ok (.iconst 5, 1) := by decide +kernel
theorem dX0_leave_28 : decode cX0_leave 28 = .ok (.imul, 1) := by decide +kernel
theorem dX0_leave_29 : decode cX0_leave 29 = .ok (.iload_n 3, 1) := by decide +kernel
theorem dX0_leave_30 : decode cX0_leave 30 = .ok (.iadd, 1) := by decide +kernel
theorem dX0_leave_31 : decode cX0_leave 31 = .ok (.dup2, 1) := by decide +kernel
theorem dX0_leave_32 : decode cX0_leave 32 = .ok (.iaload, 1) := by decide +kernel
theorem dX0_leave_33 : decode cX0_leave 33 = .ok (.iload 4, 2) := by decide +kernel
theorem dX0_leave_35 : decode cX0_leave 35 = .ok (.isub, 1) := by decide +kernel
theorem dX0_leave_36 : decode cX0_leave 36 = .ok (.iastore, 1) := by decide +kernel
theorem dX0_leave_37 : decode cX0_leave 37 = .ok (.iload_n 2, 1) := by decide +kernel
theorem dX0_leave_38 : decode cX0_leave 38 = .ok (.iconst (-1), 1) := by decide +kernel
theorem dX0_leave_39 : decode cX0_leave 39 = .ok (.if_icmp .ne 20, 3) := by decide +kernel
theorem dX0_leave_42 : decode cX0_leave 42 = .ok (.aload_n 0, 1) := by decide +kernel
theorem dX0_leave_43 : decode cX0_leave 43 = .ok (.getfield 12, 3) := by decide +kernel
theorem dX0_leave_46 : decode cX0_leave 46 = .ok (.dup, 1) := by decide +kernel
theorem dX0_leave_47 : decode cX0_leave 47 = .ok (.getfield 158, 3) := by decide +kernel
theorem dX0_leave_50 : decode cX0_leave 50 = .ok (.iload 4, 2) := by decide +kernel
theorem dX0_leave_52 : decode cX0_leave 52 = .ok (.iadd, 1) := by decide +kernel
theorem dX0_leave_53 : decode cX0_leave 53 = .ok (.putfield 158, 3) := by decide +kernel
theorem dX0_leave_56 : decode cX0_leave 56 = .ok (.goto 21, 3) := by decide +kernel
theorem dX0_leave_59 : decode cX0_leave 59 = .ok (.aload_n 0, 1) := by decide +kernel
theorem dX0_leave_60 : decode cX0_leave 60 = .ok (.getfield 12, 3) := by decide +kernel
theorem dX0_leave_63 : decode cX0_leave 63 = .ok (.getfield 80, 3) := by decide +kernel
theorem dX0_leave_66 : decode cX0_leave 66 = .ok (.iload_n 2, 1) := by decide +kernel
theorem dX0_leave_67 : decode cX0_leave 67 = .ok (.iconst 5, 1) := by decide +kernel
theorem dX0_leave_68 : decode cX0_leave 68 = .ok (.imul, 1) := by decide +kernel
theorem dX0_leave_69 : decode cX0_leave 69 = .ok (.iload_n 3, 1) := by decide +kernel
theorem dX0_leave_70 : decode cX0_leave 70 = .ok (.iadd, 1) := by decide +kernel
theorem dX0_leave_71 : decode cX0_leave 71 = .ok (.dup2, 1) := by decide +kernel
theorem dX0_leave_72 : decode cX0_leave 72 = .ok (.iaload, 1) := by decide +kernel
theorem dX0_leave_73 : decode cX0_leave 73 = .ok (.iload 4, 2) := by decide +kernel
theorem dX0_leave_75 : decode cX0_leave 75 = .ok (.iadd, 1) := by decide +kernel
theorem dX0_leave_76 : decode cX0_leave 76 = .ok (.iastore, 1) := by decide +kernel
theorem dX0_leave_77 : decode cX0_leave 77 = .ok (.iinc 3 1, 3) := by decide +kernel
theorem dX0_leave_80 : decode cX0_leave 80 = .ok (.goto (-78), 3) := by decide +kernel
theorem dX0_leave_83 : decode cX0_leave 83 = .ok (.return_, 1) := by decide +kernel
theorem dX0_gather_0 : decode cX0_gather 0 = .ok (.aload_n 0, 1) := by decide +kernel
theorem dX0_gather_1 : decode cX0_gather 1 = .ok (.getfield 21, 3) := by decide +kernel
theorem dX0_gather_4 : decode cX0_gather 4 = .ok (.iconst 3, 1) := by decide +kernel
theorem dX0_gather_5 : decode cX0_gather 5 = .ok (.invokevirtual 72, 3) := by decide +kernel
theorem dX0_gather_8 : decode cX0_gather 8 = .ok (.ifCond .eq 4, 3) := by decide +kernel
theorem dX0_gather_11 : decode cX0_gather 11 = .ok (.return_, 1) := by decide +kernel
theorem dX0_gather_12 : decode cX0_gather 12 = .ok (.iconst 0, 1) := by decide +kernel
theorem dX0_gather_13 : decode cX0_gather 13 = .ok (.istore_n 1, 1) := by decide +kernel
theorem dX0_gather_14 : decode cX0_gather 14 = .ok (.iload_n 1, 1) := by decide +kernel
theorem dX0_gather_15 : decode cX0_gather 15 = .ok (.aload_n 0, 1) := by decide +kernel
theorem dX0_gather_16 : decode cX0_gather 16 = .ok (.getfield 12, 3) := by decide +kernel
theorem dX0_gather_19 : decode cX0_gather 19 = .ok (.getfield 108, 3) := by decide +kernel
theorem dX0_gather_22 : decode cX0_gather 22 = .ok (.if_icmp .ge 83, 3) := by decide +kernel
theorem dX0_gather_25 : decode cX0_gather 25 = .ok (.iconst 4, 1) := by decide +kernel
theorem dX0_gather_26 : decode cX0_gather 26 = .ok (.istore_n 2, 1) := by decide +kernel
theorem dX0_gather_27 : decode cX0_gather 27 = .ok (.iload_n 2, 1) := by decide +kernel
theorem dX0_gather_28 : decode cX0_gather 28 = .ok (.ifCond .lt 71, 3) := by decide +kernel
theorem dX0_gather_31 : decode cX0_gather 31 = .ok (.aload_n 0, 1) := by decide +kernel
theorem dX0_gather_32 : decode cX0_gather 32 = .ok (.getfield 12, 3) := by decide +kernel
theorem dX0_gather_35 : decode cX0_gather 35 = .ok (.getfield 80, 3) := by decide +kernel
theorem dX0_gather_38 : decode cX0_gather 38 = .ok (.iload_n 1, 1) := by decide +kernel
theorem dX0_gather_39 : decode cX0_gather 39 = .ok (.iconst 5, 1) := by decide +kernel
theorem dX0_gather_40 : decode cX0_gather 40 = .ok (.imul, 1) := by decide +kernel
theorem dX0_gather_41 : decode cX0_gather 41 = .ok (.iload_n 2, 1) := by decide +kernel
theorem dX0_gather_42 : decode cX0_gather 42 = .ok (.iadd, 1) := by decide +kernel
theorem dX0_gather_43 : decode cX0_gather 43 = .ok (.iaload, 1) := by decide +kernel
theorem dX0_gather_44 : decode cX0_gather 44 = .ok (.istore_n 3, 1) := by decide +kernel
theorem dX0_gather_45 : decode cX0_gather 45 = .ok (.iload_n 3, 1) := by decide +kernel
theorem dX0_gather_46 : decode cX0_gather 46 = .ok (.ifCond .le 23, 3) := by decide +kernel
theorem dX0_gather_49 : decode cX0_gather 49 = .ok (.aload_n 0, 1) := by decide +kernel
theorem dX0_gather_50 : decode cX0_gather 50 = .ok (.getfield 12, 3) := by decide +kernel
theorem dX0_gather_53 : decode cX0_gather 53 = .ok (.invokevirtual 161, 3) := by decide +kernel
theorem dX0_gather_56 : decode cX0_gather 56 = .ok (.ifCond .eq 13, 3) := by decide +kernel
theorem dX0_gather_59 : decode cX0_gather 59 = .ok (.aload_n 0, 1) := by decide +kernel
theorem dX0_gather_60 : decode cX0_gather 60 = .ok (.iconst 3, 1) := by decide +kernel
theorem dX0_gather_61 : decode cX0_gather 61 = .ok (.iload_n 1, 1) := by decide +kernel
theorem dX0_gather_62 : decode cX0_gather 62 = .ok (.iload_n 2, 1) := by decide +kernel
theorem dX0_gather_63 : decode cX0_gather 63 = .ok (.invokevirtual 114, 3) := by decide +kernel
theorem dX0_gather_66 : decode cX0_gather 66 = .ok (.goto 4, 3) := by decide +kernel
theorem dX0_gather_69 : decode cX0_gather 69 = .ok (.iconst (-1), 1) := by decide +kernel
theorem dX0_gather_70 : decode cX0_gather 70 = .ok (.istore 4, 2) := by decide +kernel
theorem dX0_gather_72 : decode cX0_gather 72 = .ok (.iload 4, 2) := by decide +kernel
theorem dX0_gather_74 : decode cX0_gather 74 = .ok (.iconst (-1), 1) := by decide +kernel
theorem dX0_gather_75 : decode cX0_gather 75 = .ok (.if_icmp .eq 18, 3) := by decide +kernel
theorem dX0_gather_78 : decode cX0_gather 78 = .ok (.iload_n 3, 1) := by decide +kernel
theorem dX0_gather_79 : decode cX0_gather 79 = .ok (.iload 4, 2) := by decide +kernel
theorem dX0_gather_81 : decode cX0_gather 81 = .ok (.if_icmp .lt 12, 3) := by decide +kernel
theorem dX0_gather_84 : decode cX0_gather 84 = .ok (.aload_n 0, 1) := by decide +kernel
theorem dX0_gather_85 : decode cX0_gather 85 = .ok (.getfield 12, 3) := by decide +kernel
theorem dX0_gather_88 : decode cX0_gather 88 = .ok (.iload_n 1, 1) := by decide +kernel
theorem dX0_gather_89 : decode cX0_gather 89 = .ok (.iload_n 2, 1) := by decide +kernel
theorem dX0_gather_90 : decode cX0_gather 90 = .ok (.invokevirtual 165, 3) := by decide +kernel
theorem dX0_gather_93 : decode cX0_gather 93 = .ok (.iinc 2 (-1), 3) := by decide +kernel
theorem dX0_gather_96 : decode cX0_gather 96 = .ok (.goto (-69), 3) := by decide +kernel
theorem dX0_gather_99 : decode cX0_gather 99 = .ok (.iinc 1 1, 3) := by decide +kernel
theorem dX0_gather_102 : decode cX0_gather 102 = .ok (.goto (-88), 3) := by decide +kernel
theorem dX0_gather_105 : decode cX0_gather 105 = .ok (.return_, 1) := by decide +kernel
theorem dX0_feedLumps_0 : decode cX0_feedLumps 0 = .ok (.iconst 0, 1) := by decide +kernel
theorem dX0_feedLumps_1 : decode cX0_feedLumps 1 = .ok (.istore_n 1, 1) := by decide +kernel
theorem dX0_feedLumps_2 : decode cX0_feedLumps 2 = .ok (.iload_n 1, 1) := by decide +kernel
theorem dX0_feedLumps_3 : decode cX0_feedLumps 3 = .ok (.aload_n 0, 1) := by decide +kernel
theorem dX0_feedLumps_4 : decode cX0_feedLumps 4 = .ok (.getfield 12, 3) := by decide +kernel
theorem dX0_feedLumps_7 : decode cX0_feedLumps 7 = .ok (.getfield 137, 3) := by decide +kernel
theorem dX0_feedLumps_10 : decode cX0_feedLumps 10 = .ok (.if_icmp .ge 105, 3) := by decide +kernel
theorem dX0_feedLumps_13 : decode cX0_feedLumps 13 = .ok (.aload_n 0, 1) := by decide +kernel
theorem dX0_feedLumps_14 : decode cX0_feedLumps 14 = .ok (.getfield 12, 3) := by decide +kernel
theorem dX0_feedLumps_17 : decode cX0_feedLumps 17 = .ok (.getfield 140, 3) := by decide +kernel
theorem dX0_feedLumps_20 : decode cX0_feedLumps 20 = .ok (.iload_n 1, 1) := by decide +kernel
theorem dX0_feedLumps_21 : decode cX0_feedLumps 21 = .ok (.aaload, 1) := by decide +kernel
theorem dX0_feedLumps_22 : decode cX0_feedLumps 22 = .ok (.astore_n 2, 1) := by decide +kernel
theorem dX0_feedLumps_23 : decode cX0_feedLumps 23 = .ok (.aload_n 2, 1) := by decide +kernel
theorem dX0_feedLumps_24 : decode cX0_feedLumps 24 = .ok (.getfield 144, 3) := by decide +kernel
theorem dX0_feedLumps_27 : decode cX0_feedLumps 27 = .ok (.ifCond .ne 12, 3) := by decide +kernel
theorem dX0_feedLumps_30 : decode cX0_feedLumps 30 = .ok (.aload_n 0, 1) := by decide +kernel
theorem dX0_feedLumps_31 : decode cX0_feedLumps 31 = .ok (.iconst 4, 1) := by decide +kernel
theorem dX0_feedLumps_32 : decode cX0_feedLumps 32 = .ok (.aload_n 2, 1) := by decide +kernel
theorem dX0_feedLumps_33 : decode cX0_feedLumps 33 = .ok (.invokevirtual 147, 3) := by decide +kernel
theorem dX0_feedLumps_36 : decode cX0_feedLumps 36 = .ok (.goto 4, 3) := by decide +kernel
theorem dX0_feedLumps_39 : decode cX0_feedLumps 39 = .ok (.iconst (-1), 1) := by decide +kernel
theorem dX0_feedLumps_40 : decode cX0_feedLumps 40 = .ok (.istore_n 3, 1) := by decide +kernel
theorem dX0_feedLumps_41 : decode cX0_feedLumps 41 = .ok (.iconst 0, 1) := by decide +kernel
theorem dX0_feedLumps_42 : decode cX0_feedLumps 42 = .ok (.istore 4, 2) := by decide +kernel
theorem dX0_feedLumps_44 : decode cX0_feedLumps 44 = .ok (.iload_n 3, 1) := by decide +kernel
theorem dX0_feedLumps_45 : decode cX0_feedLumps 45 = .ok (.iconst (-1), 1) := by decide +kernel
theorem dX0_feedLumps_46 : decode cX0_feedLumps 46 = .ok (.if_icmp .eq 63, 3) := by decide +kernel
theorem dX0_feedLumps_49 : decode cX0_feedLumps 49 = .ok (.iload 4, 2) := by decide +kernel
theorem dX0_feedLumps_51 : decode cX0_feedLumps 51 = .ok (.iconst 5, 1) := by decide +kernel
theorem dX0_feedLumps_52 : decode cX0_feedLumps 52 = .ok (.if_icmp .ge 57, 3) := by decide +kernel
theorem dX0_feedLumps_55 : decode cX0_feedLumps 55 = .ok (.aload_n 2, 1) := by decide +kernel
theorem dX0_feedLumps_56 : decode cX0_feedLumps 56 = .ok (.getfield 87, 3) := by decide +kernel
theorem dX0_feedLumps_59 : decode cX0_feedLumps 59 = .ok (.iconst 5, 1) := by decide +kernel
theorem dX0_feedLumps_60 : decode cX0_feedLumps 60 = .ok (.imul, 1) := by decide +kernel
theorem dX0_feedLumps_61 : decode cX0_feedLumps 61 = .ok (.iload 4, 2) := by decide +kernel
theorem dX0_feedLumps_63 : decode cX0_feedLumps 63 = .ok (.iadd, 1) := by decide +kernel
theorem dX0_feedLumps_64 : decode cX0_feedLumps 64 = .ok (.istore 5, 2) := by decide +kernel
theorem dX0_feedLumps_66 : decode cX0_feedLumps 66 = .ok (.aload_n 0, 1) := by decide +kernel
theorem dX0_feedLumps_67 : decode cX0_feedLumps 67 = .ok (.getfield 12, 3) := by decide +kernel
theorem dX0_feedLumps_70 : decode cX0_feedLumps 70 = .ok (.getfield 80, 3) := by decide +kernel
theorem dX0_feedLumps_73 : decode cX0_feedLumps 73 = .ok (.iload 5, 2) := by decide +kernel
theorem dX0_feedLumps_75 : decode cX0_feedLumps 75 = .ok (.iaload, 1) := by decide +kernel
theorem dX0_feedLumps_76 : decode cX0_feedLumps 76 = .ok (.iload_n 3, 1) := by decide +kernel
theorem dX0_feedLumps_77 : decode cX0_feedLumps 77 = .ok (.invokestatic 121, 3) := by decide +kernel
theorem dX0_feedLumps_80 : decode cX0_feedLumps 80 = .ok (.istore 6, 2) := by decide +kernel
theorem dX0_feedLumps_82 : decode cX0_feedLumps 82 = .ok (.aload_n 0, 1) := by decide +kernel
theorem dX0_feedLumps_83 : decode cX0_feedLumps 83 = .ok (.getfield 12, 3) := by decide +kernel
theorem dX0_feedLumps_86 : decode cX0_feedLumps 86 = .ok (.getfield 80, 3) := by decide +kernel
theorem dX0_feedLumps_89 : decode cX0_feedLumps 89 = .ok (.iload 5, 2) := by decide +kernel
theorem dX0_feedLumps_91 : decode cX0_feedLumps 91 = .ok (.dup2, 1) := by decide +kernel
theorem dX0_feedLumps_92 : decode cX0_feedLumps 92 = .ok (.iaload, 1) := by decide +kernel
theorem dX0_feedLumps_93 : decode cX0_feedLumps 93 = .ok (.iload 6, 2) := by decide +kernel
theorem dX0_feedLumps_95 : decode cX0_feedLumps 95 = .ok (.isub, 1) := by decide +kernel
theorem dX0_feedLumps_96 : decode cX0_feedLumps 96 = .ok (.iastore, 1) := by decide +kernel
theorem dX0_feedLumps_97 : decode cX0_feedLumps 97 = .ok (.aload_n 2, 1) := by decide +kernel
theorem dX0_feedLumps_98 : decode cX0_feedLumps 98 = .ok (.iload 6, 2) := by decide +kernel
theorem dX0_feedLumps_100 : decode cX0_feedLumps 100 = .ok (.invokevirtual 168, 3) := by decide +kernel
theorem dX0_feedLumps_103 : decode cX0_feedLumps 103 = .ok (.iinc 4 1, 3) := by decide +kernel
theorem dX0_feedLumps_106 : decode cX0_feedLumps 106 = .ok (.goto (-62), 3) := by decide +kernel
theorem dX0_feedLumps_109 : decode cX0_feedLumps 109 = .ok (.iinc 1 1, 3) := by decide +kernel
theorem dX0_feedLumps_112 : decode cX0_feedLumps 112 = .ok (.goto (-110), 3) := by decide +kernel
theorem dX0_feedLumps_115 : decode cX0_feedLumps 115 = .ok (.return_, 1) := by decide +kernel
theorem dX0_eatGas_0 : decode cX0_eatGas 0 = .ok (.iconst 0, 1) := by decide +kernel
theorem dX0_eatGas_1 : decode cX0_eatGas 1 = .ok (.istore_n 1, 1) := by decide +kernel
theorem dX0_eatGas_2 : decode cX0_eatGas 2 = .ok (.iload_n 1, 1) := by decide +kernel
theorem dX0_eatGas_3 : decode cX0_eatGas 3 = .ok (.aload_n 0, 1) := by decide +kernel
theorem dX0_eatGas_4 : decode cX0_eatGas 4 = .ok (.getfield 12, 3) := by decide +kernel
theorem dX0_eatGas_7 : decode cX0_eatGas 7 = .ok (.getfield 137, 3) := by decide +kernel
theorem dX0_eatGas_10 : decode cX0_eatGas 10 = .ok (.if_icmp .ge 83, 3) := by decide +kernel
theorem dX0_eatGas_13 : decode cX0_eatGas 13 = .ok (.aload_n 0, 1) := by decide +kernel
theorem dX0_eatGas_14 : decode cX0_eatGas 14 = .ok (.getfield 12, 3) := by decide +kernel
theorem dX0_eatGas_17 : decode cX0_eatGas 17 = .ok (.getfield 140, 3) := by decide +kernel
theorem dX0_eatGas_20 : decode cX0_eatGas 20 = .ok (.iload_n 1, 1) := by decide +kernel
theorem dX0_eatGas_21 : decode cX0_eatGas 21 = .ok (.aaload, 1) := by decide +kernel
theorem dX0_eatGas_22 : decode cX0_eatGas 22 = .ok (.astore_n 2, 1) := by decide +kernel
theorem dX0_eatGas_23 : decode cX0_eatGas 23 = .ok (.aload_n 2, 1) := by decide +kernel
theorem dX0_eatGas_24 : decode cX0_eatGas 24 = .ok (.getfield 144, 3) := by decide +kernel
theorem dX0_eatGas_27 : decode cX0_eatGas 27 = .ok (.ifCond .ne 12, 3) := by decide +kernel
theorem dX0_eatGas_30 : decode cX0_eatGas 30 = .ok (.aload_n 0, 1) := by decide +kernel
theorem dX0_eatGas_31 : decode cX0_eatGas 31 = .ok (.iconst 5, 1) := by decide +kernel
theorem dX0_eatGas_32 : decode cX0_eatGas 32 = .ok (.aload_n 2, 1) := by decide +kernel
theorem dX0_eatGas_33 : decode cX0_eatGas 33 = .ok (.invokevirtual 147, 3) := by decide +kernel
theorem dX0_eatGas_36 : decode cX0_eatGas 36 = .ok (.goto 4, 3) := by decide +kernel
theorem dX0_eatGas_39 : decode cX0_eatGas 39 = .ok (.iconst (-1), 1) := by decide +kernel
theorem dX0_eatGas_40 : decode cX0_eatGas 40 = .ok (.istore_n 3, 1) := by decide +kernel
theorem dX0_eatGas_41 : decode cX0_eatGas 41 = .ok (.iload_n 3, 1) := by decide +kernel
theorem dX0_eatGas_42 : decode cX0_eatGas 42 = .ok (.iconst (-1), 1) := by decide +kernel
theorem dX0_eatGas_43 : decode cX0_eatGas 43 = .ok (.if_icmp .eq 44, 3) := by decide +kernel
theorem dX0_eatGas_46 : decode cX0_eatGas 46 = .ok (.aload_n 0, 1) := by decide +kernel
theorem dX0_eatGas_47 : decode cX0_eatGas 47 = .ok (.getfield 12, 3) := by decide +kernel
theorem dX0_eatGas_50 : decode cX0_eatGas 50 = .ok (.getfield 95, 3) := by decide +kernel
theorem dX0_eatGas_53 : decode cX0_eatGas 53 = .ok (.aload_n 2, 1) := by decide +kernel
theorem dX0_eatGas_54 : decode cX0_eatGas 54 = .ok (.getfield 87, 3) := by decide +kernel
theorem dX0_eatGas_57 : decode cX0_eatGas 57 = .ok (.iaload, 1) := by decide +kernel
theorem dX0_eatGas_58 : decode cX0_eatGas 58 = .ok (.iload_n 3, 1) := by decide +kernel
theorem dX0_eatGas_59 : decode cX0_eatGas 59 = .ok (.invokestatic 121, 3) := by decide +kernel
theorem dX0_eatGas_62 : decode cX0_eatGas 62 = .ok (.istore 4, 2) := by decide +kernel
theorem dX0_eatGas_64 : decode cX0_eatGas 64 = .ok (.aload_n 0, 1) := by decide +kernel
theorem dX0_eatGas_65 : decode cX0_eatGas 65 = .ok (.getfield 12, 3) := by decide +kernel
theorem dX0_eatGas_68 : decode cX0_eatGas 68 = .ok (.getfield 95, 3) := by decide +kernel
theorem dX0_eatGas_71 : decode cX0_eatGas 71 = .ok (.aload_n 2, 1) := by decide +kernel
theorem dX0_eatGas_72 : decode cX0_eatGas 72 = .ok (.getfield 87, 3) := by decide +kernel
theorem dX0_eatGas_75 : decode cX0_eatGas 75 = .ok (.dup2, 1) := by decide +kernel
theorem dX0_eatGas_76 : decode cX0_eatGas 76 = .ok (.iaload, 1) := by decide +kernel
theorem dX0_eatGas_77 : decode cX0_eatGas 77 = .ok (.iload 4, 2) := by decide +kernel
theorem dX0_eatGas_79 : decode cX0_eatGas 79 = .ok (.isub, 1) := by decide +kernel
theorem dX0_eatGas_80 : decode cX0_eatGas 80 = .ok (.iastore, 1) := by decide +kernel
theorem dX0_eatGas_81 : decode cX0_eatGas 81 = .ok (.aload_n 2, 1) := by decide +kernel
theorem dX0_eatGas_82 : decode cX0_eatGas 82 = .ok (.iload 4, 2) := by decide +kernel
theorem dX0_eatGas_84 : decode cX0_eatGas 84 = .ok (.invokevirtual 171, 3) := by decide +kernel
theorem dX0_eatGas_87 : decode cX0_eatGas 87 = .ok (.iinc 1 1, 3) := by decide +kernel
theorem dX0_eatGas_90 : decode cX0_eatGas 90 = .ok (.goto (-88), 3) := by decide +kernel
theorem dX0_eatGas_93 : decode cX0_eatGas 93 = .ok (.return_, 1) := by decide +kernel
theorem dX0_wander_0 : decode cX0_wander 0 = .ok (.iconst 0, 1) := by decide +kernel
theorem dX0_wander_1 : decode cX0_wander 1 = .ok (.istore_n 1, 1) := by decide +kernel
theorem dX0_wander_2 : decode cX0_wander 2 = .ok (.iload_n 1, 1) := by decide +kernel
theorem dX0_wander_3 : decode cX0_wander 3 = .ok (.aload_n 0, 1) := by decide +kernel
theorem dX0_wander_4 : decode cX0_wander 4 = .ok (.getfield 12, 3) := by decide +kernel
theorem dX0_wander_7 : decode cX0_wander 7 = .ok (.getfield 137, 3) := by decide +kernel
theorem dX0_wander_10 : decode cX0_wander 10 = .ok (.if_icmp .ge 96, 3) := by decide +kernel
theorem dX0_wander_13 : decode cX0_wander 13 = .ok (.aload_n 0, 1) := by decide +kernel
theorem dX0_wander_14 : decode cX0_wander 14 = .ok (.getfield 12, 3) := by decide +kernel
theorem dX0_wander_17 : decode cX0_wander 17 = .ok (.getfield 140, 3) := by decide +kernel
theorem dX0_wander_20 : decode cX0_wander 20 = .ok (.iload_n 1, 1) := by decide +kernel
theorem dX0_wander_21 : decode cX0_wander 21 = .ok (.aaload, 1) := by decide +kernel
theorem dX0_wander_22 : decode cX0_wander 22 = .ok (.astore_n 2, 1) := by decide +kernel
theorem dX0_wander_23 : decode cX0_wander 23 = .ok (.aload_n 2, 1) := by decide +kernel
theorem dX0_wander_24 : decode cX0_wander 24 = .ok (.getfield 144, 3) := by decide +kernel
theorem dX0_wander_27 : decode cX0_wander 27 = .ok (.ifCond .ne 13, 3) := by decide +kernel
theorem dX0_wander_30 : decode cX0_wander 30 = .ok (.aload_n 0, 1) := by decide +kernel
theorem dX0_wander_31 : decode cX0_wander 31 = .ok (.bipush 6, 2) := by decide +kernel
theorem dX0_wander_33 : decode cX0_wander 33 = .ok (.aload_n 2, 1) := by decide +kernel
theorem dX0_wander_34 : decode cX0_wander 34 = .ok (.invokevirtual 147, 3) := by decide +kernel
theorem dX0_wander_37 : decode cX0_wander 37 = .ok (.goto 4, 3) := by decide +kernel
theorem dX0_wander_40 : decode cX0_wander 40 = .ok (.iconst (-1), 1) := by decide +kernel
theorem dX0_wander_41 : decode cX0_wander 41 = .ok (.istore_n 3, 1) := by decide +kernel
theorem dX0_wander_42 : decode cX0_wander 42 = .ok (.iload_n 3, 1) := by decide +kernel
theorem dX0_wander_43 : decode cX0_wander 43 = .ok (.iconst (-1), 1) := by decide +kernel
theorem dX0_wander_44 : decode cX0_wander 44 = .ok (.if_icmp .eq 56, 3) := by decide +kernel
theorem dX0_wander_47 : decode cX0_wander 47 = .ok (.aload_n 0, 1) := by decide +kernel
theorem dX0_wander_48 : decode cX0_wander 48 = .ok (.getfield 12, 3) := by decide +kernel
theorem dX0_wander_51 : decode cX0_wander 51 = .ok (.aload_n 2, 1) := by decide +kernel
theorem dX0_wander_52 : decode cX0_wander 52 = .ok (.invokevirtual 174, 3) := by decide +kernel
theorem dX0_wander_55 : decode cX0_wander 55 = .ok (.ifCond .ne 45, 3) := by decide +kernel
theorem dX0_wander_58 : decode cX0_wander 58 = .ok (.aload_n 2, 1) := by decide +kernel
theorem dX0_wander_59 : decode cX0_wander 59 = .ok (.dup, 1) := by decide +kernel
theorem dX0_wander_60 : decode cX0_wander 60 = .ok (.getfield 178, 3) := by decide +kernel
theorem dX0_wander_63 : decode cX0_wander 63 = .ok (.iconst 1, 1) := by decide +kernel
theorem dX0_wander_64 : decode cX0_wander 64 = .ok (.iadd, 1) := by decide +kernel
theorem dX0_wander_65 : decode cX0_wander 65 = .ok (.putfield 178, 3) := by decide +kernel
theorem dX0_wander_68 : decode cX0_wander 68 = .ok (.aload_n 2, 1) := by decide +kernel
theorem dX0_wander_69 : decode cX0_wander 69 = .ok (.getfield 178, 3) := by decide +kernel
theorem dX0_wander_72 : decode cX0_wander 72 = .ok (.iload_n 3, 1) := by decide +kernel
theorem dX0_wander_73 : decode cX0_wander 73 = .ok (.if_icmp .lt 27, 3) := by decide +kernel
theorem dX0_wander_76 : decode cX0_wander 76 = .ok (.aload_n 2, 1) := by decide +kernel
theorem dX0_wander_77 : decode cX0_wander 77 = .ok (.iconst 0, 1) := by decide +kernel
theorem dX0_wander_78 : decode cX0_wander 78 = .ok (.putfield 178, 3) := by decide +kernel
theorem dX0_wander_81 : decode cX0_wander 81 = .ok (.aload_n 0, 1) := by decide +kernel
theorem dX0_wander_82 : decode cX0_wander 82 = .ok (.getfield 12, 3) := by decide +kernel
theorem dX0_wander_85 : decode cX0_wander 85 = .ok (.aload_n 2, 1) := by decide +kernel
theorem dX0_wander_86 : decode cX0_wander 86 = .ok (.aload_n 0, 1) := by decide +kernel
theorem dX0_wander_87 : decode cX0_wander 87 = .ok (.getfield 12, 3) := by decide +kernel
theorem dX0_wander_90 : decode cX0_wander 90 = .ok (.aload_n 2, 1) := by decide +kernel
theorem dX0_wander_91 : decode cX0_wander 91 = .ok (.getfield 87, 3) := by decide +kernel
theorem dX0_wander_94 : decode cX0_wander 94 = .ok (.invokevirtual 151, 3) := by decide +kernel
theorem dX0_wander_97 : decode cX0_wander 97 = .ok (.invokevirtual 181, 3) := by decide +kernel
theorem dX0_wander_100 : decode cX0_wander 100 = .ok (.iinc 1 1, 3) := by decide +kernel
theorem dX0_wander_103 : decode cX0_wander 103 = .ok (.goto (-101), 3) := by decide +kernel
theorem dX0_wander_106 : decode cX0_wander 106 = .ok (.return_, 1) := by decide +kernel
theorem dX0_meet_0 : decode cX0_meet 0 = .ok (.iconst 0, 1) := by decide +kernel
theorem dX0_meet_1 : decode cX0_meet 1 = .ok (.istore_n 1, 1) := by decide +kernel
theorem dX0_meet_2 : decode cX0_meet 2 = .ok (.iload_n 1, 1) := by decide +kernel
theorem dX0_meet_3 : decode cX0_meet 3 = .ok (.aload_n 0, 1) := by decide +kernel
theorem dX0_meet_4 : decode cX0_meet 4 = .ok (.getfield 12, 3) := by decide +kernel
theorem dX0_meet_7 : decode cX0_meet 7 = .ok (.getfield 108, 3) := by decide +kernel
theorem dX0_meet_10 : decode cX0_meet 10 = .ok (.if_icmp .ge 62, 3) := by decide +kernel
theorem dX0_meet_13 : decode cX0_meet 13 = .ok (.iconst (-1), 1) := by decide +kernel
theorem dX0_meet_14 : decode cX0_meet 14 = .ok (.istore_n 2, 1) := by decide +kernel
theorem dX0_meet_15 : decode cX0_meet 15 = .ok (.iconst 0, 1) := by decide +kernel
theorem dX0_meet_16 : decode cX0_meet 16 = .ok (.istore_n 3, 1) := by decide +kernel
theorem dX0_meet_17 : decode cX0_meet 17 = .ok (.iload_n 3, 1) := by decide +kernel
theorem dX0_meet_18 : decode cX0_meet 18 = .ok (.aload_n 0, 1) := by decide +kernel
theorem dX0_meet_19 : decode cX0_meet 19 = .ok (.getfield 12, 3) := by decide +kernel
theorem dX0_meet_22 : decode cX0_meet 22 = .ok (.getfield 137, 3) := by decide +kernel
theorem dX0_meet_25 : decode cX0_meet 25 = .ok (.if_icmp .ge 41, 3) := by decide +kernel
theorem dX0_meet_28 : decode cX0_meet 28 = .ok (.aload_n 0, 1) := by decide +kernel
theorem dX0_meet_29 : decode cX0_meet 29 = .ok (.getfield 12, 3) := by decide +kernel
theorem dX0_meet_32 : decode cX0_meet 32 = .ok (.getfield 140, 3) := by decide +kernel
theorem dX0_meet_35 : decode cX0_meet 35 = .ok (.iload_n 3, 1) := by decide +kernel
theorem dX0_meet_36 : decode cX0_meet 36 = .ok (.aaload, 1) := by decide +kernel
theorem dX0_meet_37 : decode cX0_meet 37 = .ok (.iload_n 1, 1) := by decide +kernel
theorem dX0_meet_38 : decode cX0_meet 38 = .ok (.invokevirtual 185, 3) := by decide +kernel
theorem dX0_meet_41 : decode cX0_meet 41 = .ok (.ifCond .eq 19, 3) := by decide +kernel
theorem dX0_meet_44 : decode cX0_meet 44 = .ok (.iload_n 2, 1) := by decide +kernel
theorem dX0_meet_45 : decode cX0_meet 45 = .ok (.iconst (-1), 1) := by decide +kernel
theorem dX0_meet_46 : decode cX0_meet 46 = .ok (.if_icmp .ne 7, 3) := by decide +kernel
theorem dX0_meet_49 : decode cX0_meet 49 = .ok (.iload_n 3, 1) := by decide +kernel
theorem dX0_meet_50 : decode cX0_meet 50 = .ok (.goto 9, 3) := by decide +kernel
theorem dX0_meet_53 : decode cX0_meet 53 = .ok (.aload_n 0, 1) := by decide +kernel
theorem dX0_meet_54 : decode cX0_meet 54 = .ok (.iload_n 2, 1) := by decide +kernel
theorem dX0_meet_55 : decode cX0_meet 55 = .ok (.iload_n 3, 1) := by decide +kernel
theorem dX0_meet_56 : decode cX0_meet 56 = .ok (.invokevirtual 188, 3) := by decide +kernel
theorem dX0_meet_59 : decode cX0_meet 59 = .ok (.istore_n 2, 1) := by decide +kernel
theorem dX0_meet_60 : decode cX0_meet 60 = .ok (.iinc 3 1, 3) := by decide +kernel
theorem dX0_meet_63 : decode cX0_meet 63 = .ok (.goto (-46), 3) := by decide +kernel
theorem dX0_meet_66 : decode cX0_meet 66 = .ok (.iinc 1 1, 3) := by decide +kernel
theorem dX0_meet_69 : decode cX0_meet 69 = .ok (.goto (-67), 3) := by decide +kernel
theorem dX0_meet_72 : decode cX0_meet 72 = .ok (.return_, 1) := by decide +kernel
theorem dX0_whoStays_0 : decode cX0_whoStays 0 = .ok (.aload_n 0, 1) := by decide +kernel
theorem dX0_whoStays_1 : decode cX0_whoStays 1 = .ok (.getfield 12, 3) := by decide +kernel
theorem dX0_whoStays_4 : decode cX0_whoStays 4 = .ok (.getfield 140, 3) := by decide +kernel
theorem dX0_whoStays_7 : decode cX0_whoStays 7 = .ok (.iload_n 2, 1) := by decide +kernel
theorem dX0_whoStays_8 : decode cX0_whoStays 8 = .ok (.aaload, 1) := by decide +kernel
theorem dX0_whoStays_9 : decode cX0_whoStays 9 = .ok (.getfield 92, 3) := by decide +kernel
theorem dX0_whoStays_12 : decode cX0_whoStays 12 = .ok (.aload_n 0, 1) := by decide +kernel
theorem dX0_whoStays_13 : decode cX0_whoStays 13 = .ok (.getfield 12, 3) := by decide +kernel
theorem dX0_whoStays_16 : decode cX0_whoStays 16 = .ok (.getfield 140, 3) := by decide +kernel
theorem dX0_whoStays_19 : decode cX0_whoStays 19 = .ok (.iload_n 1, 1) := by decide +kernel
theorem dX0_whoStays_20 : decode cX0_whoStays 20 = .ok (.aaload, 1) := by decide +kernel
theorem dX0_whoStays_21 : decode cX0_whoStays 21 = .ok (.getfield 92, 3) := by decide +kernel
theorem dX0_whoStays_24 : decode cX0_whoStays 24 = .ok (.if_icmp .le 7, 3) := by decide +kernel
theorem dX0_whoStays_27 : decode cX0_whoStays 27 = .ok (.iconst 1, 1) := by decide +kernel
theorem dX0_whoStays_28 : decode cX0_whoStays 28 = .ok (.goto 4, 3) := by decide +kernel
theorem dX0_whoStays_31 : decode cX0_whoStays 31 = .ok (.iconst 0, 1) := by decide +kernel
theorem dX0_whoStays_32 : decode cX0_whoStays 32 = .ok (.istore_n 3, 1) := by decide +kernel
theorem dX0_whoStays_33 : decode cX0_whoStays 33 = .ok (.iload_n 3, 1) := by decide +kernel
theorem dX0_whoStays_34 : decode cX0_whoStays 34 = .ok (.ifCond .eq 7, 3) := by decide +kernel
theorem dX0_whoStays_37 : decode cX0_whoStays 37 = .ok (.iload_n 2, 1) := by decide +kernel
theorem dX0_whoStays_38 : decode cX0_whoStays 38 = .ok (.goto 4, 3) := by decide +kernel
theorem dX0_whoStays_41 : decode cX0_whoStays 41 = .ok (.iload_n 1, 1) := by decide +kernel
theorem dX0_whoStays_42 : decode cX0_whoStays 42 = .ok (.istore 4, 2) := by decide +kernel
theorem dX0_whoStays_44 : decode cX0_whoStays 44 = .ok (.aload_n 0, 1) := by decide +kernel
theorem dX0_whoStays_45 : decode cX0_whoStays 45 = .ok (.getfield 12, 3) := by decide +kernel
theorem dX0_whoStays_48 : decode cX0_whoStays 48 = .ok (.getfield 140, 3) := by decide +kernel
theorem dX0_whoStays_51 : decode cX0_whoStays 51 = .ok (.iload 4, 2) := by decide +kernel
theorem dX0_whoStays_53 : decode cX0_whoStays 53 = .ok (.aaload, 1) := by decide +kernel
theorem dX0_whoStays_54 : decode cX0_whoStays 54 = .ok (.astore 5, 2) := by decide +kernel
theorem dX0_whoStays_56 : decode cX0_whoStays 56 = .ok (.aload_n 0, 1) := by decide +kernel
theorem dX0_whoStays_57 : decode cX0_whoStays 57 = .ok (.getfield 12, 3) := by decide +kernel
theorem dX0_whoStays_60 : decode cX0_whoStays 60 = .ok (.getfield 140, 3) := by decide +kernel
theorem dX0_whoStays_63 : decode cX0_whoStays 63 = .ok (.iload_n 3, 1) := by decide +kernel
theorem dX0_whoStays_64 : decode cX0_whoStays 64 = .ok (.ifCond .eq 7, 3) := by decide +kernel
theorem dX0_whoStays_67 : decode cX0_whoStays 67 = .ok (.iload_n 1, 1) := by decide +kernel
theorem dX0_whoStays_68 : decode cX0_whoStays 68 = .ok (.goto 4, 3) := by decide +kernel
theorem dX0_whoStays_71 : decode cX0_whoStays 71 = .ok (.iload_n 2, 1) := by decide +kernel
theorem dX0_whoStays_72 : decode cX0_whoStays 72 = .ok (.aaload, 1) := by decide +kernel
theorem dX0_whoStays_73 : decode cX0_whoStays 73 = .ok (.astore 6, 2) := by decide +kernel
theorem dX0_whoStays_75 : decode cX0_whoStays 75 = .ok (.aload_n 0, 1) := by decide +kernel
theorem dX0_whoStays_76 : decode cX0_whoStays 76 = .ok (.getfield 12, 3) := by decide +kernel
theorem dX0_whoStays_79 : decode cX0_whoStays 79 = .ok (.dup, 1) := by decide +kernel
theorem dX0_whoStays_80 : decode cX0_whoStays 80 = .ok (.getfield 105, 3) := by decide +kernel
theorem dX0_whoStays_83 : decode cX0_whoStays 83 = .ok (.iconst 1, 1) := by decide +kernel
theorem dX0_whoStays_84 : decode cX0_whoStays 84 = .ok (.isub, 1) := by decide +kernel
theorem dX0_whoStays_85 : decode cX0_whoStays 85 = .ok (.putfield 105, 3) := by decide +kernel
theorem dX0_whoStays_88 : decode cX0_whoStays 88 = .ok (.aload 6, 2) := by decide +kernel
theorem dX0_whoStays_90 : decode cX0_whoStays 90 = .ok (.getfield 92, 3) := by decide +kernel
theorem dX0_whoStays_93 : decode cX0_whoStays 93 = .ok (.bipush 100, 2) := by decide +kernel
theorem dX0_whoStays_95 : decode cX0_whoStays 95 = .ok (.imul, 1) := by decide +kernel
theorem dX0_whoStays_96 : decode cX0_whoStays 96 = .ok (.aload 5, 2) := by decide +kernel
theorem dX0_whoStays_98 : decode cX0_whoStays 98 = .ok (.getfield 92, 3) := by decide +kernel
theorem dX0_whoStays_101 : decode cX0_whoStays 101 = .ok (.aload_n 0, 1) := by decide +kernel
theorem dX0_whoStays_102 : decode cX0_whoStays 102 = .ok (.getfield 25, 3) := by decide +kernel
theorem dX0_whoStays_105 : decode cX0_whoStays 105 = .ok (.imul, 1) := by decide +kernel
theorem dX0_whoStays_106 : decode cX0_whoStays 106 = .ok (.if_icmp .lt 29, 3) := by decide +kernel
theorem dX0_whoStays_109 : decode cX0_whoStays 109 = .ok (.aload 6, 2) := by decide +kernel
theorem dX0_whoStays_111 : decode cX0_whoStays 111 = .ok (.iconst 3, 1) := by decide +kernel
theorem dX0_whoStays_112 : decode cX0_whoStays 112 = .ok (.putfield 144, 3) := by decide +kernel
theorem dX0_whoStays_115 : decode cX0_whoStays 115 = .ok (.aload_n 0, 1) := by decide +kernel
theorem dX0_whoStays_116 : decode cX0_whoStays 116 = .ok (.getfield 12, 3) := by decide +kernel
theorem dX0_whoStays_119 : decode cX0_whoStays 119 = .ok (.dup, 1) := by decide +kernel
theorem dX0_whoStays_120 : decode cX0_whoStays 120 = .ok (.getfield 191, 3) := by decide +kernel
theorem dX0_whoStays_123 : decode cX0_whoStays 123 = .ok (.aload 6, 2) := by decide +kernel
theorem dX0_whoStays_125 : decode cX0_whoStays 125 = .ok (.getfield 92, 3) := by decide +kernel
theorem dX0_whoStays_128 : decode cX0_whoStays 128 = .ok (.iadd, 1) := by decide +kernel
theorem dX0_whoStays_129 : decode cX0_whoStays 129 = .ok (.putfield 191, 3) := by decide +kernel
theorem dX0_whoStays_132 : decode cX0_whoStays 132 = .ok (.goto 23, 3) := by decide +kernel
theorem dX0_whoStays_135 : decode cX0_whoStays 135 = .ok (.aload 6, 2) := by decide +kernel
theorem dX0_whoStays_137 : decode cX0_whoStays 137 = .ok (.iconst 1, 1) := by decide +kernel
theorem dX0_whoStays_138 : decode cX0_whoStays 138 = .ok (.putfield 144, 3) := by decide +kernel
theorem dX0_whoStays_141 : decode cX0_whoStays 141 = .ok (.aload 6, 2) := by decide +kernel
theorem dX0_whoStays_143 : decode cX0_whoStays 143 = .ok (.iload 4, 2) := by decide +kernel
theorem dX0_whoStays_145 : decode cX0_whoStays 145 = .ok (.putfield 194, 3) := by decide +kernel
theorem dX0_whoStays_148 : decode cX0_whoStays 148 = .ok (.aload 5, 2) := by decide +kernel
theorem dX0_whoStays_150 : decode cX0_whoStays 150 = .ok (.aload 6, 2) := by decide +kernel
theorem dX0_whoStays_152 : decode cX0_whoStays 152 = .ok (.invokevirtual 197, 3) := by decide +kernel
theorem dX0_whoStays_155 : decode cX0_whoStays 155 = .ok (.iload 4, 2) := by decide +kernel
theorem dX0_whoStays_157 : decode cX0_whoStays 157 = .ok (.ireturn, 1) := by decide +kernel
theorem dX1_init_0 : decode cX1_init 0 = .ok (.aload_n 0, 1) := by decide +kernel
theorem dX1_init_1 : decode cX1_init 1 = .ok (.invokespecial 3, 3) := by decide +kernel
theorem dX1_init_4 : decode cX1_init 4 = .ok (.aload_n 0, 1) := by decide +kernel
theorem dX1_init_5 : decode cX1_init 5 = .ok (.bipush 12, 2) := by decide +kernel
theorem dX1_init_7 : decode cX1_init 7 = .ok (.newarray .int, 2) := by decide +kernel
theorem dX1_init_9 : decode cX1_init 9 = .ok (.putfield 9, 3) := by decide +kernel
theorem dX1_init_12 : decode cX1_init 12 = .ok (.aload_n 0, 1) := by decide +kernel
theorem dX1_init_13 : decode cX1_init 13 = .ok (.bipush 12, 2) := by decide +kernel
theorem dX1_init_15 : decode cX1_init 15 = .ok (.newarray .int, 2) := by decide +kernel
theorem dX1_init_17 : decode cX1_init 17 = .ok (.putfield 15, 3) := by decide +kernel
theorem dX1_init_20 : decode cX1_init 20 = .ok (.aload_n 0, 1) := by decide +kernel
theorem dX1_init_21 : decode cX1_init 21 = .ok (.bipush 12, 2) := by decide +kernel
theorem dX1_init_23 : decode cX1_init 23 = .ok (.newarray .int, 2) := by decide +kernel
theorem dX1_init_25 : decode cX1_init 25 = .ok (.putfield 18, 3) := by decide +kernel
theorem dX1_init_28 : decode cX1_init 28 = .ok (.aload_n 0, 1) := by decide +kernel
theorem dX1_init_29 : decode cX1_init 29 = .ok (.bipush 60, 2) := by decide +kernel
theorem dX1_init_31 : decode cX1_init 31 = .ok (.newarray .int, 2) := by decide +kernel
theorem dX1_init_33 : decode cX1_init 33 = .ok (.putfield 21, 3) := by decide +kernel
theorem dX1_init_36 : decode cX1_init 36 = .ok (.aload_n 0, 1) := by decide +kernel
theorem dX1_init_37 : decode cX1_init 37 = .ok (.bipush 30, 2) := by decide +kernel
theorem dX1_init_39 : decode cX1_init 39 = .ok (.anewarray 24, 3) := by decide +kernel
theorem dX1_init_42 : decode cX1_init 42 = .ok (.putfield 26, 3) := by decide +kernel
theorem dX1_init_45 : decode cX1_init 45 = .ok (.iconst 0, 1) := by decide +kernel
theorem dX1_init_46 : decode cX1_init 46 = .ok (.istore_n 1, 1) := by decide +kernel
theorem dX1_init_47 : decode cX1_init 47 = .ok (.iload_n 1, 1) := by decide +kernel
theorem dX1_init_48 : decode cX1_init 48 = .ok (.bipush 30, 2) := by decide +kernel
theorem dX1_init_50 : decode cX1_init 50 = .ok (.if_icmp .ge 22, 3) := by decide +kernel
theorem dX1_init_53 : decode cX1_init 53 = .ok (.aload_n 0, 1) := by decide +kernel
theorem dX1_init_54 : decode cX1_init 54 = .ok (.getfield 26, 3) := by decide +kernel
theorem dX1_init_57 : decode cX1_init 57 = .ok (.iload_n 1, 1) := by decide +kernel
theorem dX1_init_58 : decode cX1_init 58 = .ok (.new 24, 3) := by decide +kernel
theorem dX1_init_61 : decode cX1_init 61 = .ok (.dup, 1) := by decide +kernel
theorem dX1_init_62 : decode cX1_init 62 = .ok (.invokespecial 30, 3) := by decide +kernel
theorem dX1_init_65 : decode cX1_init 65 = .ok (.aastore, 1) := by decide +kernel
theorem dX1_init_66 : decode cX1_init 66 = .ok (.iinc 1 1, 3) := by decide +kernel
theorem dX1_init_69 : decode cX1_init 69 = .ok (.goto (-22), 3) := by decide +kernel
theorem dX1_init_72 : decode cX1_init 72 = .ok (.aload_n 0, 1) := by decide +kernel
theorem dX1_init_73 : decode cX1_init 73 = .ok (.bipush 12, 2) := by decide +kernel
theorem dX1_init_75 : decode cX1_init 75 = .ok (.invokevirtual 31, 3) := by decide +kernel
theorem dX1_init_78 : decode cX1_init 78 = .ok (.return_, 1) := by decide +kernel
theorem dX1_clear_0 : decode cX1_clear 0 = .ok (.aload_n 0, 1) := by decide +kernel
theorem dX1_clear_1 : decode cX1_clear 1 = .ok (.iload_n 1, 1) := by decide +kernel
theorem dX1_clear_2 : decode cX1_clear 2 = .ok (.putfield 35, 3) := by decide +kernel
theorem dX1_clear_5 : decode cX1_clear 5 = .ok (.aload_n 0, 1) := by decide +kernel
theorem dX1_clear_6 : decode cX1_clear 6 = .ok (.iconst 0, 1) := by decide +kernel
theorem dX1_clear_7 : decode cX1_clear 7 = .ok (.putfield 39, 3) := by decide +kernel
theorem dX1_clear_10 : decode cX1_clear 10 = .ok (.aload_n 0, 1) := by decide +kernel
theorem dX1_clear_11 : decode cX1_clear 11 = .ok (.iconst 0, 1) := by decide +kernel
theorem dX1_clear_12 : decode cX1_clear 12 = .ok (.putfield 42, 3) := by decide +kernel
theorem dX1_clear_15 : decode cX1_clear 15 = .ok (.aload_n 0, 1) := by decide +kernel
theorem dX1_clear_16 : decode cX1_clear 16 = .ok (.iconst 0, 1) := by decide +kernel
theorem dX1_clear_17 : decode cX1_clear 17 = .ok (.putfield 45, 3) := by decide +kernel
theorem dX1_clear_20 : decode cX1_clear 20 = .ok (.aload_n 0, 1) := by decide +kernel
theorem dX1_clear_21 : decode cX1_clear 21 = .ok (.iconst 0, 1) := by decide +kernel
theorem dX1_clear_22 : decode cX1_clear 22 = .ok (.putfield 48, 3) := by decide +kernel
theorem dX1_clear_25 : decode cX1_clear 25 = .ok (.iconst 0, 1) := by decide +kernel
