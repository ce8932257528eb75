theorem dX6_dust_30 : decode cX6_dust 30 = .ok (.iload_n 3, 1) := by decide +kernel
theorem dX6_dust_31 : decode cX6_dust 31 = .ok (.iconst 0, 1) := by decide +kernel
theorem dX6_dust_32 : decode cX6_dust 32 = .ok (.ldc 83, 2) := by decide +kernel
theorem dX6_dust_34 : decode cX6_dust 34 = .ok (.invokestatic 71, 3) := by decide +kernel
theorem dX6_dust_37 : decode cX6_dust 37 = .ok (.ifCond .ne 5, 3) := by decide +kernel
theorem dX6_dust_40 : decode cX6_dust 40 = .ok (.iconst 0, 1) := by decide +kernel
theorem dX6_dust_41 : decode cX6_dust 41 = .ok (.ireturn, 1) := by decide +kernel
theorem dX6_dust_42 : decode cX6_dust 42 = .ok (.aload_n 0, 1) := by decide +kernel
theorem dX6_dust_43 : decode cX6_dust 43 = .ok (.getfield 10, 3) := by decide +kernel
theorem dX6_dust_46 : decode cX6_dust 46 = .ok (.getfield 93, 3) := by decide +kernel
theorem dX6_dust_49 : decode cX6_dust 49 = .ok (.iload_n 1, 1) := by decide +kernel
theorem dX6_dust_50 : decode cX6_dust 50 = .ok (.iconst 5, 1) := by decide +kernel
theorem dX6_dust_51 : decode cX6_dust 51 = .ok (.imul, 1) := by decide +kernel
theorem dX6_dust_52 : decode cX6_dust 52 = .ok (.iload_n 2, 1) := by decide +kernel
theorem dX6_dust_53 : decode cX6_dust 53 = .ok (.iadd, 1) := by decide +kernel
theorem dX6_dust_54 : decode cX6_dust 54 = .ok (.iload_n 3, 1) := by decide +kernel
theorem dX6_dust_55 : decode cX6_dust 55 = .ok (.iastore, 1) := by decide +kernel
theorem dX6_dust_56 : decode cX6_dust 56 = .ok (.iconst 1, 1) := by decide +kernel
theorem dX6_dust_57 : decode cX6_dust 57 = .ok (.ireturn, 1) := by decide +kernel
theorem dX6_star_0 : decode cX6_star 0 = .ok (.iload_n 1, 1) := by decide +kernel
theorem dX6_star_1 : decode cX6_star 1 = .ok (.iconst 0, 1) := by decide +kernel
theorem dX6_star_2 : decode cX6_star 2 = .ok (.ldc 83, 2) := by decide +kernel
theorem dX6_star_4 : decode cX6_star 4 = .ok (.invokestatic 71, 3) := by decide +kernel
theorem dX6_star_7 : decode cX6_star 7 = .ok (.ifCond .eq 23, 3) := by decide +kernel
theorem dX6_star_10 : decode cX6_star 10 = .ok (.iload_n 2, 1) := by decide +kernel
theorem dX6_star_11 : decode cX6_star 11 = .ok (.iconst 0, 1) := by decide +kernel
theorem dX6_star_12 : decode cX6_star 12 = .ok (.bipush 20, 2) := by decide +kernel
theorem dX6_star_14 : decode cX6_star 14 = .ok (.invokestatic 71, 3) := by decide +kernel
theorem dX6_star_17 : decode cX6_star 17 = .ok (.ifCond .eq 13, 3) := by decide +kernel
theorem dX6_star_20 : decode cX6_star 20 = .ok (.iload_n 3, 1) := by decide +kernel
theorem dX6_star_21 : decode cX6_star 21 = .ok (.iconst 1, 1) := by decide +kernel
theorem dX6_star_22 : decode cX6_star 22 = .ok (.bipush 101, 2) := by decide +kernel
theorem dX6_star_24 : decode cX6_star 24 = .ok (.invokestatic 71, 3) := by decide +kernel
theorem dX6_star_27 : decode cX6_star 27 = .ok (.ifCond .ne 5, 3) := by decide +kernel
theorem dX6_star_30 : decode cX6_star 30 = .ok (.iconst 0, 1) := by decide +kernel
theorem dX6_star_31 : decode cX6_star 31 = .ok (.ireturn, 1) := by decide +kernel
theorem dX6_star_32 : decode cX6_star 32 = .ok (.aload_n 0, 1) := by decide +kernel
theorem dX6_star_33 : decode cX6_star 33 = .ok (.getfield 10, 3) := by decide +kernel
theorem dX6_star_36 : decode cX6_star 36 = .ok (.iload_n 1, 1) := by decide +kernel
theorem dX6_star_37 : decode cX6_star 37 = .ok (.putfield 96, 3) := by decide +kernel
theorem dX6_star_40 : decode cX6_star 40 = .ok (.aload_n 0, 1) := by decide +kernel
theorem dX6_star_41 : decode cX6_star 41 = .ok (.getfield 30, 3) := by decide +kernel
theorem dX6_star_44 : decode cX6_star 44 = .ok (.iload_n 2, 1) := by decide +kernel
theorem dX6_star_45 : decode cX6_star 45 = .ok (.putfield 99, 3) := by decide +kernel
theorem dX6_star_48 : decode cX6_star 48 = .ok (.aload_n 0, 1) := by decide +kernel
theorem dX6_star_49 : decode cX6_star 49 = .ok (.getfield 30, 3) := by decide +kernel
theorem dX6_star_52 : decode cX6_star 52 = .ok (.iload_n 3, 1) := by decide +kernel
theorem dX6_star_53 : decode cX6_star 53 = .ok (.putfield 102, 3) := by decide +kernel
theorem dX6_star_56 : decode cX6_star 56 = .ok (.iconst 1, 1) := by decide +kernel
theorem dX6_star_57 : decode cX6_star 57 = .ok (.ireturn, 1) := by decide +kernel
theorem dX6_seed_0 : decode cX6_seed 0 = .ok (.iload_n 1, 1) := by decide +kernel
theorem dX6_seed_1 : decode cX6_seed 1 = .ok (.ifCond .ge 5, 3) := by decide +kernel
theorem dX6_seed_4 : decode cX6_seed 4 = .ok (.iconst 0, 1) := by decide +kernel
theorem dX6_seed_5 : decode cX6_seed 5 = .ok (.ireturn, 1) := by decide +kernel
theorem dX6_seed_6 : decode cX6_seed 6 = .ok (.aload_n 0, 1) := by decide +kernel
theorem dX6_seed_7 : decode cX6_seed 7 = .ok (.getfield 10, 3) := by decide +kernel
theorem dX6_seed_10 : decode cX6_seed 10 = .ok (.iload_n 1, 1) := by decide +kernel
theorem dX6_seed_11 : decode cX6_seed 11 = .ok (.i2l, 1) := by decide +kernel
theorem dX6_seed_12 : decode cX6_seed 12 = .ok (.putfield 105, 3) := by decide +kernel
theorem dX6_seed_15 : decode cX6_seed 15 = .ok (.iconst 1, 1) := by decide +kernel
theorem dX6_seed_16 : decode cX6_seed 16 = .ok (.ireturn, 1) := by decide +kernel
theorem dX6_feed_0 : decode cX6_feed 0 = .ok (.aload_n 0, 1) := by decide +kernel
theorem dX6_feed_1 : decode cX6_feed 1 = .ok (.getfield 23, 3) := by decide +kernel
theorem dX6_feed_4 : decode cX6_feed 4 = .ok (.lload_n 1, 1) := by decide +kernel
theorem dX6_feed_5 : decode cX6_feed 5 = .ok (.invokevirtual 109, 3) := by decide +kernel
theorem dX6_feed_8 : decode cX6_feed 8 = .ok (.aload_n 0, 1) := by decide +kernel
theorem dX6_feed_9 : decode cX6_feed 9 = .ok (.getfield 23, 3) := by decide +kernel
theorem dX6_feed_12 : decode cX6_feed 12 = .ok (.lload_n 3, 1) := by decide +kernel
theorem dX6_feed_13 : decode cX6_feed 13 = .ok (.invokevirtual 109, 3) := by decide +kernel
theorem dX6_feed_16 : decode cX6_feed 16 = .ok (.aload_n 0, 1) := by decide +kernel
theorem dX6_feed_17 : decode cX6_feed 17 = .ok (.getfield 23, 3) := by decide +kernel
theorem dX6_feed_20 : decode cX6_feed 20 = .ok (.lload 5, 2) := by decide +kernel
theorem dX6_feed_22 : decode cX6_feed 22 = .ok (.invokevirtual 109, 3) := by decide +kernel
theorem dX6_feed_25 : decode cX6_feed 25 = .ok (.aload_n 0, 1) := by decide +kernel
theorem dX6_feed_26 : decode cX6_feed 26 = .ok (.getfield 23, 3) := by decide +kernel
theorem dX6_feed_29 : decode cX6_feed 29 = .ok (.getfield 113, 3) := by decide +kernel
theorem dX6_feed_32 : decode cX6_feed 32 = .ok (.ireturn, 1) := by decide +kernel
theorem dX6_laws_0 : decode cX6_laws 0 = .ok (.aload_n 0, 1) := by decide +kernel
theorem dX6_laws_1 : decode cX6_laws 1 = .ok (.getfield 56, 3) := by decide +kernel
theorem dX6_laws_4 : decode cX6_laws 4 = .ok (.aload_n 0, 1) := by decide +kernel
theorem dX6_laws_5 : decode cX6_laws 5 = .ok (.getfield 48, 3) := by decide +kernel
theorem dX6_laws_8 : decode cX6_laws 8 = .ok (.invokevirtual 116, 3) := by decide +kernel
theorem dX6_laws_11 : decode cX6_laws 11 = .ok (.istore_n 1, 1) := by decide +kernel
theorem dX6_laws_12 : decode cX6_laws 12 = .ok (.aload_n 0, 1) := by decide +kernel
theorem dX6_laws_13 : decode cX6_laws 13 = .ok (.getfield 23, 3) := by decide +kernel
theorem dX6_laws_16 : decode cX6_laws 16 = .ok (.iconst 0, 1) := by decide +kernel
theorem dX6_laws_17 : decode cX6_laws 17 = .ok (.putfield 113, 3) := by decide +kernel
theorem dX6_laws_20 : decode cX6_laws 20 = .ok (.iload_n 1, 1) := by decide +kernel
theorem dX6_laws_21 : decode cX6_laws 21 = .ok (.ifCond .ne 37, 3) := by decide +kernel
theorem dX6_laws_24 : decode cX6_laws 24 = .ok (.aload_n 0, 1) := by decide +kernel
theorem dX6_laws_25 : decode cX6_laws 25 = .ok (.getfield 42, 3) := by decide +kernel
theorem dX6_laws_28 : decode cX6_laws 28 = .ok (.astore_n 2, 1) := by decide +kernel
theorem dX6_laws_29 : decode cX6_laws 29 = .ok (.aload_n 0, 1) := by decide +kernel
theorem dX6_laws_30 : decode cX6_laws 30 = .ok (.aload_n 0, 1) := by decide +kernel
theorem dX6_laws_31 : decode cX6_laws 31 = .ok (.getfield 48, 3) := by decide +kernel
theorem dX6_laws_34 : decode cX6_laws 34 = .ok (.putfield 42, 3) := by decide +kernel
theorem dX6_laws_37 : decode cX6_laws 37 = .ok (.aload_n 0, 1) := by decide +kernel
theorem dX6_laws_38 : decode cX6_laws 38 = .ok (.aload_n 2, 1) := by decide +kernel
theorem dX6_laws_39 : decode cX6_laws 39 = .ok (.putfield 48, 3) := by decide +kernel
theorem dX6_laws_42 : decode cX6_laws 42 = .ok (.aload_n 0, 1) := by decide +kernel
theorem dX6_laws_43 : decode cX6_laws 43 = .ok (.getfield 30, 3) := by decide +kernel
theorem dX6_laws_46 : decode cX6_laws 46 = .ok (.aload_n 0, 1) := by decide +kernel
theorem dX6_laws_47 : decode cX6_laws 47 = .ok (.getfield 42, 3) := by decide +kernel
theorem dX6_laws_50 : decode cX6_laws 50 = .ok (.putfield 38, 3) := by decide +kernel
theorem dX6_laws_53 : decode cX6_laws 53 = .ok (.aload_n 0, 1) := by decide +kernel
theorem dX6_laws_54 : decode cX6_laws 54 = .ok (.iconst 0, 1) := by decide +kernel
theorem dX6_laws_55 : decode cX6_laws 55 = .ok (.putfield 120, 3) := by decide +kernel
theorem dX6_laws_58 : decode cX6_laws 58 = .ok (.iload_n 1, 1) := by decide +kernel
theorem dX6_laws_59 : decode cX6_laws 59 = .ok (.ireturn, 1) := by decide +kernel
theorem dX6_end_0 : decode cX6_end 0 = .ok (.aload_n 0, 1) := by decide +kernel
theorem dX6_end_1 : decode cX6_end 1 = .ok (.iload_n 1, 1) := by decide +kernel
theorem dX6_end_2 : decode cX6_end 2 = .ok (.invokevirtual 123, 3) := by decide +kernel
theorem dX6_end_5 : decode cX6_end 5 = .ok (.ifCond .ne 5, 3) := by decide +kernel
theorem dX6_end_8 : decode cX6_end 8 = .ok (.iconst 0, 1) := by decide +kernel
theorem dX6_end_9 : decode cX6_end 9 = .ok (.ireturn, 1) := by decide +kernel
theorem dX6_end_10 : decode cX6_end 10 = .ok (.aload_n 0, 1) := by decide +kernel
theorem dX6_end_11 : decode cX6_end 11 = .ok (.iload_n 1, 1) := by decide +kernel
theorem dX6_end_12 : decode cX6_end 12 = .ok (.putfield 120, 3) := by decide +kernel
theorem dX6_end_15 : decode cX6_end 15 = .ok (.iconst 1, 1) := by decide +kernel
theorem dX6_end_16 : decode cX6_end 16 = .ok (.ireturn, 1) := by decide +kernel
theorem dX6_steps_0 : decode cX6_steps 0 = .ok (.iload_n 1, 1) := by decide +kernel
theorem dX6_steps_1 : decode cX6_steps 1 = .ok (.iconst 1, 1) := by decide +kernel
theorem dX6_steps_2 : decode cX6_steps 2 = .ok (.bipush 100, 2) := by decide +kernel
theorem dX6_steps_4 : decode cX6_steps 4 = .ok (.invokestatic 71, 3) := by decide +kernel
theorem dX6_steps_7 : decode cX6_steps 7 = .ok (.ifCond .eq 18, 3) := by decide +kernel
theorem dX6_steps_10 : decode cX6_steps 10 = .ok (.aload_n 0, 1) := by decide +kernel
theorem dX6_steps_11 : decode cX6_steps 11 = .ok (.getfield 10, 3) := by decide +kernel
theorem dX6_steps_14 : decode cX6_steps 14 = .ok (.getfield 67, 3) := by decide +kernel
theorem dX6_steps_17 : decode cX6_steps 17 = .ok (.iload_n 1, 1) := by decide +kernel
theorem dX6_steps_18 : decode cX6_steps 18 = .ok (.iadd, 1) := by decide +kernel
theorem dX6_steps_19 : decode cX6_steps 19 = .ok (.sipush 9999, 3) := by decide +kernel
theorem dX6_steps_22 : decode cX6_steps 22 = .ok (.if_icmp .le 5, 3) := by decide +kernel
theorem dX6_steps_25 : decode cX6_steps 25 = .ok (.iconst (-1), 1) := by decide +kernel
theorem dX6_steps_26 : decode cX6_steps 26 = .ok (.ireturn, 1) := by decide +kernel
theorem dX6_steps_27 : decode cX6_steps 27 = .ok (.aload_n 0, 1) := by decide +kernel
theorem dX6_steps_28 : decode cX6_steps 28 = .ok (.getfield 30, 3) := by decide +kernel
theorem dX6_steps_31 : decode cX6_steps 31 = .ok (.aload_n 0, 1) := by decide +kernel
theorem dX6_steps_32 : decode cX6_steps 32 = .ok (.getfield 10, 3) := by decide +kernel
theorem dX6_steps_35 : decode cX6_steps 35 = .ok (.aload_n 0, 1) := by decide +kernel
theorem dX6_steps_36 : decode cX6_steps 36 = .ok (.getfield 120, 3) := by decide +kernel
theorem dX6_steps_39 : decode cX6_steps 39 = .ok (.invokevirtual 126, 3) := by decide +kernel
theorem dX6_steps_42 : decode cX6_steps 42 = .ok (.aload_n 0, 1) := by decide +kernel
theorem dX6_steps_43 : decode cX6_steps 43 = .ok (.getfield 30, 3) := by decide +kernel
theorem dX6_steps_46 : decode cX6_steps 46 = .ok (.iload_n 1, 1) := by decide +kernel
theorem dX6_steps_47 : decode cX6_steps 47 = .ok (.invokevirtual 130, 3) := by decide +kernel
theorem dX6_steps_50 : decode cX6_steps 50 = .ok (.aload_n 0, 1) := by decide +kernel
theorem dX6_steps_51 : decode cX6_steps 51 = .ok (.getfield 10, 3) := by decide +kernel
theorem dX6_steps_54 : decode cX6_steps 54 = .ok (.getfield 67, 3) := by decide +kernel
theorem dX6_steps_57 : decode cX6_steps 57 = .ok (.ireturn, 1) := by decide +kernel
theorem dX6_has_0 : decode cX6_has 0 = .ok (.aload_n 0, 1) := by decide +kernel
theorem dX6_has_1 : decode cX6_has 1 = .ok (.getfield 10, 3) := by decide +kernel
theorem dX6_has_4 : decode cX6_has 4 = .ok (.iload_n 1, 1) := by decide +kernel
theorem dX6_has_5 : decode cX6_has 5 = .ok (.invokevirtual 79, 3) := by decide +kernel
theorem dX6_has_8 : decode cX6_has 8 = .ok (.ifCond .eq 13, 3) := by decide +kernel
theorem dX6_has_11 : decode cX6_has 11 = .ok (.iload_n 2, 1) := by decide +kernel
theorem dX6_has_12 : decode cX6_has 12 = .ok (.iconst 0, 1) := by decide +kernel
theorem dX6_has_13 : decode cX6_has 13 = .ok (.bipush 7, 2) := by decide +kernel
theorem dX6_has_15 : decode cX6_has 15 = .ok (.invokestatic 71, 3) := by decide +kernel
theorem dX6_has_18 : decode cX6_has 18 = .ok (.ifCond .ne 11, 3) := by decide +kernel
theorem dX6_has_21 : decode cX6_has 21 = .ok (.new 133, 3) := by decide +kernel
theorem dX6_has_24 : decode cX6_has 24 = .ok (.dup, 1) := by decide +kernel
theorem dX6_has_25 : decode cX6_has 25 = .ok (.invokespecial 135, 3) := by decide +kernel
theorem dX6_has_28 : decode cX6_has 28 = .ok (.athrow, 1) := by decide +kernel
theorem dX6_has_29 : decode cX6_has 29 = .ok (.iload_n 2, 1) := by decide +kernel
theorem dX6_has_30 : decode cX6_has 30 = .ok (.tableswitch 62 5 7 #[26, 36, 45], 26) := by decide +kernel
theorem dX6_has_56 : decode cX6_has 56 = .ok (.aload_n 0, 1) := by decide +kernel
theorem dX6_has_57 : decode cX6_has 57 = .ok (.getfield 10, 3) := by decide +kernel
theorem dX6_has_60 : decode cX6_has 60 = .ok (.getfield 84, 3) := by decide +kernel
theorem dX6_has_63 : decode cX6_has 63 = .ok (.iload_n 1, 1) := by decide +kernel
theorem dX6_has_64 : decode cX6_has 64 = .ok (.iaload, 1) := by decide +kernel
theorem dX6_has_65 : decode cX6_has 65 = .ok (.ireturn, 1) := by decide +kernel
theorem dX6_has_66 : decode cX6_has 66 = .ok (.aload_n 0, 1) := by decide +kernel
theorem dX6_has_67 : decode cX6_has 67 = .ok (.getfield 10, 3) := by decide +kernel
theorem dX6_has_70 : decode cX6_has 70 = .ok (.iload_n 1, 1) := by decide +kernel
theorem dX6_has_71 : decode cX6_has 71 = .ok (.invokevirtual 136, 3) := by decide +kernel
theorem dX6_has_74 : decode cX6_has 74 = .ok (.ireturn, 1) := by decide +kernel
theorem dX6_has_75 : decode cX6_has 75 = .ok (.aload_n 0, 1) := by decide +kernel
theorem dX6_has_76 : decode cX6_has 76 = .ok (.getfield 10, 3) := by decide +kernel
theorem dX6_has_79 : decode cX6_has 79 = .ok (.iload_n 1, 1) := by decide +kernel
theorem dX6_has_80 : decode cX6_has 80 = .ok (.invokevirtual 140, 3) := by decide +kernel
theorem dX6_has_83 : decode cX6_has 83 = .ok (.ifCond .eq 7, 3) := by decide +kernel
theorem dX6_has_86 : decode cX6_has 86 = .ok (.iconst 1, 1) := by decide +kernel
theorem dX6_has_87 : decode cX6_has 87 = .ok (.goto 4, 3) := by decide +kernel
theorem dX6_has_90 : decode cX6_has 90 = .ok (.iconst 0, 1) := by decide +kernel
theorem dX6_has_91 : decode cX6_has 91 = .ok (.ireturn, 1) := by decide +kernel
theorem dX6_has_92 : decode cX6_has 92 = .ok (.aload_n 0, 1) := by decide +kernel
theorem dX6_has_93 : decode cX6_has 93 = .ok (.getfield 10, 3) := by decide +kernel
theorem dX6_has_96 : decode cX6_has 96 = .ok (.getfield 93, 3) := by decide +kernel
theorem dX6_has_99 : decode cX6_has 99 = .ok (.iload_n 1, 1) := by decide +kernel
theorem dX6_has_100 : decode cX6_has 100 = .ok (.iconst 5, 1) := by decide +kernel
theorem dX6_has_101 : decode cX6_has 101 = .ok (.imul, 1) := by decide +kernel
theorem dX6_has_102 : decode cX6_has 102 = .ok (.iload_n 2, 1) := by decide +kernel
theorem dX6_has_103 : decode cX6_has 103 = .ok (.iadd, 1) := by decide +kernel
theorem dX6_has_104 : decode cX6_has 104 = .ok (.iaload, 1) := by decide +kernel
theorem dX6_has_105 : decode cX6_has 105 = .ok (.ireturn, 1) := by decide +kernel
theorem dX6_look_0 : decode cX6_look 0 = .ok (.aload_n 0, 1) := by decide +kernel
theorem dX6_look_1 : decode cX6_look 1 = .ok (.getfield 10, 3) := by decide +kernel
theorem dX6_look_4 : decode cX6_look 4 = .ok (.iload_n 1, 1) := by decide +kernel
theorem dX6_look_5 : decode cX6_look 5 = .ok (.invokevirtual 143, 3) := by decide +kernel
theorem dX6_look_8 : decode cX6_look 8 = .ok (.ifCond .ne 5, 3) := by decide +kernel
theorem dX6_look_11 : decode cX6_look 11 = .ok (.iconst (-1), 1) := by decide +kernel
theorem dX6_look_12 : decode cX6_look 12 = .ok (.ireturn, 1) := by decide +kernel
theorem dX6_look_13 : decode cX6_look 13 = .ok (.aload_n 0, 1) := by decide +kernel
theorem dX6_look_14 : decode cX6_look 14 = .ok (.getfield 10, 3) := by decide +kernel
theorem dX6_look_17 : decode cX6_look 17 = .ok (.getfield 146, 3) := by decide +kernel
theorem dX6_look_20 : decode cX6_look 20 = .ok (.iload_n 1, 1) := by decide +kernel
theorem dX6_look_21 : decode cX6_look 21 = .ok (.aaload, 1) := by decide +kernel
theorem dX6_look_22 : decode cX6_look 22 = .ok (.astore_n 3, 1) := by decide +kernel
theorem dX6_look_23 : decode cX6_look 23 = .ok (.iload_n 2, 1) := by decide +kernel
theorem dX6_look_24 : decode cX6_look 24 = .ok (.tableswitch 148 0 9 #[56, 61, 66, 71, 76, 88, 116, 121, 138, 143], 56) := by decide +kernel
theorem dX6_look_80 : decode cX6_look 80 = .ok (.aload_n 3, 1) := by decide +kernel
theorem dX6_look_81 : decode cX6_look 81 = .ok (.getfield 150, 3) := by decide +kernel
theorem dX6_look_84 : decode cX6_look 84 = .ok (.ireturn, 1) := by decide +kernel
theorem dX6_look_85 : decode cX6_look 85 = .ok (.aload_n 3, 1) := by decide +kernel
theorem dX6_look_86 : decode cX6_look 86 = .ok (.getfield 155, 3) := by decide +kernel
theorem dX6_look_89 : decode cX6_look 89 = .ok (.ireturn, 1) := by decide +kernel
theorem dX6_look_90 : decode cX6_look 90 = .ok (.aload_n 3, 1) := by decide +kernel
theorem dX6_look_91 : decode cX6_look 91 = .ok (.getfield 158, 3) := by decide +kernel
theorem dX6_look_94 : decode cX6_look 94 = .ok (.ireturn, 1) := by decide +kernel
theorem dX6_look_95 : decode cX6_look 95 = .ok (.aload_n 3, 1) := by decide +kernel
theorem dX6_look_96 : decode cX6_look 96 = .ok (.getfield 161, 3) := by decide +kernel
theorem dX6_look_99 : decode cX6_look 99 = .ok (.ireturn, 1) := by decide +kernel
theorem dX6_look_100 : decode cX6_look 100 = .ok (.aload_n 3, 1) := by decide +kernel
theorem dX6_look_101 : decode cX6_look 101 = .ok (.aload_n 0, 1) := by decide +kernel
theorem dX6_look_102 : decode cX6_look 102 = .ok (.getfield 10, 3) := by decide +kernel
theorem dX6_look_105 : decode cX6_look 105 = .ok (.getfield 163, 3) := by decide +kernel
theorem dX6_look_108 : decode cX6_look 108 = .ok (.invokevirtual 166, 3) := by decide +kernel
theorem dX6_look_111 : decode cX6_look 111 = .ok (.ireturn, 1) := by decide +kernel
theorem dX6_look_112 : decode cX6_look 112 = .ok (.aload_n 3, 1) := by decide +kernel
theorem dX6_look_113 : decode cX6_look 113 = .ok (.getfield 150, 3) := by decide +kernel
theorem dX6_look_116 : decode cX6_look 116 = .ok (.ifCond .eq 7, 3) := by decide +kernel
theorem dX6_look_119 : decode cX6_look 119 = .ok (.iconst (-1), 1) := by decide +kernel
theorem dX6_look_120 : decode cX6_look 120 = .ok (.goto 19, 3) := by decide +kernel
theorem dX6_look_123 : decode cX6_look 123 = .ok (.aload_n 0, 1) := by decide +kernel
theorem dX6_look_124 : decode cX6_look 124 = .ok (.getfield 10, 3) := by decide +kernel
theorem dX6_look_127 : decode cX6_look 127 = .ok (.aload_n 3, 1) := by decide +kernel
theorem dX6_look_128 : decode cX6_look 128 = .ok (.invokevirtual 169, 3) := by decide +kernel
theorem dX6_look_131 : decode cX6_look 131 = .ok (.ifCond .eq 7, 3) := by decide +kernel
theorem dX6_look_134 : decode cX6_look 134 = .ok (.iconst 1, 1) := by decide +kernel
theorem dX6_look_135 : decode cX6_look 135 = .ok (.goto 4, 3) := by decide +kernel
theorem dX6_look_138 : decode cX6_look 138 = .ok (.iconst 0, 1) := by decide +kernel
theorem dX6_look_139 : decode cX6_look 139 = .ok (.ireturn, 1) := by decide +kernel
theorem dX6_look_140 : decode cX6_look 140 = .ok (.aload_n 3, 1) := by decide +kernel
theorem dX6_look_141 : decode cX6_look 141 = .ok (.getfield 173, 3) := by decide +kernel
theorem dX6_look_144 : decode cX6_look 144 = .ok (.ireturn, 1) := by decide +kernel
theorem dX6_look_145 : decode cX6_look 145 = .ok (.aload_n 3, 1) := by decide +kernel
theorem dX6_look_146 : decode cX6_look 146 = .ok (.getfield 150, 3) := by decide +kernel
theorem dX6_look_149 : decode cX6_look 149 = .ok (.ifCond .eq 7, 3) := by decide +kernel
theorem dX6_look_152 : decode cX6_look 152 = .ok (.iconst (-1), 1) := by decide +kernel
theorem dX6_look_153 : decode cX6_look 153 = .ok (.goto 8, 3) := by decide +kernel
theorem dX6_look_156 : decode cX6_look 156 = .ok (.aload_n 0, 1) := by decide +kernel
theorem dX6_look_157 : decode cX6_look 157 = .ok (.aload_n 3, 1) := by decide +kernel
theorem dX6_look_158 : decode cX6_look 158 = .ok (.invokevirtual 176, 3) := by decide +kernel
theorem dX6_look_161 : decode cX6_look 161 = .ok (.ireturn, 1) := by decide +kernel
theorem dX6_look_162 : decode cX6_look 162 = .ok (.aload_n 3, 1) := by decide +kernel
theorem dX6_look_163 : decode cX6_look 163 = .ok (.getfield 180, 3) := by decide +kernel
theorem dX6_look_166 : decode cX6_look 166 = .ok (.ireturn, 1) := by decide +kernel
theorem dX6_look_167 : decode cX6_look 167 = .ok (.aload_n 3, 1) := by decide +kernel
theorem dX6_look_168 : decode cX6_look 168 = .ok (.getfield 183, 3) := by decide +kernel
theorem dX6_look_171 : decode cX6_look 171 = .ok (.ireturn, 1) := by decide +kernel
theorem dX6_look_172 : decode cX6_look 172 = .ok (.iconst (-1), 1) := by decide +kernel
theorem dX6_look_173 : decode cX6_look 173 = .ok (.ireturn, 1) := by decide +kernel
theorem dX6_made_0 : decode cX6_made 0 = .ok (.aload_n 0, 1) := by decide +kernel
theorem dX6_made_1 : decode cX6_made 1 = .ok (.getfield 10, 3) := by decide +kernel
theorem dX6_made_4 : decode cX6_made 4 = .ok (.iload_n 1, 1) := by decide +kernel
theorem dX6_made_5 : decode cX6_made 5 = .ok (.invokevirtual 143, 3) := by decide +kernel
theorem dX6_made_8 : decode cX6_made 8 = .ok (.ifCond .eq 31, 3) := by decide +kernel
theorem dX6_made_11 : decode cX6_made 11 = .ok (.aload_n 0, 1) := by decide +kernel
theorem dX6_made_12 : decode cX6_made 12 = .ok (.getfield 10, 3) := by decide +kernel
theorem dX6_made_15 : decode cX6_made 15 = .ok (.iload_n 2, 1) := by decide +kernel
theorem dX6_made_16 : decode cX6_made 16 = .ok (.invokevirtual 79, 3) := by decide +kernel
theorem dX6_made_19 : decode cX6_made 19 = .ok (.ifCond .eq 20, 3) := by decide +kernel
theorem dX6_made_22 : decode cX6_made 22 = .ok (.aload_n 0, 1) := by decide +kernel
theorem dX6_made_23 : decode cX6_made 23 = .ok (.getfield 10, 3) := by decide +kernel
theorem dX6_made_26 : decode cX6_made 26 = .ok (.getfield 146, 3) := by decide +kernel
theorem dX6_made_29 : decode cX6_made 29 = .ok (.iload_n 1, 1) := by decide +kernel
theorem dX6_made_30 : decode cX6_made 30 = .ok (.aaload, 1) := by decide +kernel
theorem dX6_made_31 : decode cX6_made 31 = .ok (.getfield 186, 3) := by decide +kernel
theorem dX6_made_34 : decode cX6_made 34 = .ok (.iload_n 2, 1) := by decide +kernel
theorem dX6_made_35 : decode cX6_made 35 = .ok (.iaload, 1) := by decide +kernel
theorem dX6_made_36 : decode cX6_made 36 = .ok (.goto 4, 3) := by decide +kernel
theorem dX6_made_39 : decode cX6_made 39 = .ok (.iconst (-1), 1) := by decide +kernel
theorem dX6_made_40 : decode cX6_made 40 = .ok (.ireturn, 1) := by decide +kernel
theorem dX6_parts_0 : decode cX6_parts 0 = .ok (.iload_n 1, 1) := by decide +kernel
theorem dX6_parts_1 : decode cX6_parts 1 = .ok (.tableswitch 103 0 4 #[35, 43, 51, 60, 69], 35) := by decide +kernel
theorem dX6_parts_36 : decode cX6_parts 36 = .ok (.aload_n 0, 1) := by decide +kernel
theorem dX6_parts_37 : decode cX6_parts 37 = .ok (.getfield 10, 3) := by decide +kernel
theorem dX6_parts_40 : decode cX6_parts 40 = .ok (.invokevirtual 189, 3) := by decide +kernel
theorem dX6_parts_43 : decode cX6_parts 43 = .ok (.lreturn, 1) := by decide +kernel
theorem dX6_parts_44 : decode cX6_parts 44 = .ok (.aload_n 0, 1) := by decide +kernel
theorem dX6_parts_45 : decode cX6_parts 45 = .ok (.getfield 10, 3) := by decide +kernel
theorem dX6_parts_48 : decode cX6_parts 48 = .ok (.invokevirtual 193, 3) := by decide +kernel
theorem dX6_parts_51 : decode cX6_parts 51 = .ok (.lreturn, 1) := by decide +kernel
theorem dX6_parts_52 : decode cX6_parts 52 = .ok (.aload_n 0, 1) := by decide +kernel
theorem dX6_parts_53 : decode cX6_parts 53 = .ok (.getfield 10, 3) := by decide +kernel
theorem dX6_parts_56 : decode cX6_parts 56 = .ok (.getfield 196, 3) := by decide +kernel
theorem dX6_parts_59 : decode cX6_parts 59 = .ok (.i2l, 1) := by decide +kernel
theorem dX6_parts_60 : decode cX6_parts 60 = .ok (.lreturn, 1) := by decide +kernel
theorem dX6_parts_61 : decode cX6_parts 61 = .ok (.aload_n 0, 1) := by decide +kernel
theorem dX6_parts_62 : decode cX6_parts 62 = .ok (.getfield 10, 3) := by decide +kernel
theorem dX6_parts_65 : decode cX6_parts 65 = .ok (.getfield 199, 3) := by decide +kernel
theorem dX6_parts_68 : decode cX6_parts 68 = .ok (.i2l, 1) := by decide +kernel
theorem dX6_parts_69 : decode cX6_parts 69 = .ok (.lreturn, 1) := by decide +kernel
theorem dX6_parts_70 : decode cX6_parts 70 = .ok (.aload_n 0, 1) := by decide +kernel
theorem dX6_parts_71 : decode cX6_parts 71 = .ok (.getfield 10, 3) := by decide +kernel
theorem dX6_parts_74 : decode cX6_parts 74 = .ok (.invokevirtual 189, 3) := by decide +kernel
theorem dX6_parts_77 : decode cX6_parts 77 = .ok (.aload_n 0, 1) := by decide +kernel
theorem dX6_parts_78 : decode cX6_parts 78 = .ok (.getfield 10, 3) := by decide +kernel
theorem dX6_parts_81 : decode cX6_parts 81 = .ok (.invokevirtual 193, 3) := by decide +kernel
theorem dX6_parts_84 : decode cX6_parts 84 = .ok (.ladd, 1) := by decide +kernel
theorem dX6_parts_85 : decode cX6_parts 85 = .ok (.aload_n 0, 1) := by decide +kernel
theorem dX6_parts_86 : decode cX6_parts 86 = .ok (.getfield 10, 3) := by decide +kernel
theorem dX6_parts_89 : decode cX6_parts 89 = .ok (.getfield 196, 3) := by decide +kernel
theorem dX6_parts_92 : decode cX6_parts 92 = .ok (.i2l, 1) := by decide +kernel
theorem dX6_parts_93 : decode cX6_parts 93 = .ok (.ladd, 1) := by decide +kernel
theorem dX6_parts_94 : decode cX6_parts 94 = .ok (.aload_n 0, 1) := by decide +kernel
theorem dX6_parts_95 : decode cX6_parts 95 = .ok (.getfield 10, 3) := by decide +kernel
theorem dX6_parts_98 : decode cX6_parts 98 = .ok (.getfield 199, 3) := by decide +kernel
theorem dX6_parts_101 : decode cX6_parts 101 = .ok (.i2l, 1) := by decide +kernel
theorem dX6_parts_102 : decode cX6_parts 102 = .ok (.ladd, 1) := by decide +kernel
theorem dX6_parts_103 : decode cX6_parts 103 = .ok (.lreturn, 1) := by decide +kernel
theorem dX6_parts_104 : decode cX6_parts 104 = .ok (.ldc2_w 202, 3) := by decide +kernel
theorem dX6_parts_107 : decode cX6_parts 107 = .ok (.lreturn, 1) := by decide +kernel
theorem dX6_asked_0 : decode cX6_asked 0 = .ok (.aload_n 0, 1) := by decide +kernel
theorem dX6_asked_1 : decode cX6_asked 1 = .ok (.iload_n 1, 1) := by decide +kernel
theorem dX6_asked_2 : decode cX6_asked 2 = .ok (.invokevirtual 123, 3) := by decide +kernel
theorem dX6_asked_5 : decode cX6_asked 5 = .ok (.ifCond .eq 14, 3) := by decide +kernel
theorem dX6_asked_8 : decode cX6_asked 8 = .ok (.aload_n 0, 1) := by decide +kernel
theorem dX6_asked_9 : decode cX6_asked 9 = .ok (.iload_n 2, 1) := by decide +kernel
theorem dX6_asked_10 : decode cX6_asked 10 = .ok (.iload_n 3, 1) := by decide +kernel
theorem dX6_asked_11 : decode cX6_asked 11 = .ok (.iload 4, 2) := by decide +kernel
theorem dX6_asked_13 : decode cX6_asked 13 = .ok (.invokevirtual 204, 3) := by decide +kernel
theorem dX6_asked_16 : decode cX6_asked 16 = .ok (.ifCond .ne 5, 3) := by decide +kernel
theorem dX6_asked_19 : decode cX6_asked 19 = .ok (.iconst (-1), 1) := by decide +kernel
theorem dX6_asked_20 : decode cX6_asked 20 = .ok (.ireturn, 1) := by decide +kernel
theorem dX6_asked_21 : decode cX6_asked 21 = .ok (.aload_n 0, 1) := by decide +kernel
theorem dX6_asked_22 : decode cX6_asked 22 = .ok (.iload_n 1, 1) := by decide +kernel
theorem dX6_asked_23 : decode cX6_asked 23 = .ok (.iload_n 2, 1) := by decide +kernel
theorem dX6_asked_24 : decode cX6_asked 24 = .ok (.iload_n 3, 1) := by decide +kernel
theorem dX6_asked_25 : decode cX6_asked 25 = .ok (.iload 4, 2) := by decide +kernel
theorem dX6_asked_27 : decode cX6_asked 27 = .ok (.invokevirtual 207, 3) := by decide +kernel
theorem dX6_asked_30 : decode cX6_asked 30 = .ok (.ifCond .eq 7, 3) := by decide +kernel
theorem dX6_asked_33 : decode cX6_asked 33 = .ok (.iconst 1, 1) := by decide +kernel
theorem dX6_asked_34 : decode cX6_asked 34 = .ok (.goto 4, 3) := by decide +kernel
theorem dX6_asked_37 : decode cX6_asked 37 = .ok (.iconst 0, 1) := by decide +kernel
theorem dX6_asked_38 : decode cX6_asked 38 = .ok (.ireturn, 1) := by decide +kernel
theorem dX6_sure_0 : decode cX6_sure 0 = .ok (.aload_n 0, 1) := by decide +kernel
theorem dX6_sure_1 : decode cX6_sure 1 = .ok (.iload_n 1, 1) := by decide +kernel
theorem dX6_sure_2 : decode cX6_sure 2 = .ok (.iload_n 2, 1) := by decide +kernel
theorem dX6_sure_3 : decode cX6_sure 3 = .ok (.iload_n 3, 1) := by decide +kernel
theorem dX6_sure_4 : decode cX6_sure 4 = .ok (.invokevirtual 204, 3) := by decide +kernel
theorem dX6_sure_7 : decode cX6_sure 7 = .ok (.ifCond .ne 5, 3) := by decide +kernel
theorem dX6_sure_10 : decode cX6_sure 10 = .ok (.iconst (-1), 1) := by decide +kernel
theorem dX6_sure_11 : decode cX6_sure 11 = .ok (.ireturn, 1) := by decide +kernel
theorem dX6_sure_12 : decode cX6_sure 12 = .ok (.aload_n 0, 1) := by decide +kernel
theorem dX6_sure_13 : decode cX6_sure 13 = .ok (.getfield 42, 3) := by decide +kernel
theorem dX6_sure_16 : decode cX6_sure 16 = .ok (.invokevirtual 211, 3) := by decide +kernel
theorem dX6_sure_19 : decode cX6_sure 19 = .ok (.istore 4, 2) := by decide +kernel
theorem dX6_sure_21 : decode cX6_sure 21 = .ok (.iconst 0, 1) := by decide +kernel
theorem dX6_sure_22 : decode cX6_sure 22 = .ok (.istore 5, 2) := by decide +kernel
theorem dX6_sure_24 : decode cX6_sure 24 = .ok (.iconst 0, 1) := by decide +kernel
theorem dX6_sure_25 : decode cX6_sure 25 = .ok (.istore 6, 2) := by decide +kernel
theorem dX6_sure_27 : decode cX6_sure 27 = .ok (.iload 6, 2) := by decide +kernel
theorem dX6_sure_29 : decode cX6_sure 29 = .ok (.iload 4, 2) := by decide +kernel
theorem dX6_sure_31 : decode cX6_sure 31 = .ok (.if_icmp .ge 24, 3) := by decide +kernel
theorem dX6_sure_34 : decode cX6_sure 34 = .ok (.aload_n 0, 1) := by decide +kernel
theorem dX6_sure_35 : decode cX6_sure 35 = .ok (.iload 6, 2) := by decide +kernel
theorem dX6_sure_37 : decode cX6_sure 37 = .ok (.iload_n 1, 1) := by decide +kernel
theorem dX6_sure_38 : decode cX6_sure 38 = .ok (.iload_n 2, 1) := by decide +kernel
theorem dX6_sure_39 : decode cX6_sure 39 = .ok (.iload_n 3, 1) := by decide +kernel
theorem dX6_sure_40 : decode cX6_sure 40 = .ok (.invokevirtual 207, 3) := by decide +kernel
theorem dX6_sure_43 : decode cX6_sure 43 = .ok (.ifCond .eq 6, 3) := by decide +kernel
theorem dX6_sure_46 : decode cX6_sure 46 = .ok (.iinc 5 1, 3) := by decide +kernel
theorem dX6_sure_49 : decode cX6_sure 49 = .ok (.iinc 6 1, 3) := by decide +kernel
theorem dX6_sure_52 : decode cX6_sure 52 = .ok (.goto (-25), 3) := by decide +kernel
theorem dX6_sure_55 : decode cX6_sure 55 = .ok (.iload 5, 2) := by decide +kernel
theorem dX6_sure_57 : decode cX6_sure 57 = .ok (.iload 4, 2) := by decide +kernel
theorem dX6_sure_59 : decode cX6_sure 59 = .ok (.if_icmp .ne 7, 3) := by decide +kernel
theorem dX6_sure_62 : decode cX6_sure 62 = .ok (.iconst 2, 1) := by decide +kernel
theorem dX6_sure_63 : decode cX6_sure 63 = .ok (.goto 13, 3) := by decide +kernel
theorem dX6_sure_66 : decode cX6_sure 66 = .ok (.iload 5, 2) := by decide +kernel
theorem dX6_sure_68 : decode cX6_sure 68 = .ok (.ifCond .le 7, 3) := by decide +kernel
theorem dX6_sure_71 : decode cX6_sure 71 = .ok (.iconst 1, 1) := by decide +kernel
theorem dX6_sure_72 : decode cX6_sure 72 = .ok (.goto 4, 3) := by decide +kernel
theorem dX6_sure_75 : decode cX6_sure 75 = .ok (.iconst 0, 1) := by decide +kernel
theorem dX6_sure_76 : decode cX6_sure 76 = .ok (.ireturn, 1) := by decide +kernel
theorem dX6_empty_0 : decode cX6_empty 0 = .ok (.aload_n 0, 1) := by decide +kernel
theorem dX6_empty_1 : decode cX6_empty 1 = .ok (.getfield 10, 3) := by decide +kernel
theorem dX6_empty_4 : decode cX6_empty 4 = .ok (.iload_n 1, 1) := by decide +kernel
theorem dX6_empty_5 : decode cX6_empty 5 = .ok (.invokevirtual 79, 3) := by decide +kernel
theorem dX6_empty_8 : decode cX6_empty 8 = .ok (.ifCond .eq 11, 3) := by decide +kernel
theorem dX6_empty_11 : decode cX6_empty 11 = .ok (.aload_n 0, 1) := by decide +kernel
theorem dX6_empty_12 : decode cX6_empty 12 = .ok (.iload_n 2, 1) := by decide +kernel
theorem dX6_empty_13 : decode cX6_empty 13 = .ok (.invokevirtual 123, 3) := by decide +kernel
theorem dX6_empty_16 : decode cX6_empty 16 = .ok (.ifCond .ne 5, 3) := by decide +kernel
theorem dX6_empty_19 : decode cX6_empty 19 = .ok (.iconst (-1), 1) := by decide +kernel
theorem dX6_empty_20 : decode cX6_empty 20 = .ok (.ireturn, 1) := by decide +kernel
theorem dX6_empty_21 : decode cX6_empty 21 = .ok (.aload_n 0, 1) := by decide +kernel
theorem dX6_empty_22 : decode cX6_empty 22 = .ok (.iload_n 2, 1) := by decide +kernel
theorem dX6_empty_23 : decode cX6_empty 23 = .ok (.invokevirtual 215, 3) := by decide +kernel
theorem dX6_empty_26 : decode cX6_empty 26 = .ok (.iconst 0, 1) := by decide +kernel
theorem dX6_empty_27 : decode cX6_empty 27 = .ok (.istore_n 3, 1) := by decide +kernel
theorem dX6_empty_28 : decode cX6_empty 28 = .ok (.iload_n 3, 1) := by decide +kernel
theorem dX6_empty_29 : decode cX6_empty 29 = .ok (.sipush 200, 3) := by decide +kernel
theorem dX6_empty_32 : decode cX6_empty 32 = .ok (.if_icmp .ge 28, 3) := by decide +kernel
theorem dX6_empty_35 : decode cX6_empty 35 = .ok (.aload_n 0, 1) := by decide +kernel
theorem dX6_empty_36 : decode cX6_empty 36 = .ok (.getfield 35, 3) := by decide +kernel
theorem dX6_empty_39 : decode cX6_empty 39 = .ok (.iload_n 1, 1) := by decide +kernel
theorem dX6_empty_40 : decode cX6_empty 40 = .ok (.invokevirtual 136, 3) := by decide +kernel
theorem dX6_empty_43 : decode cX6_empty 43 = .ok (.ifCond .le 17, 3) := by decide +kernel
theorem dX6_empty_46 : decode cX6_empty 46 = .ok (.aload_n 0, 1) := by decide +kernel
theorem dX6_empty_47 : decode cX6_empty 47 = .ok (.getfield 30, 3) := by decide +kernel
theorem dX6_empty_50 : decode cX6_empty 50 = .ok (.iconst 1, 1) := by decide +kernel
theorem dX6_empty_51 : decode cX6_empty 51 = .ok (.invokevirtual 130, 3) := by decide +kernel
theorem dX6_empty_54 : decode cX6_empty 54 = .ok (.iinc 3 1, 3) := by decide +kernel
theorem dX6_empty_57 : decode cX6_empty 57 = .ok (.goto (-29), 3) := by decide +kernel
theorem dX6_empty_60 : decode cX6_empty 60 = .ok (.aload_n 0, 1) := by decide +kernel
theorem dX6_empty_61 : decode cX6_empty 61 = .ok (.getfield 35, 3) := by decide +kernel
theorem dX6_empty_64 : decode cX6_empty 64 = .ok (.iload_n 1, 1) := by decide +kernel
theorem dX6_empty_65 : decode cX6_empty 65 = .ok (.invokevirtual 136, 3) := by decide +kernel
theorem dX6_empty_68 : decode cX6_empty 68 = .ok (.ifCond .ne 13, 3) := by decide +kernel
theorem dX6_empty_71 : decode cX6_empty 71 = .ok (.aload_n 0, 1) := by decide +kernel
theorem dX6_empty_72 : decode cX6_empty 72 = .ok (.getfield 35, 3) := by decide +kernel
theorem dX6_empty_75 : decode cX6_empty 75 = .ok (.getfield 67, 3) := by decide +kernel
theorem dX6_empty_78 : decode cX6_empty 78 = .ok (.goto 4, 3) := by decide +kernel
theorem dX6_empty_81 : decode cX6_empty 81 = .ok (.iconst (-1), 1) := by decide +kernel
theorem dX6_empty_82 : decode cX6_empty 82 = .ok (.ireturn, 1) := by decide +kernel
theorem dX6_runs_0 : decode cX6_runs 0 = .ok (.iload_n 1, 1) := by decide +kernel
theorem dX6_runs_1 : decode cX6_runs 1 = .ok (.iconst 1, 1) := by decide +kernel
theorem dX6_runs_2 : decode cX6_runs 2 = .ok (.bipush 40, 2) := by decide +kernel
theorem dX6_runs_4 : decode cX6_runs 4 = .ok (.invokestatic 71, 3) := by decide +kernel
theorem dX6_runs_7 : decode cX6_runs 7 = .ok (.ifCond .eq 23, 3) := by decide +kernel
theorem dX6_runs_10 : decode cX6_runs 10 = .ok (.iload_n 2, 1) := by decide +kernel
theorem dX6_runs_11 : decode cX6_runs 11 = .ok (.iconst 0, 1) := by decide +kernel
theorem dX6_runs_12 : decode cX6_runs 12 = .ok (.bipush 60, 2) := by decide +kernel
theorem dX6_runs_14 : decode cX6_runs 14 = .ok (.invokestatic 71, 3) := by decide +kernel
theorem dX6_runs_17 : decode cX6_runs 17 = .ok (.ifCond .eq 13, 3) := by decide +kernel
theorem dX6_runs_20 : decode cX6_runs 20 = .ok (.iload_n 3, 1) := by decide +kernel
theorem dX6_runs_21 : decode cX6_runs 21 = .ok (.iconst (-1), 1) := by decide +kernel
theorem dX6_runs_22 : decode cX6_runs 22 = .ok (.bipush 30, 2) := by decide +kernel
theorem dX6_runs_24 : decode cX6_runs 24 = .ok (.invokestatic 71, 3) := by decide +kernel
theorem dX6_runs_27 : decode cX6_runs 27 = .ok (.ifCond .ne 5, 3) := by decide +kernel
theorem dX6_runs_30 : decode cX6_runs 30 = .ok (.iconst (-1), 1) := by decide +kernel
theorem dX6_runs_31 : decode cX6_runs 31 = .ok (.ireturn, 1) := by decide +kernel
theorem dX6_runs_32 : decode cX6_runs 32 = .ok (.iconst 0, 1) := by decide +kernel
theorem dX6_runs_33 : decode cX6_runs 33 = .ok (.istore 4, 2) := by decide +kernel
theorem dX6_runs_35 : decode cX6_runs 35 = .ok (.iconst 0, 1) := by decide +kernel
theorem dX6_runs_36 : decode cX6_runs 36 = .ok (.istore 5, 2) := by decide +kernel
theorem dX6_runs_38 : decode cX6_runs 38 = .ok (.iconst 0, 1) := by decide +kernel
theorem dX6_runs_39 : decode cX6_runs 39 = .ok (.istore 6, 2) := by decide +kernel
theorem dX6_runs_41 : decode cX6_runs 41 = .ok (.iload 6, 2) := by decide +kernel
theorem dX6_runs_43 : decode cX6_runs 43 = .ok (.iload_n 1, 1) := by decide +kernel
theorem dX6_runs_44 : decode cX6_runs 44 = .ok (.if_icmp .ge 61, 3) := by decide +kernel
theorem dX6_runs_47 : decode cX6_runs 47 = .ok (.aload_n 0, 1) := by decide +kernel
theorem dX6_runs_48 : decode cX6_runs 48 = .ok (.aload_n 0, 1) := by decide +kernel
theorem dX6_runs_49 : decode cX6_runs 49 = .ok (.getfield 120, 3) := by decide +kernel
theorem dX6_runs_52 : decode cX6_runs 52 = .ok (.invokevirtual 215, 3) := by decide +kernel
theorem dX6_runs_55 : decode cX6_runs 55 = .ok (.aload_n 0, 1) := by decide +kernel
theorem dX6_runs_56 : decode cX6_runs 56 = .ok (.getfield 35, 3) := by decide +kernel
theorem dX6_runs_59 : decode cX6_runs 59 = .ok (.iload 6, 2) := by decide +kernel
theorem dX6_runs_61 : decode cX6_runs 61 = .ok (.i2l, 1) := by decide +kernel
theorem dX6_runs_62 : decode cX6_runs 62 = .ok (.putfield 105, 3) := by decide +kernel
theorem dX6_runs_65 : decode cX6_runs 65 = .ok (.aload_n 0, 1) := by decide +kernel
theorem dX6_runs_66 : decode cX6_runs 66 = .ok (.getfield 30, 3) := by decide +kernel
theorem dX6_runs_69 : decode cX6_runs 69 = .ok (.iload_n 2, 1) := by decide +kernel
theorem dX6_runs_70 : decode cX6_runs 70 = .ok (.invokevirtual 130, 3) := by decide +kernel
theorem dX6_runs_73 : decode cX6_runs 73 = .ok (.iload 4, 2) := by decide +kernel
theorem dX6_runs_75 : decode cX6_runs 75 = .ok (.aload_n 0, 1) := by decide +kernel
theorem dX6_runs_76 : decode cX6_runs 76 = .ok (.getfield 35, 3) := by decide +kernel
theorem dX6_runs_79 : decode cX6_runs 79 = .ok (.getfield 218, 3) := by decide +kernel
theorem dX6_runs_82 : decode cX6_runs 82 = .ok (.iadd, 1) := by decide +kernel
theorem dX6_runs_83 : decode cX6_runs 83 = .ok (.istore 4, 2) := by decide +kernel
theorem dX6_runs_85 : decode cX6_runs 85 = .ok (.aload_n 0, 1) := by decide +kernel
theorem dX6_runs_86 : decode cX6_runs 86 = .ok (.getfield 35, 3) := by decide +kernel
theorem dX6_runs_89 : decode cX6_runs 89 = .ok (.getfield 218, 3) := by decide +kernel
theorem dX6_runs_92 : decode cX6_runs 92 = .ok (.iload_n 3, 1) := by decide +kernel
theorem dX6_runs_93 : decode cX6_runs 93 = .ok (.if_icmp .ne 6, 3) := by decide +kernel
theorem dX6_runs_96 : decode cX6_runs 96 = .ok (.iinc 5 1, 3) := by decide +kernel
theorem dX6_runs_99 : decode cX6_runs 99 = .ok (.iinc 6 1, 3) := by decide +kernel
theorem dX6_runs_102 : decode cX6_runs 102 = .ok (.goto (-61), 3) := by decide +kernel
theorem dX6_runs_105 : decode cX6_runs 105 = .ok (.iload_n 3, 1) := by decide +kernel
theorem dX6_runs_106 : decode cX6_runs 106 = .ok (.iconst (-1), 1) := by decide +kernel
theorem dX6_runs_107 : decode cX6_runs 107 = .ok (.if_icmp .ne 8, 3) := by decide +kernel
theorem dX6_runs_110 : decode cX6_runs 110 = .ok (.iload 4, 2) := by decide +kernel
theorem dX6_runs_112 : decode cX6_runs 112 = .ok (.goto 5, 3) := by decide +kernel
theorem dX6_runs_115 : decode cX6_runs 115 = .ok (.iload 5, 2) := by decide +kernel
theorem dX6_runs_117 : decode cX6_runs 117 = .ok (.ireturn, 1) := by decide +kernel
theorem dX6_back_0 : decode cX6_back 0 = .ok (.iconst 0, 1) := by decide +kernel
theorem dX6_back_1 : decode cX6_back 1 = .ok (.istore_n 1, 1) := by decide +kernel
theorem dX6_back_2 : decode cX6_back 2 = .ok (.iconst 0, 1) := by decide +kernel
theorem dX6_back_3 : decode cX6_back 3 = .ok (.istore_n 2, 1) := by decide +kernel
theorem dX6_back_4 : decode cX6_back 4 = .ok (.iload_n 2, 1) := by decide +kernel
theorem dX6_back_5 : decode cX6_back 5 = .ok (.aload_n 0, 1) := by decide +kernel
theorem dX6_back_6 : decode cX6_back 6 = .ok (.getfield 10, 3) := by decide +kernel
theorem dX6_back_9 : decode cX6_back 9 = .ok (.getfield 221, 3) := by decide +kernel
theorem dX6_back_12 : decode cX6_back 12 = .ok (.if_icmp .ge 51, 3) := by decide +kernel
theorem dX6_back_15 : decode cX6_back 15 = .ok (.aload_n 0, 1) := by decide +kernel
theorem dX6_back_16 : decode cX6_back 16 = .ok (.getfield 10, 3) := by decide +kernel
theorem dX6_back_19 : decode cX6_back 19 = .ok (.getfield 146, 3) := by decide +kernel
theorem dX6_back_22 : decode cX6_back 22 = .ok (.iload_n 2, 1) := by decide +kernel
theorem dX6_back_23 : decode cX6_back 23 = .ok (.aaload, 1) := by decide +kernel
theorem dX6_back_24 : decode cX6_back 24 = .ok (.astore_n 3, 1) := by decide +kernel
theorem dX6_back_25 : decode cX6_back 25 = .ok (.aload_n 3, 1) := by decide +kernel
theorem dX6_back_26 : decode cX6_back 26 = .ok (.getfield 150, 3) := by decide +kernel
theorem dX6_back_29 : decode cX6_back 29 = .ok (.ifCond .ne 11, 3) := by decide +kernel
theorem dX6_back_32 : decode cX6_back 32 = .ok (.aload_n 0, 1) := by decide +kernel
theorem dX6_back_33 : decode cX6_back 33 = .ok (.aload_n 3, 1) := by decide +kernel
theorem dX6_back_34 : decode cX6_back 34 = .ok (.invokevirtual 176, 3) := by decide +kernel
theorem dX6_back_37 : decode cX6_back 37 = .ok (.goto 4, 3) := by decide +kernel
theorem dX6_back_40 : decode cX6_back 40 = .ok (.iconst 0, 1) := by decide +kernel
theorem dX6_back_41 : decode cX6_back 41 = .ok (.istore 4, 2) := by decide +kernel
theorem dX6_back_43 : decode cX6_back 43 = .ok (.iload 4, 2) := by decide +kernel
theorem dX6_back_45 : decode cX6_back 45 = .ok (.ifCond .le 12, 3) := by decide +kernel
theorem dX6_back_48 : decode cX6_back 48 = .ok (.iload_n 1, 1) := by decide +kernel
theorem dX6_back_49 : decode cX6_back 49 = .ok (.sipush 10000, 3) := by decide +kernel
theorem dX6_back_52 : decode cX6_back 52 = .ok (.iload 4, 2) := by decide +kernel
theorem dX6_back_54 : decode cX6_back 54 = .ok (.idiv, 1) := by decide +kernel
theorem dX6_back_55 : decode cX6_back 55 = .ok (.iadd, 1) := by decide +kernel
theorem dX6_back_56 : decode cX6_back 56 = .ok (.istore_n 1, 1) := by decide +kernel
theorem dX6_back_57 : decode cX6_back 57 = .ok (.iinc 2 1, 3) := by decide +kernel
theorem dX6_back_60 : decode cX6_back 60 = .ok (.goto (-56), 3) := by decide +kernel
theorem dX6_back_63 : decode cX6_back 63 = .ok (.iload_n 1, 1) := by decide +kernel
theorem dX6_back_64 : decode cX6_back 64 = .ok (.ireturn, 1) := by decide +kernel
theorem dX6_told_0 : decode cX6_told 0 = .ok (.iload_n 1, 1) := by decide +kernel
theorem dX6_told_1 : decode cX6_told 1 = .ok (.iconst 0, 1) := by decide +kernel
theorem dX6_told_2 : decode cX6_told 2 = .ok (.bipush 30, 2) := by decide +kernel
theorem dX6_told_4 : decode cX6_told 4 = .ok (.invokestatic 71, 3) := by decide +kernel
theorem dX6_told_7 : decode cX6_told 7 = .ok (.ifCond .eq 22, 3) := by decide +kernel
theorem dX6_told_10 : decode cX6_told 10 = .ok (.iload_n 2, 1) := by decide +kernel
theorem dX6_told_11 : decode cX6_told 11 = .ok (.iconst 0, 1) := by decide +kernel
theorem dX6_told_12 : decode cX6_told 12 = .ok (.bipush 100, 2) := by decide +kernel
theorem dX6_told_14 : decode cX6_told 14 = .ok (.invokestatic 71, 3) := by decide +kernel
theorem dX6_told_17 : decode cX6_told 17 = .ok (.ifCond .eq 12, 3) := by decide +kernel
theorem dX6_told_20 : decode cX6_told 20 = .ok (.aload_n 0, 1) := by decide +kernel
theorem dX6_told_21 : decode cX6_told 21 = .ok (.getfield 224, 3) := by decide +kernel
theorem dX6_told_24 : decode cX6_told 24 = .ok (.bipush 10, 2) := by decide +kernel
theorem dX6_told_26 : decode cX6_told 26 = .ok (.if_icmp .lt 5, 3) := by decide +kernel
theorem dX6_told_29 : decode cX6_told 29 = .ok (.iconst (-1), 1) := by decide +kernel
theorem dX6_told_30 : decode cX6_told 30 = .ok (.ireturn, 1) := by decide +kernel
theorem dX6_told_31 : decode cX6_told 31 = .ok (.aload_n 0, 1) := by decide +kernel
theorem dX6_told_32 : decode cX6_told 32 = .ok (.getfield 60, 3) := by decide +kernel
theorem dX6_told_35 : decode cX6_told 35 = .ok (.aload_n 0, 1) := by decide +kernel
theorem dX6_told_36 : decode cX6_told 36 = .ok (.getfield 224, 3) := by decide +kernel
theorem dX6_told_39 : decode cX6_told 39 = .ok (.iload_n 1, 1) := by decide +kernel
theorem dX6_told_40 : decode cX6_told 40 = .ok (.iastore, 1) := by decide +kernel
theorem dX6_told_41 : decode cX6_told 41 = .ok (.aload_n 0, 1) := by decide +kernel
theorem dX6_told_42 : decode cX6_told 42 = .ok (.getfield 64, 3) := by decide +kernel
theorem dX6_told_45 : decode cX6_told 45 = .ok (.aload_n 0, 1) := by decide +kernel
theorem dX6_told_46 : decode cX6_told 46 = .ok (.getfield 224, 3) := by decide +kernel
theorem dX6_told_49 : decode cX6_told 49 = .ok (.iload_n 2, 1) := by decide +kernel
theorem dX6_told_50 : decode cX6_told 50 = .ok (.iastore, 1) := by decide +kernel
theorem dX6_told_51 : decode cX6_told 51 = .ok (.aload_n 0, 1) := by decide +kernel
theorem dX6_told_52 : decode cX6_told 52 = .ok (.dup, 1) := by decide +kernel
theorem dX6_told_53 : decode cX6_told 53 = .ok (.getfield 224, 3) := by decide +kernel
theorem dX6_told_56 : decode cX6_told 56 = .ok (.iconst 1, 1) := by decide +kernel
theorem dX6_told_57 : decode cX6_told 57 = .ok (.iadd, 1) := by decide +kernel
theorem dX6_told_58 : decode cX6_told 58 = .ok (.putfield 224, 3) := by decide +kernel
theorem dX6_told_61 : decode cX6_told 61 = .ok (.aload_n 0, 1) := by decide +kernel
theorem dX6_told_62 : decode cX6_told 62 = .ok (.getfield 224, 3) := by decide +kernel
theorem dX6_told_65 : decode cX6_told 65 = .ok (.iconst 1, 1) := by decide +kernel
theorem dX6_told_66 : decode cX6_told 66 = .ok (.isub, 1) := by decide +kernel
theorem dX6_told_67 : decode cX6_told 67 = .ok (.ireturn, 1) := by decide +kernel
theorem dX6_forget_0 : decode cX6_forget 0 = .ok (.aload_n 0, 1) := by decide +kernel
theorem dX6_forget_1 : decode cX6_forget 1 = .ok (.getfield 224, 3) := by decide +kernel
theorem dX6_forget_4 : decode cX6_forget 4 = .ok (.istore_n 1, 1) := by decide +kernel
theorem dX6_forget_5 : decode cX6_forget 5 = .ok (.aload_n 0, 1) := by decide +kernel
theorem dX6_forget_6 : decode cX6_forget 6 = .ok (.iconst 0, 1) := by decide +kernel
theorem dX6_forget_7 : decode cX6_forget 7 = .ok (.putfield 224, 3) := by decide +kernel
theorem dX6_forget_10 : decode cX6_forget 10 = .ok (.iload_n 1, 1) := by decide +kernel
theorem dX6_forget_11 : decode cX6_forget 11 = .ok (.ireturn, 1) := by decide +kernel
theorem dX6_fits_0 : decode cX6_fits 0 = .ok (.aload_n 0, 1) := by decide +kernel
theorem dX6_fits_1 : decode cX6_fits 1 = .ok (.iload_n 1, 1) := by decide +kernel
theorem dX6_fits_2 : decode cX6_fits 2 = .ok (.invokevirtual 123, 3) := by decide +kernel
theorem dX6_fits_5 : decode cX6_fits 5 = .ok (.ifCond .ne 5, 3) := by decide +kernel
theorem dX6_fits_8 : decode cX6_fits 8 = .ok (.iconst (-1), 1) := by decide +kernel
theorem dX6_fits_9 : decode cX6_fits 9 = .ok (.ireturn, 1) := by decide +kernel
theorem dX6_fits_10 : decode cX6_fits 10 = .ok (.aload_n 0, 1) := by decide +kernel
theorem dX6_fits_11 : decode cX6_fits 11 = .ok (.iload_n 1, 1) := by decide +kernel
theorem dX6_fits_12 : decode cX6_fits 12 = .ok (.invokevirtual 227, 3) := by decide +kernel
theorem dX6_fits_15 : decode cX6_fits 15 = .ok (.ifCond .eq 7, 3) := by decide +kernel
theorem dX6_fits_18 : decode cX6_fits 18 = .ok (.iconst 1, 1) := by decide +kernel
theorem dX6_fits_19 : decode cX6_fits 19 = .ok (.goto 4, 3) := by decide +kernel
theorem dX6_fits_22 : decode cX6_fits 22 = .ok (.iconst 0, 1) := by decide +kernel
theorem dX6_fits_23 : decode cX6_fits 23 = .ok (.ireturn, 1) := by decide +kernel
theorem dX6_barred_0 : decode cX6_barred 0 = .ok (.iload_n 1, 1) := by decide +kernel
theorem dX6_barred_1 : decode cX6_barred 1 = .ok (.iconst 0, 1) := by decide +kernel
theorem dX6_barred_2 : decode cX6_barred 2 = .ok (.aload_n 0, 1) := by decide +kernel
theorem dX6_barred_3 : decode cX6_barred 3 = .ok (.getfield 42, 3) := by decide +kernel
theorem dX6_barred_6 : decode cX6_barred 6 = .ok (.getfield 230, 3) := by decide +kernel
theorem dX6_barred_9 : decode cX6_barred 9 = .ok (.iconst 1, 1) := by decide +kernel
theorem dX6_barred_10 : decode cX6_barred 10 = .ok (.isub, 1) := by decide +kernel
theorem dX6_barred_11 : decode cX6_barred 11 = .ok (.invokestatic 71, 3) := by decide +kernel
theorem dX6_barred_14 : decode cX6_barred 14 = .ok (.ifCond .eq 12, 3) := by decide +kernel
theorem dX6_barred_17 : decode cX6_barred 17 = .ok (.iload_n 2, 1) := by decide +kernel
theorem dX6_barred_18 : decode cX6_barred 18 = .ok (.iconst 0, 1) := by decide +kernel
theorem dX6_barred_19 : decode cX6_barred 19 = .ok (.iconst 1, 1) := by decide +kernel
theorem dX6_barred_20 : decode cX6_barred 20 = .ok (.invokestatic 71, 3) := by decide +kernel
theorem dX6_barred_23 : decode cX6_barred 23 = .ok (.ifCond .ne 5, 3) := by decide +kernel
theorem dX6_barred_26 : decode cX6_barred 26 = .ok (.iconst (-1), 1) := by decide +kernel
theorem dX6_barred_27 : decode cX6_barred 27 = .ok (.ireturn, 1) := by decide +kernel
theorem dX6_barred_28 : decode cX6_barred 28 = .ok (.aload_n 0, 1) := by decide +kernel
theorem dX6_barred_29 : decode cX6_barred 29 = .ok (.getfield 42, 3) := by decide +kernel
theorem dX6_barred_32 : decode cX6_barred 32 = .ok (.invokevirtual 211, 3) := by decide +kernel
theorem dX6_barred_35 : decode cX6_barred 35 = .ok (.istore_n 3, 1) := by decide +kernel
theorem dX6_barred_36 : decode cX6_barred 36 = .ok (.iconst 0, 1) := by decide +kernel
theorem dX6_barred_37 : decode cX6_barred 37 = .ok (.istore 4, 2) := by decide +kernel
theorem dX6_barred_39 : decode cX6_barred 39 = .ok (.iload 4, 2) := by decide +kernel
theorem dX6_barred_41 : decode cX6_barred 41 = .ok (.iload_n 3, 1) := by decide +kernel
theorem dX6_barred_42 : decode cX6_barred 42 = .ok (.if_icmp .ge 30, 3) := by decide +kernel
theorem dX6_barred_45 : decode cX6_barred 45 = .ok (.iload 4, 2) := by decide +kernel
theorem dX6_barred_47 : decode cX6_barred 47 = .ok (.iload_n 1, 1) := by decide +kernel
theorem dX6_barred_48 : decode cX6_barred 48 = .ok (.ishr, 1) := by decide +kernel
theorem dX6_barred_49 : decode cX6_barred 49 = .ok (.iconst 1, 1) := by decide +kernel
theorem dX6_barred_50 : decode cX6_barred 50 = .ok (.iand, 1) := by decide +kernel
theorem dX6_barred_51 : decode cX6_barred 51 = .ok (.iload_n 2, 1) := by decide +kernel
theorem dX6_barred_52 : decode cX6_barred 52 = .ok (.if_icmp .ne 14, 3) := by decide +kernel
theorem dX6_barred_55 : decode cX6_barred 55 = .ok (.aload_n 0, 1) := by decide +kernel
theorem dX6_barred_56 : decode cX6_barred 56 = .ok (.iload 4, 2) := by decide +kernel
theorem dX6_barred_58 : decode cX6_barred 58 = .ok (.invokevirtual 227, 3) := by decide +kernel
theorem dX6_barred_61 : decode cX6_barred 61 = .ok (.ifCond .eq 5, 3) := by decide +kernel
theorem dX6_barred_64 : decode cX6_barred 64 = .ok (.iconst 0, 1) := by decide +kernel
theorem dX6_barred_65 : decode cX6_barred 65 = .ok (.ireturn, 1) := by decide +kernel
theorem dX6_barred_66 : decode cX6_barred 66 = .ok (.iinc 4 1, 3) := by decide +kernel
theorem dX6_barred_69 : decode cX6_barred 69 = .ok (.goto (-30), 3) := by decide +kernel
theorem dX6_barred_72 : decode cX6_barred 72 = .ok (.iconst 1, 1) := by decide +kernel
theorem dX6_barred_73 : decode cX6_barred 73 = .ok (.ireturn, 1) := by decide +kernel
theorem dX6_mark_0 : decode cX6_mark 0 = .ok (.iload_n 1, 1) := by decide +kernel
theorem dX6_mark_1 : decode cX6_mark 1 = .ok (.iconst 0, 1) := by decide +kernel
theorem dX6_mark_2 : decode cX6_mark 2 = .ok (.iconst 5, 1) := by decide +kernel
theorem dX6_mark_3 : decode cX6_mark 3 = .ok (.invokestatic 71, 3) := by decide +kernel
theorem dX6_mark_6 : decode cX6_mark 6 = .ok (.ifCond .ne 5, 3) := by decide +kernel
theorem dX6_mark_9 : decode cX6_mark 9 = .ok (.iconst 0, 1) := by decide +kernel
theorem dX6_mark_10 : decode cX6_mark 10 = .ok (.ireturn, 1) := by decide +kernel
theorem dX6_mark_11 : decode cX6_mark 11 = .ok (.aload_n 0, 1) := by decide +kernel
theorem dX6_mark_12 : decode cX6_mark 12 = .ok (.getfield 16, 3) := by decide +kernel
theorem dX6_mark_15 : decode cX6_mark 15 = .ok (.iload_n 1, 1) := by decide +kernel
theorem dX6_mark_16 : decode cX6_mark 16 = .ok (.aaload, 1) := by decide +kernel
theorem dX6_mark_17 : decode cX6_mark 17 = .ok (.astore_n 3, 1) := by decide +kernel
theorem dX6_mark_18 : decode cX6_mark 18 = .ok (.iload_n 2, 1) := by decide +kernel
theorem dX6_mark_19 : decode cX6_mark 19 = .ok (.ifCond .eq 19, 3) := by decide +kernel
theorem dX6_mark_22 : decode cX6_mark 22 = .ok (.aload_n 3, 1) := by decide +kernel
theorem dX6_mark_23 : decode cX6_mark 23 = .ok (.ifnonnull 5, 3) := by decide +kernel
theorem dX6_mark_26 : decode cX6_mark 26 = .ok (.iconst 0, 1) := by decide +kernel
theorem dX6_mark_27 : decode cX6_mark 27 = .ok (.ireturn, 1) := by decide +kernel
theorem dX6_mark_28 : decode cX6_mark 28 = .ok (.aload_n 0, 1) := by decide +kernel
theorem dX6_mark_29 : decode cX6_mark 29 = .ok (.getfield 10, 3) := by decide +kernel
theorem dX6_mark_32 : decode cX6_mark 32 = .ok (.aload_n 3, 1) := by decide +kernel
theorem dX6_mark_33 : decode cX6_mark 33 = .ok (.invokevirtual 233, 3) := by decide +kernel
theorem dX6_mark_36 : decode cX6_mark 36 = .ok (.iconst 1, 1) := by decide +kernel
theorem dX6_mark_37 : decode cX6_mark 37 = .ok (.ireturn, 1) := by decide +kernel
theorem dX6_mark_38 : decode cX6_mark 38 = .ok (.aload_n 3, 1) := by decide +kernel
theorem dX6_mark_39 : decode cX6_mark 39 = .ok (.ifnonnull 18, 3) := by decide +kernel
theorem dX6_mark_42 : decode cX6_mark 42 = .ok (.new 7, 3) := by decide +kernel
theorem dX6_mark_45 : decode cX6_mark 45 = .ok (.dup, 1) := by decide +kernel
theorem dX6_mark_46 : decode cX6_mark 46 = .ok (.invokespecial 9, 3) := by decide +kernel
theorem dX6_mark_49 : decode cX6_mark 49 = .ok (.astore_n 3, 1) := by decide +kernel
theorem dX6_mark_50 : decode cX6_mark 50 = .ok (.aload_n 0, 1) := by decide +kernel
theorem dX6_mark_51 : decode cX6_mark 51 = .ok (.getfield 16, 3) := by decide +kernel
theorem dX6_mark_54 : decode cX6_mark 54 = .ok (.iload_n 1, 1) := by decide +kernel
theorem dX6_mark_55 : decode cX6_mark 55 = .ok (.aload_n 3, 1) := by decide +kernel
theorem dX6_mark_56 : decode cX6_mark 56 = .ok (.aastore, 1) := by decide +kernel
theorem dX6_mark_57 : decode cX6_mark 57 = .ok (.aload_n 3, 1) := by decide +kernel
theorem dX6_mark_58 : decode cX6_mark 58 = .ok (.aload_n 0, 1) := by decide +kernel
theorem dX6_mark_59 : decode cX6_mark 59 = .ok (.getfield 10, 3) := by decide +kernel
theorem dX6_mark_62 : decode cX6_mark 62 = .ok (.invokevirtual 233, 3) := by decide +kernel
theorem dX6_mark_65 : decode cX6_mark 65 = .ok (.iconst 1, 1) := by decide +kernel
theorem dX6_mark_66 : decode cX6_mark 66 = .ok (.ireturn, 1) := by decide +kernel
theorem dX6_count_0 : decode cX6_count 0 = .ok (.iload_n 1, 1) := by decide +kernel
theorem dX6_count_1 : decode cX6_count 1 = .ok (.tableswitch 141 0 10 #[59, 67, 75, 83, 91, 99, 107, 112, 120, 125, 133], 59) := by decide +kernel
theorem dX6_count_60 : decode cX6_count 60 = .ok (.aload_n 0, 1) := by decide +kernel
theorem dX6_count_61 : decode cX6_count 61 = .ok (.getfield 10, 3) := by decide +kernel
theorem dX6_count_64 : decode cX6_count 64 = .ok (.getfield 67, 3) := by decide +kernel
theorem dX6_count_67 : decode cX6_count 67 = .ok (.ireturn, 1) := by decide +kernel
theorem dX6_count_68 : decode cX6_count 68 = .ok (.aload_n 0, 1) := by decide +kernel
theorem dX6_count_69 : decode cX6_count 69 = .ok (.getfield 10, 3) := by decide +kernel
theorem dX6_count_72 : decode cX6_count 72 = .ok (.getfield 163, 3) := by decide +kernel
theorem dX6_count_75 : decode cX6_count 75 = .ok (.ireturn, 1) := by decide +kernel
theorem dX6_count_76 : decode cX6_count 76 = .ok (.aload_n 0, 1) := by decide +kernel
theorem dX6_count_77 : decode cX6_count 77 = .ok (.getfield 10, 3) := by decide +kernel
theorem dX6_count_80 : decode cX6_count 80 = .ok (.getfield 221, 3) := by decide +kernel
theorem dX6_count_83 : decode cX6_count 83 = .ok (.ireturn, 1) := by decide +kernel
theorem dX6_count_84 : decode cX6_count 84 = .ok (.aload_n 0, 1) := by decide +kernel
theorem dX6_count_85 : decode cX6_count 85 = .ok (.getfield 10, 3) := by decide +kernel
theorem dX6_count_88 : decode cX6_count 88 = .ok (.getfield 218, 3) := by decide +kernel
theorem dX6_count_91 : decode cX6_count 91 = .ok (.ireturn, 1) := by decide +kernel
theorem dX6_count_92 : decode cX6_count 92 = .ok (.aload_n 0, 1) := by decide +kernel
theorem dX6_count_93 : decode cX6_count 93 = .ok (.getfield 42, 3) := by decide +kernel
theorem dX6_count_96 : decode cX6_count 96 = .ok (.getfield 237, 3) := by decide +kernel
theorem dX6_count_99 : decode cX6_count 99 = .ok (.ireturn, 1) := by decide +kernel
theorem dX6_count_100 : decode cX6_count 100 = .ok (.aload_n 0, 1) := by decide +kernel
theorem dX6_count_101 : decode cX6_count 101 = .ok (.getfield 42, 3) := by decide +kernel
theorem dX6_count_104 : decode cX6_count 104 = .ok (.getfield 230, 3) := by decide +kernel
theorem dX6_count_107 : decode cX6_count 107 = .ok (.ireturn, 1) := by decide +kernel
theorem dX6_count_108 : decode cX6_count 108 = .ok (.aload_n 0, 1) := by decide +kernel
theorem dX6_count_109 : decode cX6_count 109 = .ok (.getfield 120, 3) := by decide +kernel
theorem dX6_count_112 : decode cX6_count 112 = .ok (.ireturn, 1) := by decide +kernel
theorem dX6_count_113 : decode cX6_count 113 = .ok (.aload_n 0, 1) := by decide +kernel
theorem dX6_count_114 : decode cX6_count 114 = .ok (.getfield 23, 3) := by decide +kernel
theorem dX6_count_117 : decode cX6_count 117 = .ok (.getfield 113, 3) := by decide +kernel
theorem dX6_count_120 : decode cX6_count 120 = .ok (.ireturn, 1) := by decide +kernel
theorem dX6_count_121 : decode cX6_count 121 = .ok (.aload_n 0, 1) := by decide +kernel
theorem dX6_count_122 : decode cX6_count 122 = .ok (.getfield 224, 3) := by decide +kernel
theorem dX6_count_125 : decode cX6_count 125 = .ok (.ireturn, 1) := by decide +kernel
theorem dX6_count_126 : decode cX6_count 126 = .ok (.aload_n 0, 1) := by decide +kernel
theorem dX6_count_127 : decode cX6_count 127 = .ok (.getfield 10, 3) := by decide +kernel
theorem dX6_count_130 : decode cX6_count 130 = .ok (.invokevirtual 240, 3) := by decide +kernel
theorem dX6_count_133 : decode cX6_count 133 = .ok (.ireturn, 1) := by decide +kernel
theorem dX6_count_134 : decode cX6_count 134 = .ok (.aload_n 0, 1) := by decide +kernel
theorem dX6_count_135 : decode cX6_count 135 = .ok (.getfield 10, 3) := by decide +kernel
theorem dX6_count_138 : decode cX6_count 138 = .ok (.invokevirtual 243, 3) := by decide +kernel
theorem dX6_count_141 : decode cX6_count 141 = .ok (.ireturn, 1) := by decide +kernel
theorem dX6_count_142 : decode cX6_count 142 = .ok (.iconst (-1), 1) := by decide +kernel
theorem dX6_count_143 : decode cX6_count 143 = .ok (.ireturn, 1) := by decide +kernel
theorem dX6_isWithin_0 : decode cX6_isWithin 0 = .ok (.iload_n 1, 1) := by decide +kernel
theorem dX6_isWithin_1 : decode cX6_isWithin 1 = .ok (.iload_n 0, 1) := by decide +kernel
theorem dX6_isWithin_2 : decode cX6_isWithin 2 = .ok (.if_icmp .gt 12, 3) := by decide +kernel
theorem dX6_isWithin_5 : decode cX6_isWithin 5 = .ok (.iload_n 0, 1) := by decide +kernel
theorem dX6_isWithin_6 : decode cX6_isWithin 6 = .ok (.iload_n 2, 1) := by decide +kernel
theorem dX6_isWithin_7 : decode cX6_isWithin 7 = .ok (.if_icmp .gt 7, 3) := by decide +kernel
theorem dX6_isWithin_10 : decode cX6_isWithin 10 = .ok (.iconst 1, 1) := by decide +kernel
theorem dX6_isWithin_11 : decode cX6_isWithin 11 = .ok (.goto 4, 3) := by decide +kernel
theorem dX6_isWithin_14 : decode cX6_isWithin 14 = .ok (.iconst 0, 1) := by decide +kernel
theorem dX6_isWithin_15 : decode cX6_isWithin 15 = .ok (.ireturn, 1) := by decide +kernel
theorem dX6_isEnd_0 : decode cX6_isEnd 0 = .ok (.iload_n 1, 1) := by decide +kernel
theorem dX6_isEnd_1 : decode cX6_isEnd 1 = .ok (.iconst 0, 1) := by decide +kernel
theorem dX6_isEnd_2 : decode cX6_isEnd 2 = .ok (.aload_n 0, 1) := by decide +kernel
theorem dX6_isEnd_3 : decode cX6_isEnd 3 = .ok (.getfield 42, 3) := by decide +kernel
theorem dX6_isEnd_6 : decode cX6_isEnd 6 = .ok (.invokevirtual 211, 3) := by decide +kernel
theorem dX6_isEnd_9 : decode cX6_isEnd 9 = .ok (.iconst 1, 1) := by decide +kernel
theorem dX6_isEnd_10 : decode cX6_isEnd 10 = .ok (.isub, 1) := by decide +kernel
theorem dX6_isEnd_11 : decode cX6_isEnd 11 = .ok (.invokestatic 71, 3) := by decide +kernel
theorem dX6_isEnd_14 : decode cX6_isEnd 14 = .ok (.ireturn, 1) := by decide +kernel
theorem dX6_isQuestion_0 : decode cX6_isQuestion 0 = .ok (.iload_n 1, 1) := by decide +kernel
theorem dX6_isQuestion_1 : decode cX6_isQuestion 1 = .ok (.iconst 0, 1) := by decide +kernel
theorem dX6_isQuestion_2 : decode cX6_isQuestion 2 = .ok (.bipush 100, 2) := by decide +kernel
theorem dX6_isQuestion_4 : decode cX6_isQuestion 4 = .ok (.invokestatic 71, 3) := by decide +kernel
theorem dX6_isQuestion_7 : decode cX6_isQuestion 7 = .ok (.ifCond .ne 5, 3) := by decide +kernel
theorem dX6_isQuestion_10 : decode cX6_isQuestion 10 = .ok (.iconst 0, 1) := by decide +kernel
theorem dX6_isQuestion_11 : decode cX6_isQuestion 11 = .ok (.ireturn, 1) := by decide +kernel
theorem dX6_isQuestion_12 : decode cX6_isQuestion 12 = .ok (.iload_n 2, 1) := by decide +kernel
theorem dX6_isQuestion_13 : decode cX6_isQuestion 13 = .ok (.tableswitch 52 0 4 #[35, 35, 44, 35, 44], 35) := by decide +kernel
theorem dX6_isQuestion_48 : decode cX6_isQuestion 48 = .ok (.aload_n 0, 1) := by decide +kernel
theorem dX6_isQuestion_49 : decode cX6_isQuestion 49 = .ok (.getfield 10, 3) := by decide +kernel
theorem dX6_isQuestion_52 : decode cX6_isQuestion 52 = .ok (.iload_n 3, 1) := by decide +kernel
theorem dX6_isQuestion_53 : decode cX6_isQuestion 53 = .ok (.invokevirtual 79, 3) := by decide +kernel
theorem dX6_isQuestion_56 : decode cX6_isQuestion 56 = .ok (.ireturn, 1) := by decide +kernel
theorem dX6_isQuestion_57 : decode cX6_isQuestion 57 = .ok (.iload_n 3, 1) := by decide +kernel
theorem dX6_isQuestion_58 : decode cX6_isQuestion 58 = .ok (.iconst 0, 1) := by decide +kernel
theorem dX6_isQuestion_59 : decode cX6_isQuestion 59 = .ok (.ldc 246, 2) := by decide +kernel
theorem dX6_isQuestion_61 : decode cX6_isQuestion 61 = .ok (.invokestatic 71, 3) := by decide +kernel
theorem dX6_isQuestion_64 : decode cX6_isQuestion 64 = .ok (.ireturn, 1) := by decide +kernel
theorem dX6_isQuestion_65 : decode cX6_isQuestion 65 = .ok (.iconst 0, 1) := by decide +kernel
theorem dX6_isQuestion_66 : decode cX6_isQuestion 66 = .ok (.ireturn, 1) := by decide +kernel
theorem dX6_beginTry_0 : decode cX6_beginTry 0 = .ok (.aload_n 0, 1) := by decide +kernel
theorem dX6_beginTry_1 : decode cX6_beginTry 1 = .ok (.getfield 35, 3) := by decide +kernel
theorem dX6_beginTry_4 : decode cX6_beginTry 4 = .ok (.aload_n 0, 1) := by decide +kernel
theorem dX6_beginTry_5 : decode cX6_beginTry 5 = .ok (.getfield 10, 3) := by decide +kernel
theorem dX6_beginTry_8 : decode cX6_beginTry 8 = .ok (.invokevirtual 233, 3) := by decide +kernel
theorem dX6_beginTry_11 : decode cX6_beginTry 11 = .ok (.aload_n 0, 1) := by decide +kernel
theorem dX6_beginTry_12 : decode cX6_beginTry 12 = .ok (.getfield 30, 3) := by decide +kernel
theorem dX6_beginTry_15 : decode cX6_beginTry 15 = .ok (.aload_n 0, 1) := by decide +kernel
theorem dX6_beginTry_16 : decode cX6_beginTry 16 = .ok (.getfield 35, 3) := by decide +kernel
theorem dX6_beginTry_19 : decode cX6_beginTry 19 = .ok (.iload_n 1, 1) := by decide +kernel
theorem dX6_beginTry_20 : decode cX6_beginTry 20 = .ok (.invokevirtual 126, 3) := by decide +kernel
theorem dX6_beginTry_23 : decode cX6_beginTry 23 = .ok (.return_, 1) := by decide +kernel
theorem dX6_isSoBehind_0 : decode cX6_isSoBehind 0 = .ok (.aload_n 0, 1) := by decide +kernel
theorem dX6_isSoBehind_1 : decode cX6_isSoBehind 1 = .ok (.iload_n 1, 1) := by decide +kernel
theorem dX6_isSoBehind_2 : decode cX6_isSoBehind 2 = .ok (.invokevirtual 215, 3) := by decide +kernel
theorem dX6_isSoBehind_5 : decode cX6_isSoBehind 5 = .ok (.aload_n 0, 1) := by decide +kernel
theorem dX6_isSoBehind_6 : decode cX6_isSoBehind 6 = .ok (.getfield 30, 3) := by decide +kernel
theorem dX6_isSoBehind_9 : decode cX6_isSoBehind 9 = .ok (.iload_n 2, 1) := by decide +kernel
theorem dX6_isSoBehind_10 : decode cX6_isSoBehind 10 = .ok (.invokevirtual 130, 3) := by decide +kernel
theorem dX6_isSoBehind_13 : decode cX6_isSoBehind 13 = .ok (.iload_n 3, 1) := by decide +kernel
theorem dX6_isSoBehind_14 : decode cX6_isSoBehind 14 = .ok (.tableswitch 86 0 3 #[30, 48, 58, 76], 30) := by decide +kernel
theorem dX6_isSoBehind_44 : decode cX6_isSoBehind 44 = .ok (.aload_n 0, 1) := by decide +kernel
theorem dX6_isSoBehind_45 : decode cX6_isSoBehind 45 = .ok (.getfield 35, 3) := by decide +kernel
theorem dX6_isSoBehind_48 : decode cX6_isSoBehind 48 = .ok (.iload 4, 2) := by decide +kernel
theorem dX6_isSoBehind_50 : decode cX6_isSoBehind 50 = .ok (.invokevirtual 136, 3) := by decide +kernel
theorem dX6_isSoBehind_53 : decode cX6_isSoBehind 53 = .ok (.ifCond .ne 7, 3) := by decide +kernel
theorem dX6_isSoBehind_56 : decode cX6_isSoBehind 56 = .ok (.iconst 1, 1) := by decide +kernel
theorem dX6_isSoBehind_57 : decode cX6_isSoBehind 57 = .ok (.goto 4, 3) := by decide +kernel
theorem dX6_isSoBehind_60 : decode cX6_isSoBehind 60 = .ok (.iconst 0, 1) := by decide +kernel
theorem dX6_isSoBehind_61 : decode cX6_isSoBehind 61 = .ok (.ireturn, 1) := by decide +kernel
theorem dX6_isSoBehind_62 : decode cX6_isSoBehind 62 = .ok (.aload_n 0, 1) := by decide +kernel
theorem dX6_isSoBehind_63 : decode cX6_isSoBehind 63 = .ok (.getfield 35, 3) := by decide +kernel
theorem dX6_isSoBehind_66 : decode cX6_isSoBehind 66 = .ok (.iload 4, 2) := by decide +kernel
theorem dX6_isSoBehind_68 : decode cX6_isSoBehind 68 = .ok (.invokevirtual 247, 3) := by decide +kernel
theorem dX6_isSoBehind_71 : decode cX6_isSoBehind 71 = .ok (.ireturn, 1) := by decide +kernel
theorem dX6_isSoBehind_72 : decode cX6_isSoBehind 72 = .ok (.aload_n 0, 1) := by decide +kernel
theorem dX6_isSoBehind_73 : decode cX6_isSoBehind 73 = .ok (.getfield 35, 3) := by decide +kernel
theorem dX6_isSoBehind_76 : decode cX6_isSoBehind 76 = .ok (.getfield 218, 3) := by decide +kernel
theorem dX6_isSoBehind_79 : decode cX6_isSoBehind 79 = .ok (.iload 4, 2) := by decide +kernel
theorem dX6_isSoBehind_81 : decode cX6_isSoBehind 81 = .ok (.if_icmp .lt 7, 3) := by decide +kernel
theorem dX6_isSoBehind_84 : decode cX6_isSoBehind 84 = .ok (.iconst 1, 1) := by decide +kernel
theorem dX6_isSoBehind_85 : decode cX6_isSoBehind 85 = .ok (.goto 4, 3) := by decide +kernel
theorem dX6_isSoBehind_88 : decode cX6_isSoBehind 88 = .ok (.iconst 0, 1) := by decide +kernel
theorem dX6_isSoBehind_89 : decode cX6_isSoBehind 89 = .ok (.ireturn, 1) := by decide +kernel
theorem dX6_isSoBehind_90 : decode cX6_isSoBehind 90 = .ok (.aload_n 0, 1) := by decide +kernel
theorem dX6_isSoBehind_91 : decode cX6_isSoBehind 91 = .ok (.getfield 35, 3) := by decide +kernel
theorem dX6_isSoBehind_94 : decode cX6_isSoBehind 94 = .ok (.iload 4, 2) := by decide +kernel
theorem dX6_isSoBehind_96 : decode cX6_isSoBehind 96 = .ok (.invokevirtual 250, 3) := by decide +kernel
theorem dX6_isSoBehind_99 : decode cX6_isSoBehind 99 = .ok (.ireturn, 1) := by decide +kernel
theorem dX6_isSoBehind_100 : decode cX6_isSoBehind 100 = .ok (.aload_n 0, 1) := by decide +kernel
theorem dX6_isSoBehind_101 : decode cX6_isSoBehind 101 = .ok (.getfield 35, 3) := by decide +kernel
theorem dX6_isSoBehind_104 : decode cX6_isSoBehind 104 = .ok (.getfield 196, 3) := by decide +kernel
theorem dX6_isSoBehind_107 : decode cX6_isSoBehind 107 = .ok (.iload 4, 2) := by decide +kernel
theorem dX6_isSoBehind_109 : decode cX6_isSoBehind 109 = .ok (.if_icmp .lt 7, 3) := by decide +kernel
theorem dX6_isSoBehind_112 : decode cX6_isSoBehind 112 = .ok (.iconst 1, 1) := by decide +kernel
theorem dX6_isSoBehind_113 : decode cX6_isSoBehind 113 = .ok (.goto 4, 3) := by decide +kernel
theorem dX6_isSoBehind_116 : decode cX6_isSoBehind 116 = .ok (.iconst 0, 1) := by decide +kernel
theorem dX6_isSoBehind_117 : decode cX6_isSoBehind 117 = .ok (.ireturn, 1) := by decide +kernel
theorem dX6_seenOf_0 : decode cX6_seenOf 0 = .ok (.aload_n 0, 1) := by decide +kernel
theorem dX6_seenOf_1 : decode cX6_seenOf 1 = .ok (.getfield 30, 3) := by decide +kernel
theorem dX6_seenOf_4 : decode cX6_seenOf 4 = .ok (.aload_n 0, 1) := by decide +kernel
theorem dX6_seenOf_5 : decode cX6_seenOf 5 = .ok (.getfield 10, 3) := by decide +kernel
theorem dX6_seenOf_8 : decode cX6_seenOf 8 = .ok (.aload_n 0, 1) := by decide +kernel
theorem dX6_seenOf_9 : decode cX6_seenOf 9 = .ok (.getfield 120, 3) := by decide +kernel
theorem dX6_seenOf_12 : decode cX6_seenOf 12 = .ok (.invokevirtual 126, 3) := by decide +kernel
theorem dX6_seenOf_15 : decode cX6_seenOf 15 = .ok (.aload_n 0, 1) := by decide +kernel
theorem dX6_seenOf_16 : decode cX6_seenOf 16 = .ok (.getfield 30, 3) := by decide +kernel
theorem dX6_seenOf_19 : decode cX6_seenOf 19 = .ok (.bipush 8, 2) := by decide +kernel
theorem dX6_seenOf_21 : decode cX6_seenOf 21 = .ok (.aload_n 1, 1) := by decide +kernel
theorem dX6_seenOf_22 : decode cX6_seenOf 22 = .ok (.invokevirtual 253, 3) := by decide +kernel
theorem dX6_seenOf_25 : decode cX6_seenOf 25 = .ok (.istore_n 2, 1) := by decide +kernel
theorem dX6_seenOf_26 : decode cX6_seenOf 26 = .ok (.iload_n 2, 1) := by decide +kernel
theorem dX6_seenOf_27 : decode cX6_seenOf 27 = .ok (.iconst (-1), 1) := by decide +kernel
theorem dX6_seenOf_28 : decode cX6_seenOf 28 = .ok (.if_icmp .ne 7, 3) := by decide +kernel
theorem dX6_seenOf_31 : decode cX6_seenOf 31 = .ok (.iconst 0, 1) := by decide +kernel
theorem dX6_seenOf_32 : decode cX6_seenOf 32 = .ok (.goto 4, 3) := by decide +kernel
theorem dX6_seenOf_35 : decode cX6_seenOf 35 = .ok (.iload_n 2, 1) := by decide +kernel
theorem dX6_seenOf_36 : decode cX6_seenOf 36 = .ok (.ireturn, 1) := by decide +kernel
theorem dX6_isFit_0 : decode cX6_isFit 0 = .ok (.iconst 0, 1) := by decide +kernel
theorem dX6_isFit_1 : decode cX6_isFit 1 = .ok (.istore_n 2, 1) := by decide +kernel
theorem dX6_isFit_2 : decode cX6_isFit 2 = .ok (.iconst 0, 1) := by decide +kernel
theorem dX6_isFit_3 : decode cX6_isFit 3 = .ok (.istore_n 3, 1) := by decide +kernel
theorem dX6_isFit_4 : decode cX6_isFit 4 = .ok (.iload_n 3, 1) := by decide +kernel
theorem dX6_isFit_5 : decode cX6_isFit 5 = .ok (.aload_n 0, 1) := by decide +kernel
theorem dX6_isFit_6 : decode cX6_isFit 6 = .ok (.getfield 224, 3) := by decide +kernel
theorem dX6_isFit_9 : decode cX6_isFit 9 = .ok (.if_icmp .ge 20, 3) := by decide +kernel
theorem dX6_isFit_12 : decode cX6_isFit 12 = .ok (.iload_n 2, 1) := by decide +kernel
theorem dX6_isFit_13 : decode cX6_isFit 13 = .ok (.aload_n 0, 1) := by decide +kernel
theorem dX6_isFit_14 : decode cX6_isFit 14 = .ok (.getfield 64, 3) := by decide +kernel
theorem dX6_isFit_17 : decode cX6_isFit 17 = .ok (.iload_n 3, 1) := by decide +kernel
theorem dX6_isFit_18 : decode cX6_isFit 18 = .ok (.iaload, 1) := by decide +kernel
theorem dX6_isFit_19 : decode cX6_isFit 19 = .ok (.invokestatic 257, 3) := by decide +kernel
theorem dX6_isFit_22 : decode cX6_isFit 22 = .ok (.istore_n 2, 1) := by decide +kernel
theorem dX6_isFit_23 : decode cX6_isFit 23 = .ok (.iinc 3 1, 3) := by decide +kernel
theorem dX6_isFit_26 : decode cX6_isFit 26 = .ok (.goto (-22), 3) := by decide +kernel
theorem dX6_isFit_29 : decode cX6_isFit 29 = .ok (.aload_n 0, 1) := by decide +kernel
theorem dX6_isFit_30 : decode cX6_isFit 30 = .ok (.iload_n 1, 1) := by decide +kernel
theorem dX6_isFit_31 : decode cX6_isFit 31 = .ok (.invokevirtual 215, 3) := by decide +kernel
theorem dX6_isFit_34 : decode cX6_isFit 34 = .ok (.iconst 0, 1) := by decide +kernel
theorem dX6_isFit_35 : decode cX6_isFit 35 = .ok (.istore_n 3, 1) := by decide +kernel
theorem dX6_isFit_36 : decode cX6_isFit 36 = .ok (.iload_n 3, 1) := by decide +kernel
theorem dX6_isFit_37 : decode cX6_isFit 37 = .ok (.iload_n 2, 1) := by decide +kernel
theorem dX6_isFit_38 : decode cX6_isFit 38 = .ok (.if_icmp .gt 69, 3) := by decide +kernel
theorem dX6_isFit_41 : decode cX6_isFit 41 = .ok (.iload_n 3, 1) := by decide +kernel
theorem dX6_isFit_42 : decode cX6_isFit 42 = .ok (.ifCond .le 11, 3) := by decide +kernel
theorem dX6_isFit_45 : decode cX6_isFit 45 = .ok (.aload_n 0, 1) := by decide +kernel
theorem dX6_isFit_46 : decode cX6_isFit 46 = .ok (.getfield 30, 3) := by decide +kernel
theorem dX6_isFit_49 : decode cX6_isFit 49 = .ok (.iconst 1, 1) := by decide +kernel
theorem dX6_isFit_50 : decode cX6_isFit 50 = .ok (.invokevirtual 130, 3) := by decide +kernel
theorem dX6_isFit_53 : decode cX6_isFit 53 = .ok (.iconst 0, 1) := by decide +kernel
theorem dX6_isFit_54 : decode cX6_isFit 54 = .ok (.istore 4, 2) := by decide +kernel
theorem dX6_isFit_56 : decode cX6_isFit 56 = .ok (.iload 4, 2) := by decide +kernel
theorem dX6_isFit_58 : decode cX6_isFit 58 = .ok (.aload_n 0, 1) := by decide +kernel
theorem dX6_isFit_59 : decode cX6_isFit 59 = .ok (.getfield 224, 3) := by decide +kernel
theorem dX6_isFit_62 : decode cX6_isFit 62 = .ok (.if_icmp .ge 39, 3) := by decide +kernel
theorem dX6_isFit_65 : decode cX6_isFit 65 = .ok (.aload_n 0, 1) := by decide +kernel
theorem dX6_isFit_66 : decode cX6_isFit 66 = .ok (.getfield 64, 3) := by decide +kernel
theorem dX6_isFit_69 : decode cX6_isFit 69 = .ok (.iload 4, 2) := by decide +kernel
theorem dX6_isFit_71 : decode cX6_isFit 71 = .ok (.iaload, 1) := by decide +kernel
theorem dX6_isFit_72 : decode cX6_isFit 72 = .ok (.iload_n 3, 1) := by decide +kernel
theorem dX6_isFit_73 : decode cX6_isFit 73 = .ok (.if_icmp .ne 22, 3) := by decide +kernel
theorem dX6_isFit_76 : decode cX6_isFit 76 = .ok (.aload_n 0, 1) := by decide +kernel
theorem dX6_isFit_77 : decode cX6_isFit 77 = .ok (.getfield 60, 3) := by decide +kernel
theorem dX6_isFit_80 : decode cX6_isFit 80 = .ok (.iload 4, 2) := by decide +kernel
theorem dX6_isFit_82 : decode cX6_isFit 82 = .ok (.iaload, 1) := by decide +kernel
theorem dX6_isFit_83 : decode cX6_isFit 83 = .ok (.aload_n 0, 1) := by decide +kernel
theorem dX6_isFit_84 : decode cX6_isFit 84 = .ok (.getfield 35, 3) := by decide +kernel
theorem dX6_isFit_87 : decode cX6_isFit 87 = .ok (.getfield 218, 3) := by decide +kernel
theorem dX6_isFit_90 : decode cX6_isFit 90 = .ok (.if_icmp .eq 5, 3) := by decide +kernel
theorem dX6_isFit_93 : decode cX6_isFit 93 = .ok (.iconst 0, 1) := by decide +kernel
theorem dX6_isFit_94 : decode cX6_isFit 94 = .ok (.ireturn, 1) := by decide +kernel
theorem dX6_isFit_95 : decode cX6_isFit 95 = .ok (.iinc 4 1, 3) := by decide +kernel
theorem dX6_isFit_98 : decode cX6_isFit 98 = .ok (.goto (-42), 3) := by decide +kernel
theorem dX6_isFit_101 : decode cX6_isFit 101 = .ok (.iinc 3 1, 3) := by decide +kernel
theorem dX6_isFit_104 : decode cX6_isFit 104 = .ok (.goto (-68), 3) := by decide +kernel
theorem dX6_isFit_107 : decode cX6_isFit 107 = .ok (.iconst 1, 1) := by decide +kernel
theorem dX6_isFit_108 : decode cX6_isFit 108 = .ok (.ireturn, 1) := by decide +kernel
theorem dL_has_0 : decode cL_has 0 = .ok (.aload_n 3, 1) := by decide +kernel
theorem dL_has_1 : decode cL_has 1 = .ok (.iconst 0, 1) := by decide +kernel
theorem dL_has_2 : decode cL_has 2 = .ok (.aload_n 0, 1) := by decide +kernel
theorem dL_has_3 : decode cL_has 3 = .ok (.iload_n 1, 1) := by decide +kernel
theorem dL_has_4 : decode cL_has 4 = .ok (.iload_n 2, 1) := by decide +kernel
theorem dL_has_5 : decode cL_has 5 = .ok (.invokevirtual 7, 3) := by decide +kernel
theorem dL_has_8 : decode cL_has 8 = .ok (.i2l, 1) := by decide +kernel
theorem dL_has_9 : decode cL_has 9 = .ok (.lastore, 1) := by decide +kernel
theorem dL_has_10 : decode cL_has 10 = .ok (.goto 7, 3) := by decide +kernel
theorem dL_has_13 : decode cL_has 13 = .ok (.astore 4, 2) := by decide +kernel
theorem dL_has_15 : decode cL_has 15 = .ok (.iconst 1, 1) := by decide +kernel
theorem dL_has_16 : decode cL_has 16 = .ok (.ireturn, 1) := by decide +kernel
theorem dL_has_17 : decode cL_has 17 = .ok (.iconst 0, 1) := by decide +kernel
theorem dL_has_18 : decode cL_has 18 = .ok (.ireturn, 1) := by decide +kernel
theorem dL_law_0 : decode cL_law 0 = .ok (.new 8, 3) := by decide +kernel
theorem dL_law_3 : decode cL_law 3 = .ok (.dup, 1) := by decide +kernel
theorem dL_law_4 : decode cL_law 4 = .ok (.invokespecial 15, 3) := by decide +kernel
theorem dL_law_7 : decode cL_law 7 = .ok (.astore_n 1, 1) := by decide +kernel
theorem dL_law_8 : decode cL_law 8 = .ok (.new 16, 3) := by decide +kernel
theorem dL_law_11 : decode cL_law 11 = .ok (.dup, 1) := by decide +kernel
theorem dL_law_12 : decode cL_law 12 = .ok (.invokespecial 18, 3) := by decide +kernel
theorem dL_law_15 : decode cL_law 15 = .ok (.astore_n 2, 1) := by decide +kernel
theorem dL_law_16 : decode cL_law 16 = .ok (.iconst 1, 1) := by decide +kernel
theorem dL_law_17 : decode cL_law 17 = .ok (.newarray .long, 2) := by decide +kernel
theorem dL_law_19 : decode cL_law 19 = .ok (.astore_n 3, 1) := by decide +kernel
theorem dL_law_20 : decode cL_law 20 = .ok (.iconst 0, 1) := by decide +kernel
theorem dL_law_21 : decode cL_law 21 = .ok (.istore 4, 2) := by decide +kernel
theorem dL_law_23 : decode cL_law 23 = .ok (.iload 4, 2) := by decide +kernel
theorem dL_law_25 : decode cL_law 25 = .ok (.aload_n 0, 1) := by decide +kernel
theorem dL_law_26 : decode cL_law 26 = .ok (.arraylength, 1) := by decide +kernel
theorem dL_law_27 : decode cL_law 27 = .ok (.bipush 7, 2) := by decide +kernel
theorem dL_law_29 : decode cL_law 29 = .ok (.isub, 1) := by decide +kernel
theorem dL_law_30 : decode cL_law 30 = .ok (.if_icmp .gt 1114, 3) := by decide +kernel
theorem dL_law_33 : decode cL_law 33 = .ok (.aload_n 0, 1) := by decide +kernel
theorem dL_law_34 : decode cL_law 34 = .ok (.iload 4, 2) := by decide +kernel
theorem dL_law_36 : decode cL_law 36 = .ok (.iaload, 1) := by decide +kernel
theorem dL_law_37 : decode cL_law 37 = .ok (.bipush 31, 2) := by decide +kernel
theorem dL_law_39 : decode cL_law 39 = .ok (.iand, 1) := by decide +kernel
theorem dL_law_40 : decode cL_law 40 = .ok (.tableswitch 1098 0 23 #[112, 137, 198, 247, 296, 321, 468, 481, 506, 531, 599, 636, 673, 699, 760, 809, 846, 895, 908, 945, 958, 983, 1020, 1073], 112) := by decide +kernel
theorem dL_law_152 : decode cL_law 152 = .ok (.aload_n 1, 1) := by decide +kernel
theorem dL_law_153 : decode cL_law 153 = .ok (.aload_n 0, 1) := by decide +kernel
theorem dL_law_154 : decode cL_law 154 = .ok (.iload 4, 2) := by decide +kernel
theorem dL_law_156 : decode cL_law 156 = .ok (.iconst 1, 1) := by decide +kernel
theorem dL_law_157 : decode cL_law 157 = .ok (.iadd, 1) := by decide +kernel
theorem dL_law_158 : decode cL_law 158 = .ok (.iaload, 1) := by decide +kernel
theorem dL_law_159 : decode cL_law 159 = .ok (.invokevirtual 19, 3) := by decide +kernel
theorem dL_law_162 : decode cL_law 162 = .ok (.aload_n 2, 1) := by decide +kernel
theorem dL_law_163 : decode cL_law 163 = .ok (.aload_n 0, 1) := by decide +kernel
theorem dL_law_164 : decode cL_law 164 = .ok (.iload 4, 2) := by decide +kernel
theorem dL_law_166 : decode cL_law 166 = .ok (.iconst 1, 1) := by decide +kernel
theorem dL_law_167 : decode cL_law 167 = .ok (.iadd, 1) := by decide +kernel
theorem dL_law_168 : decode cL_law 168 = .ok (.iaload, 1) := by decide +kernel
theorem dL_law_169 : decode cL_law 169 = .ok (.invokevirtual 23, 3) := by decide +kernel
theorem dL_law_172 : decode cL_law 172 = .ok (.if_icmp .eq 966, 3) := by decide +kernel
theorem dL_law_175 : decode cL_law 175 = .ok (.iconst 0, 1) := by decide +kernel
theorem dL_law_176 : decode cL_law 176 = .ok (.ireturn, 1) := by decide +kernel
theorem dL_law_177 : decode cL_law 177 = .ok (.aload_n 1, 1) := by decide +kernel
theorem dL_law_178 : decode cL_law 178 = .ok (.aload_n 0, 1) := by decide +kernel
theorem dL_law_179 : decode cL_law 179 = .ok (.iload 4, 2) := by decide +kernel
theorem dL_law_181 : decode cL_law 181 = .ok (.iconst 1, 1) := by decide +kernel
theorem dL_law_182 : decode cL_law 182 = .ok (.iadd, 1) := by decide +kernel
theorem dL_law_183 : decode cL_law 183 = .ok (.iaload, 1) := by decide +kernel
theorem dL_law_184 : decode cL_law 184 = .ok (.aload_n 0, 1) := by decide +kernel
theorem dL_law_185 : decode cL_law 185 = .ok (.iload 4, 2) := by decide +kernel
theorem dL_law_187 : decode cL_law 187 = .ok (.iconst 2, 1) := by decide +kernel
theorem dL_law_188 : decode cL_law 188 = .ok (.iadd, 1) := by decide +kernel
theorem dL_law_189 : decode cL_law 189 = .ok (.iaload, 1) := by decide +kernel
theorem dL_law_190 : decode cL_law 190 = .ok (.aload_n 0, 1) := by decide +kernel
theorem dL_law_191 : decode cL_law 191 = .ok (.iload 4, 2) := by decide +kernel
theorem dL_law_193 : decode cL_law 193 = .ok (.iconst 3, 1) := by decide +kernel
theorem dL_law_194 : decode cL_law 194 = .ok (.iadd, 1) := by decide +kernel
theorem dL_law_195 : decode cL_law 195 = .ok (.iaload, 1) := by decide +kernel
theorem dL_law_196 : decode cL_law 196 = .ok (.aload_n 0, 1) := by decide +kernel
theorem dL_law_197 : decode cL_law 197 = .ok (.iload 4, 2) := by decide +kernel
theorem dL_law_199 : decode cL_law 199 = .ok (.iconst 4, 1) := by decide +kernel
theorem dL_law_200 : decode cL_law 200 = .ok (.iadd, 1) := by decide +kernel
theorem dL_law_201 : decode cL_law 201 = .ok (.iaload, 1) := by decide +kernel
theorem dL_law_202 : decode cL_law 202 = .ok (.invokevirtual 24, 3) := by decide +kernel
theorem dL_law_205 : decode cL_law 205 = .ok (.aload_n 2, 1) := by decide +kernel
theorem dL_law_206 : decode cL_law 206 = .ok (.aload_n 0, 1) := by decide +kernel
theorem dL_law_207 : decode cL_law 207 = .ok (.iload 4, 2) := by decide +kernel
theorem dL_law_209 : decode cL_law 209 = .ok (.iconst 1, 1) := by decide +kernel
theorem dL_law_210 : decode cL_law 210 = .ok (.iadd, 1) := by decide +kernel
theorem dL_law_211 : decode cL_law 211 = .ok (.iaload, 1) := by decide +kernel
theorem dL_law_212 : decode cL_law 212 = .ok (.aload_n 0, 1) := by decide +kernel
theorem dL_law_213 : decode cL_law 213 = .ok (.iload 4, 2) := by decide +kernel
theorem dL_law_215 : decode cL_law 215 = .ok (.iconst 2, 1) := by decide +kernel
theorem dL_law_216 : decode cL_law 216 = .ok (.iadd, 1) := by decide +kernel
theorem dL_law_217 : decode cL_law 217 = .ok (.iaload, 1) := by decide +kernel
theorem dL_law_218 : decode cL_law 218 = .ok (.aload_n 0, 1) := by decide +kernel
theorem dL_law_219 : decode cL_law 219 = .ok (.iload 4, 2) := by decide +kernel
theorem dL_law_221 : decode cL_law 221 = .ok (.iconst 3, 1) := by decide +kernel
theorem dL_law_222 : decode cL_law 222 = .ok (.iadd, 1) := by decide +kernel
theorem dL_law_223 : decode cL_law 223 = .ok (.iaload, 1) := by decide +kernel
theorem dL_law_224 : decode cL_law 224 = .ok (.aload_n 0, 1) := by decide +kernel
theorem dL_law_225 : decode cL_law 225 = .ok (.iload 4, 2) := by decide +kernel
theorem dL_law_227 : decode cL_law 227 = .ok (.iconst 4, 1) := by decide +kernel
theorem dL_law_228 : decode cL_law 228 = .ok (.iadd, 1) := by decide +kernel
theorem dL_law_229 : decode cL_law 229 = .ok (.iaload, 1) := by decide +kernel
theorem dL_law_230 : decode cL_law 230 = .ok (.invokevirtual 28, 3) := by decide +kernel
theorem dL_law_233 : decode cL_law 233 = .ok (.if_icmp .eq 905, 3) := by decide +kernel
theorem dL_law_236 : decode cL_law 236 = .ok (.iconst 0, 1) := by decide +kernel
theorem dL_law_237 : decode cL_law 237 = .ok (.ireturn, 1) := by decide +kernel
theorem dL_law_238 : decode cL_law 238 = .ok (.aload_n 1, 1) := by decide +kernel
theorem dL_law_239 : decode cL_law 239 = .ok (.aload_n 0, 1) := by decide +kernel
theorem dL_law_240 : decode cL_law 240 = .ok (.iload 4, 2) := by decide +kernel
theorem dL_law_242 : decode cL_law 242 = .ok (.iconst 1, 1) := by decide +kernel
theorem dL_law_243 : decode cL_law 243 = .ok (.iadd, 1) := by decide +kernel
theorem dL_law_244 : decode cL_law 244 = .ok (.iaload, 1) := by decide +kernel
theorem dL_law_245 : decode cL_law 245 = .ok (.aload_n 0, 1) := by decide +kernel
