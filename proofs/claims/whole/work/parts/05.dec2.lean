theorem dX3_isThereIn_11 : decode cX3_isThereIn 11 = .ok (.iload_n 1, 1) := by decide +kernel
theorem dX3_isThereIn_12 : decode cX3_isThereIn 12 = .ok (.if_icmp .ne 7, 3) := by decide +kernel
theorem dX3_isThereIn_15 : decode cX3_isThereIn 15 = .ok (.iconst 1, 1) := by decide +kernel
theorem dX3_isThereIn_16 : decode cX3_isThereIn 16 = .ok (.goto 4, 3) := by decide +kernel
theorem dX3_isThereIn_19 : decode cX3_isThereIn 19 = .ok (.iconst 0, 1) := by decide +kernel
theorem dX3_isThereIn_20 : decode cX3_isThereIn 20 = .ok (.ireturn, 1) := by decide +kernel
theorem dX3_takeGas_0 : decode cX3_takeGas 0 = .ok (.aload_n 0, 1) := by decide +kernel
theorem dX3_takeGas_1 : decode cX3_takeGas 1 = .ok (.dup, 1) := by decide +kernel
theorem dX3_takeGas_2 : decode cX3_takeGas 2 = .ok (.getfield 25, 3) := by decide +kernel
theorem dX3_takeGas_5 : decode cX3_takeGas 5 = .ok (.iload_n 1, 1) := by decide +kernel
theorem dX3_takeGas_6 : decode cX3_takeGas 6 = .ok (.iadd, 1) := by decide +kernel
theorem dX3_takeGas_7 : decode cX3_takeGas 7 = .ok (.putfield 25, 3) := by decide +kernel
theorem dX3_takeGas_10 : decode cX3_takeGas 10 = .ok (.aload_n 0, 1) := by decide +kernel
theorem dX3_takeGas_11 : decode cX3_takeGas 11 = .ok (.dup, 1) := by decide +kernel
theorem dX3_takeGas_12 : decode cX3_takeGas 12 = .ok (.getfield 22, 3) := by decide +kernel
theorem dX3_takeGas_15 : decode cX3_takeGas 15 = .ok (.iload_n 1, 1) := by decide +kernel
theorem dX3_takeGas_16 : decode cX3_takeGas 16 = .ok (.iadd, 1) := by decide +kernel
theorem dX3_takeGas_17 : decode cX3_takeGas 17 = .ok (.putfield 22, 3) := by decide +kernel
theorem dX3_takeGas_20 : decode cX3_takeGas 20 = .ok (.return_, 1) := by decide +kernel
theorem dX3_takeDust_0 : decode cX3_takeDust 0 = .ok (.aload_n 0, 1) := by decide +kernel
theorem dX3_takeDust_1 : decode cX3_takeDust 1 = .ok (.getfield 9, 3) := by decide +kernel
theorem dX3_takeDust_4 : decode cX3_takeDust 4 = .ok (.aload_n 0, 1) := by decide +kernel
theorem dX3_takeDust_5 : decode cX3_takeDust 5 = .ok (.getfield 19, 3) := by decide +kernel
theorem dX3_takeDust_8 : decode cX3_takeDust 8 = .ok (.dup2, 1) := by decide +kernel
theorem dX3_takeDust_9 : decode cX3_takeDust 9 = .ok (.iaload, 1) := by decide +kernel
theorem dX3_takeDust_10 : decode cX3_takeDust 10 = .ok (.iload_n 1, 1) := by decide +kernel
theorem dX3_takeDust_11 : decode cX3_takeDust 11 = .ok (.iadd, 1) := by decide +kernel
theorem dX3_takeDust_12 : decode cX3_takeDust 12 = .ok (.iastore, 1) := by decide +kernel
theorem dX3_takeDust_13 : decode cX3_takeDust 13 = .ok (.aload_n 0, 1) := by decide +kernel
theorem dX3_takeDust_14 : decode cX3_takeDust 14 = .ok (.dup, 1) := by decide +kernel
theorem dX3_takeDust_15 : decode cX3_takeDust 15 = .ok (.getfield 22, 3) := by decide +kernel
theorem dX3_takeDust_18 : decode cX3_takeDust 18 = .ok (.iload_n 1, 1) := by decide +kernel
theorem dX3_takeDust_19 : decode cX3_takeDust 19 = .ok (.iadd, 1) := by decide +kernel
theorem dX3_takeDust_20 : decode cX3_takeDust 20 = .ok (.putfield 22, 3) := by decide +kernel
theorem dX3_takeDust_23 : decode cX3_takeDust 23 = .ok (.return_, 1) := by decide +kernel
theorem dX3_takeAllOf_0 : decode cX3_takeAllOf 0 = .ok (.iconst 0, 1) := by decide +kernel
theorem dX3_takeAllOf_1 : decode cX3_takeAllOf 1 = .ok (.istore_n 2, 1) := by decide +kernel
theorem dX3_takeAllOf_2 : decode cX3_takeAllOf 2 = .ok (.iload_n 2, 1) := by decide +kernel
theorem dX3_takeAllOf_3 : decode cX3_takeAllOf 3 = .ok (.bipush 12, 2) := by decide +kernel
theorem dX3_takeAllOf_5 : decode cX3_takeAllOf 5 = .ok (.if_icmp .ge 24, 3) := by decide +kernel
theorem dX3_takeAllOf_8 : decode cX3_takeAllOf 8 = .ok (.aload_n 0, 1) := by decide +kernel
theorem dX3_takeAllOf_9 : decode cX3_takeAllOf 9 = .ok (.getfield 9, 3) := by decide +kernel
theorem dX3_takeAllOf_12 : decode cX3_takeAllOf 12 = .ok (.iload_n 2, 1) := by decide +kernel
theorem dX3_takeAllOf_13 : decode cX3_takeAllOf 13 = .ok (.dup2, 1) := by decide +kernel
theorem dX3_takeAllOf_14 : decode cX3_takeAllOf 14 = .ok (.iaload, 1) := by decide +kernel
theorem dX3_takeAllOf_15 : decode cX3_takeAllOf 15 = .ok (.aload_n 1, 1) := by decide +kernel
theorem dX3_takeAllOf_16 : decode cX3_takeAllOf 16 = .ok (.getfield 9, 3) := by decide +kernel
theorem dX3_takeAllOf_19 : decode cX3_takeAllOf 19 = .ok (.iload_n 2, 1) := by decide +kernel
theorem dX3_takeAllOf_20 : decode cX3_takeAllOf 20 = .ok (.iaload, 1) := by decide +kernel
theorem dX3_takeAllOf_21 : decode cX3_takeAllOf 21 = .ok (.iadd, 1) := by decide +kernel
theorem dX3_takeAllOf_22 : decode cX3_takeAllOf 22 = .ok (.iastore, 1) := by decide +kernel
theorem dX3_takeAllOf_23 : decode cX3_takeAllOf 23 = .ok (.iinc 2 1, 3) := by decide +kernel
theorem dX3_takeAllOf_26 : decode cX3_takeAllOf 26 = .ok (.goto (-24), 3) := by decide +kernel
theorem dX3_takeAllOf_29 : decode cX3_takeAllOf 29 = .ok (.aload_n 0, 1) := by decide +kernel
theorem dX3_takeAllOf_30 : decode cX3_takeAllOf 30 = .ok (.dup, 1) := by decide +kernel
theorem dX3_takeAllOf_31 : decode cX3_takeAllOf 31 = .ok (.getfield 25, 3) := by decide +kernel
theorem dX3_takeAllOf_34 : decode cX3_takeAllOf 34 = .ok (.aload_n 1, 1) := by decide +kernel
theorem dX3_takeAllOf_35 : decode cX3_takeAllOf 35 = .ok (.getfield 25, 3) := by decide +kernel
theorem dX3_takeAllOf_38 : decode cX3_takeAllOf 38 = .ok (.iadd, 1) := by decide +kernel
theorem dX3_takeAllOf_39 : decode cX3_takeAllOf 39 = .ok (.putfield 25, 3) := by decide +kernel
theorem dX3_takeAllOf_42 : decode cX3_takeAllOf 42 = .ok (.aload_n 0, 1) := by decide +kernel
theorem dX3_takeAllOf_43 : decode cX3_takeAllOf 43 = .ok (.dup, 1) := by decide +kernel
theorem dX3_takeAllOf_44 : decode cX3_takeAllOf 44 = .ok (.getfield 22, 3) := by decide +kernel
theorem dX3_takeAllOf_47 : decode cX3_takeAllOf 47 = .ok (.aload_n 1, 1) := by decide +kernel
theorem dX3_takeAllOf_48 : decode cX3_takeAllOf 48 = .ok (.getfield 22, 3) := by decide +kernel
theorem dX3_takeAllOf_51 : decode cX3_takeAllOf 51 = .ok (.iadd, 1) := by decide +kernel
theorem dX3_takeAllOf_52 : decode cX3_takeAllOf 52 = .ok (.putfield 22, 3) := by decide +kernel
theorem dX3_takeAllOf_55 : decode cX3_takeAllOf 55 = .ok (.return_, 1) := by decide +kernel
theorem dX3_familyOf_0 : decode cX3_familyOf 0 = .ok (.iconst (-1), 1) := by decide +kernel
theorem dX3_familyOf_1 : decode cX3_familyOf 1 = .ok (.istore_n 2, 1) := by decide +kernel
theorem dX3_familyOf_2 : decode cX3_familyOf 2 = .ok (.iconst 0, 1) := by decide +kernel
theorem dX3_familyOf_3 : decode cX3_familyOf 3 = .ok (.istore_n 3, 1) := by decide +kernel
theorem dX3_familyOf_4 : decode cX3_familyOf 4 = .ok (.iconst 0, 1) := by decide +kernel
theorem dX3_familyOf_5 : decode cX3_familyOf 5 = .ok (.istore 4, 2) := by decide +kernel
theorem dX3_familyOf_7 : decode cX3_familyOf 7 = .ok (.iload 4, 2) := by decide +kernel
theorem dX3_familyOf_9 : decode cX3_familyOf 9 = .ok (.iload_n 1, 1) := by decide +kernel
theorem dX3_familyOf_10 : decode cX3_familyOf 10 = .ok (.if_icmp .ge 38, 3) := by decide +kernel
theorem dX3_familyOf_13 : decode cX3_familyOf 13 = .ok (.iload 4, 2) := by decide +kernel
theorem dX3_familyOf_15 : decode cX3_familyOf 15 = .ok (.bipush 12, 2) := by decide +kernel
theorem dX3_familyOf_17 : decode cX3_familyOf 17 = .ok (.if_icmp .ge 31, 3) := by decide +kernel
theorem dX3_familyOf_20 : decode cX3_familyOf 20 = .ok (.aload_n 0, 1) := by decide +kernel
theorem dX3_familyOf_21 : decode cX3_familyOf 21 = .ok (.getfield 9, 3) := by decide +kernel
theorem dX3_familyOf_24 : decode cX3_familyOf 24 = .ok (.iload 4, 2) := by decide +kernel
theorem dX3_familyOf_26 : decode cX3_familyOf 26 = .ok (.iaload, 1) := by decide +kernel
theorem dX3_familyOf_27 : decode cX3_familyOf 27 = .ok (.iload_n 3, 1) := by decide +kernel
theorem dX3_familyOf_28 : decode cX3_familyOf 28 = .ok (.if_icmp .le 14, 3) := by decide +kernel
theorem dX3_familyOf_31 : decode cX3_familyOf 31 = .ok (.aload_n 0, 1) := by decide +kernel
theorem dX3_familyOf_32 : decode cX3_familyOf 32 = .ok (.getfield 9, 3) := by decide +kernel
theorem dX3_familyOf_35 : decode cX3_familyOf 35 = .ok (.iload 4, 2) := by decide +kernel
theorem dX3_familyOf_37 : decode cX3_familyOf 37 = .ok (.iaload, 1) := by decide +kernel
theorem dX3_familyOf_38 : decode cX3_familyOf 38 = .ok (.istore_n 3, 1) := by decide +kernel
theorem dX3_familyOf_39 : decode cX3_familyOf 39 = .ok (.iload 4, 2) := by decide +kernel
theorem dX3_familyOf_41 : decode cX3_familyOf 41 = .ok (.istore_n 2, 1) := by decide +kernel
theorem dX3_familyOf_42 : decode cX3_familyOf 42 = .ok (.iinc 4 1, 3) := by decide +kernel
theorem dX3_familyOf_45 : decode cX3_familyOf 45 = .ok (.goto (-38), 3) := by decide +kernel
theorem dX3_familyOf_48 : decode cX3_familyOf 48 = .ok (.iload_n 2, 1) := by decide +kernel
theorem dX3_familyOf_49 : decode cX3_familyOf 49 = .ok (.ireturn, 1) := by decide +kernel
theorem dX4_init_0 : decode cX4_init 0 = .ok (.aload_n 0, 1) := by decide +kernel
theorem dX4_init_1 : decode cX4_init 1 = .ok (.invokespecial 3, 3) := by decide +kernel
theorem dX4_init_4 : decode cX4_init 4 = .ok (.aload_n 0, 1) := by decide +kernel
theorem dX4_init_5 : decode cX4_init 5 = .ok (.aload_n 1, 1) := by decide +kernel
theorem dX4_init_6 : decode cX4_init 6 = .ok (.putfield 9, 3) := by decide +kernel
theorem dX4_init_9 : decode cX4_init 9 = .ok (.aload_n 0, 1) := by decide +kernel
theorem dX4_init_10 : decode cX4_init 10 = .ok (.aload_n 2, 1) := by decide +kernel
theorem dX4_init_11 : decode cX4_init 11 = .ok (.putfield 15, 3) := by decide +kernel
theorem dX4_init_14 : decode cX4_init 14 = .ok (.return_, 1) := by decide +kernel
theorem dX4_read_0 : decode cX4_read 0 = .ok (.aload_n 0, 1) := by decide +kernel
theorem dX4_read_1 : decode cX4_read 1 = .ok (.aload_n 1, 1) := by decide +kernel
theorem dX4_read_2 : decode cX4_read 2 = .ok (.putfield 15, 3) := by decide +kernel
theorem dX4_read_5 : decode cX4_read 5 = .ok (.aload_n 0, 1) := by decide +kernel
theorem dX4_read_6 : decode cX4_read 6 = .ok (.getfield 15, 3) := by decide +kernel
theorem dX4_read_9 : decode cX4_read 9 = .ok (.invokevirtual 19, 3) := by decide +kernel
theorem dX4_read_12 : decode cX4_read 12 = .ok (.aload_n 0, 1) := by decide +kernel
theorem dX4_read_13 : decode cX4_read 13 = .ok (.iconst 0, 1) := by decide +kernel
theorem dX4_read_14 : decode cX4_read 14 = .ok (.putfield 24, 3) := by decide +kernel
theorem dX4_read_17 : decode cX4_read 17 = .ok (.aload_n 0, 1) := by decide +kernel
theorem dX4_read_18 : decode cX4_read 18 = .ok (.iconst 0, 1) := by decide +kernel
theorem dX4_read_19 : decode cX4_read 19 = .ok (.putfield 28, 3) := by decide +kernel
theorem dX4_read_22 : decode cX4_read 22 = .ok (.aload_n 0, 1) := by decide +kernel
theorem dX4_read_23 : decode cX4_read 23 = .ok (.invokevirtual 31, 3) := by decide +kernel
theorem dX4_read_26 : decode cX4_read 26 = .ok (.iconst 0, 1) := by decide +kernel
theorem dX4_read_27 : decode cX4_read 27 = .ok (.istore_n 2, 1) := by decide +kernel
theorem dX4_read_28 : decode cX4_read 28 = .ok (.iload_n 2, 1) := by decide +kernel
theorem dX4_read_29 : decode cX4_read 29 = .ok (.bipush 24, 2) := by decide +kernel
theorem dX4_read_31 : decode cX4_read 31 = .ok (.if_icmp .gt 27, 3) := by decide +kernel
theorem dX4_read_34 : decode cX4_read 34 = .ok (.aload_n 0, 1) := by decide +kernel
theorem dX4_read_35 : decode cX4_read 35 = .ok (.getfield 24, 3) := by decide +kernel
theorem dX4_read_38 : decode cX4_read 38 = .ok (.ifCond .ne 20, 3) := by decide +kernel
theorem dX4_read_41 : decode cX4_read 41 = .ok (.aload_n 0, 1) := by decide +kernel
theorem dX4_read_42 : decode cX4_read 42 = .ok (.getfield 34, 3) := by decide +kernel
theorem dX4_read_45 : decode cX4_read 45 = .ok (.ifCond .eq 13, 3) := by decide +kernel
theorem dX4_read_48 : decode cX4_read 48 = .ok (.aload_n 0, 1) := by decide +kernel
theorem dX4_read_49 : decode cX4_read 49 = .ok (.invokevirtual 37, 3) := by decide +kernel
theorem dX4_read_52 : decode cX4_read 52 = .ok (.iinc 2 1, 3) := by decide +kernel
theorem dX4_read_55 : decode cX4_read 55 = .ok (.goto (-27), 3) := by decide +kernel
theorem dX4_read_58 : decode cX4_read 58 = .ok (.aload_n 0, 1) := by decide +kernel
theorem dX4_read_59 : decode cX4_read 59 = .ok (.getfield 24, 3) := by decide +kernel
theorem dX4_read_62 : decode cX4_read 62 = .ok (.ireturn, 1) := by decide +kernel
theorem dX4_refuse_0 : decode cX4_refuse 0 = .ok (.aload_n 0, 1) := by decide +kernel
theorem dX4_refuse_1 : decode cX4_refuse 1 = .ok (.getfield 24, 3) := by decide +kernel
theorem dX4_refuse_4 : decode cX4_refuse 4 = .ok (.ifCond .ne 16, 3) := by decide +kernel
theorem dX4_refuse_7 : decode cX4_refuse 7 = .ok (.aload_n 0, 1) := by decide +kernel
theorem dX4_refuse_8 : decode cX4_refuse 8 = .ok (.iload_n 1, 1) := by decide +kernel
theorem dX4_refuse_9 : decode cX4_refuse 9 = .ok (.bipush 16, 2) := by decide +kernel
theorem dX4_refuse_11 : decode cX4_refuse 11 = .ok (.aload_n 0, 1) := by decide +kernel
theorem dX4_refuse_12 : decode cX4_refuse 12 = .ok (.getfield 40, 3) := by decide +kernel
theorem dX4_refuse_15 : decode cX4_refuse 15 = .ok (.imul, 1) := by decide +kernel
theorem dX4_refuse_16 : decode cX4_refuse 16 = .ok (.iadd, 1) := by decide +kernel
theorem dX4_refuse_17 : decode cX4_refuse 17 = .ok (.putfield 24, 3) := by decide +kernel
theorem dX4_refuse_20 : decode cX4_refuse 20 = .ok (.return_, 1) := by decide +kernel
theorem dX4_isLetter_0 : decode cX4_isLetter 0 = .ok (.bipush 97, 2) := by decide +kernel
theorem dX4_isLetter_2 : decode cX4_isLetter 2 = .ok (.iload_n 0, 1) := by decide +kernel
theorem dX4_isLetter_3 : decode cX4_isLetter 3 = .ok (.if_icmp .gt 13, 3) := by decide +kernel
theorem dX4_isLetter_6 : decode cX4_isLetter 6 = .ok (.iload_n 0, 1) := by decide +kernel
theorem dX4_isLetter_7 : decode cX4_isLetter 7 = .ok (.bipush 122, 2) := by decide +kernel
theorem dX4_isLetter_9 : decode cX4_isLetter 9 = .ok (.if_icmp .gt 7, 3) := by decide +kernel
theorem dX4_isLetter_12 : decode cX4_isLetter 12 = .ok (.iconst 1, 1) := by decide +kernel
theorem dX4_isLetter_13 : decode cX4_isLetter 13 = .ok (.goto 4, 3) := by decide +kernel
theorem dX4_isLetter_16 : decode cX4_isLetter 16 = .ok (.iconst 0, 1) := by decide +kernel
theorem dX4_isLetter_17 : decode cX4_isLetter 17 = .ok (.ireturn, 1) := by decide +kernel
theorem dX4_isDigit_0 : decode cX4_isDigit 0 = .ok (.bipush 48, 2) := by decide +kernel
theorem dX4_isDigit_2 : decode cX4_isDigit 2 = .ok (.iload_n 0, 1) := by decide +kernel
theorem dX4_isDigit_3 : decode cX4_isDigit 3 = .ok (.if_icmp .gt 13, 3) := by decide +kernel
theorem dX4_isDigit_6 : decode cX4_isDigit 6 = .ok (.iload_n 0, 1) := by decide +kernel
theorem dX4_isDigit_7 : decode cX4_isDigit 7 = .ok (.bipush 57, 2) := by decide +kernel
theorem dX4_isDigit_9 : decode cX4_isDigit 9 = .ok (.if_icmp .gt 7, 3) := by decide +kernel
theorem dX4_isDigit_12 : decode cX4_isDigit 12 = .ok (.iconst 1, 1) := by decide +kernel
theorem dX4_isDigit_13 : decode cX4_isDigit 13 = .ok (.goto 4, 3) := by decide +kernel
theorem dX4_isDigit_16 : decode cX4_isDigit 16 = .ok (.iconst 0, 1) := by decide +kernel
theorem dX4_isDigit_17 : decode cX4_isDigit 17 = .ok (.ireturn, 1) := by decide +kernel
theorem dX4_advance_0 : decode cX4_advance 0 = .ok (.aload_n 0, 1) := by decide +kernel
theorem dX4_advance_1 : decode cX4_advance 1 = .ok (.aload_n 0, 1) := by decide +kernel
theorem dX4_advance_2 : decode cX4_advance 2 = .ok (.getfield 28, 3) := by decide +kernel
theorem dX4_advance_5 : decode cX4_advance 5 = .ok (.putfield 40, 3) := by decide +kernel
theorem dX4_advance_8 : decode cX4_advance 8 = .ok (.aload_n 0, 1) := by decide +kernel
theorem dX4_advance_9 : decode cX4_advance 9 = .ok (.getfield 40, 3) := by decide +kernel
theorem dX4_advance_12 : decode cX4_advance 12 = .ok (.aload_n 0, 1) := by decide +kernel
theorem dX4_advance_13 : decode cX4_advance 13 = .ok (.getfield 9, 3) := by decide +kernel
theorem dX4_advance_16 : decode cX4_advance 16 = .ok (.getfield 43, 3) := by decide +kernel
theorem dX4_advance_19 : decode cX4_advance 19 = .ok (.if_icmp .ge 48, 3) := by decide +kernel
theorem dX4_advance_22 : decode cX4_advance 22 = .ok (.aload_n 0, 1) := by decide +kernel
theorem dX4_advance_23 : decode cX4_advance 23 = .ok (.getfield 9, 3) := by decide +kernel
theorem dX4_advance_26 : decode cX4_advance 26 = .ok (.aload_n 0, 1) := by decide +kernel
theorem dX4_advance_27 : decode cX4_advance 27 = .ok (.getfield 40, 3) := by decide +kernel
theorem dX4_advance_30 : decode cX4_advance 30 = .ok (.invokevirtual 48, 3) := by decide +kernel
theorem dX4_advance_33 : decode cX4_advance 33 = .ok (.bipush 10, 2) := by decide +kernel
theorem dX4_advance_35 : decode cX4_advance 35 = .ok (.if_icmp .eq 19, 3) := by decide +kernel
theorem dX4_advance_38 : decode cX4_advance 38 = .ok (.aload_n 0, 1) := by decide +kernel
theorem dX4_advance_39 : decode cX4_advance 39 = .ok (.getfield 9, 3) := by decide +kernel
theorem dX4_advance_42 : decode cX4_advance 42 = .ok (.aload_n 0, 1) := by decide +kernel
theorem dX4_advance_43 : decode cX4_advance 43 = .ok (.getfield 40, 3) := by decide +kernel
theorem dX4_advance_46 : decode cX4_advance 46 = .ok (.invokevirtual 48, 3) := by decide +kernel
theorem dX4_advance_49 : decode cX4_advance 49 = .ok (.bipush 32, 2) := by decide +kernel
theorem dX4_advance_51 : decode cX4_advance 51 = .ok (.if_icmp .ne 16, 3) := by decide +kernel
theorem dX4_advance_54 : decode cX4_advance 54 = .ok (.aload_n 0, 1) := by decide +kernel
theorem dX4_advance_55 : decode cX4_advance 55 = .ok (.dup, 1) := by decide +kernel
theorem dX4_advance_56 : decode cX4_advance 56 = .ok (.getfield 40, 3) := by decide +kernel
theorem dX4_advance_59 : decode cX4_advance 59 = .ok (.iconst 1, 1) := by decide +kernel
theorem dX4_advance_60 : decode cX4_advance 60 = .ok (.iadd, 1) := by decide +kernel
theorem dX4_advance_61 : decode cX4_advance 61 = .ok (.putfield 40, 3) := by decide +kernel
theorem dX4_advance_64 : decode cX4_advance 64 = .ok (.goto (-56), 3) := by decide +kernel
theorem dX4_advance_67 : decode cX4_advance 67 = .ok (.aload_n 0, 1) := by decide +kernel
theorem dX4_advance_68 : decode cX4_advance 68 = .ok (.aload_n 0, 1) := by decide +kernel
theorem dX4_advance_69 : decode cX4_advance 69 = .ok (.getfield 40, 3) := by decide +kernel
theorem dX4_advance_72 : decode cX4_advance 72 = .ok (.putfield 28, 3) := by decide +kernel
theorem dX4_advance_75 : decode cX4_advance 75 = .ok (.aload_n 0, 1) := by decide +kernel
theorem dX4_advance_76 : decode cX4_advance 76 = .ok (.getfield 9, 3) := by decide +kernel
theorem dX4_advance_79 : decode cX4_advance 79 = .ok (.aload_n 0, 1) := by decide +kernel
theorem dX4_advance_80 : decode cX4_advance 80 = .ok (.getfield 40, 3) := by decide +kernel
theorem dX4_advance_83 : decode cX4_advance 83 = .ok (.invokevirtual 48, 3) := by decide +kernel
theorem dX4_advance_86 : decode cX4_advance 86 = .ok (.istore_n 1, 1) := by decide +kernel
theorem dX4_advance_87 : decode cX4_advance 87 = .ok (.aload_n 0, 1) := by decide +kernel
theorem dX4_advance_88 : decode cX4_advance 88 = .ok (.getfield 40, 3) := by decide +kernel
theorem dX4_advance_91 : decode cX4_advance 91 = .ok (.aload_n 0, 1) := by decide +kernel
theorem dX4_advance_92 : decode cX4_advance 92 = .ok (.getfield 9, 3) := by decide +kernel
theorem dX4_advance_95 : decode cX4_advance 95 = .ok (.getfield 43, 3) := by decide +kernel
theorem dX4_advance_98 : decode cX4_advance 98 = .ok (.if_icmp .lt 11, 3) := by decide +kernel
theorem dX4_advance_101 : decode cX4_advance 101 = .ok (.aload_n 0, 1) := by decide +kernel
theorem dX4_advance_102 : decode cX4_advance 102 = .ok (.iconst 0, 1) := by decide +kernel
theorem dX4_advance_103 : decode cX4_advance 103 = .ok (.putfield 34, 3) := by decide +kernel
theorem dX4_advance_106 : decode cX4_advance 106 = .ok (.goto 60, 3) := by decide +kernel
theorem dX4_advance_109 : decode cX4_advance 109 = .ok (.iload_n 1, 1) := by decide +kernel
theorem dX4_advance_110 : decode cX4_advance 110 = .ok (.invokestatic 52, 3) := by decide +kernel
theorem dX4_advance_113 : decode cX4_advance 113 = .ok (.ifCond .eq 10, 3) := by decide +kernel
theorem dX4_advance_116 : decode cX4_advance 116 = .ok (.aload_n 0, 1) := by decide +kernel
theorem dX4_advance_117 : decode cX4_advance 117 = .ok (.invokevirtual 56, 3) := by decide +kernel
theorem dX4_advance_120 : decode cX4_advance 120 = .ok (.goto 46, 3) := by decide +kernel
theorem dX4_advance_123 : decode cX4_advance 123 = .ok (.iload_n 1, 1) := by decide +kernel
theorem dX4_advance_124 : decode cX4_advance 124 = .ok (.invokestatic 59, 3) := by decide +kernel
theorem dX4_advance_127 : decode cX4_advance 127 = .ok (.ifCond .eq 10, 3) := by decide +kernel
theorem dX4_advance_130 : decode cX4_advance 130 = .ok (.aload_n 0, 1) := by decide +kernel
theorem dX4_advance_131 : decode cX4_advance 131 = .ok (.invokevirtual 62, 3) := by decide +kernel
theorem dX4_advance_134 : decode cX4_advance 134 = .ok (.goto 32, 3) := by decide +kernel
theorem dX4_advance_137 : decode cX4_advance 137 = .ok (.aload_n 0, 1) := by decide +kernel
theorem dX4_advance_138 : decode cX4_advance 138 = .ok (.aload_n 0, 1) := by decide +kernel
theorem dX4_advance_139 : decode cX4_advance 139 = .ok (.getfield 40, 3) := by decide +kernel
theorem dX4_advance_142 : decode cX4_advance 142 = .ok (.iconst 1, 1) := by decide +kernel
theorem dX4_advance_143 : decode cX4_advance 143 = .ok (.iadd, 1) := by decide +kernel
theorem dX4_advance_144 : decode cX4_advance 144 = .ok (.putfield 28, 3) := by decide +kernel
theorem dX4_advance_147 : decode cX4_advance 147 = .ok (.aload_n 0, 1) := by decide +kernel
theorem dX4_advance_148 : decode cX4_advance 148 = .ok (.ldc 65, 2) := by decide +kernel
theorem dX4_advance_150 : decode cX4_advance 150 = .ok (.iload_n 1, 1) := by decide +kernel
theorem dX4_advance_151 : decode cX4_advance 151 = .ok (.i2c, 1) := by decide +kernel
theorem dX4_advance_152 : decode cX4_advance 152 = .ok (.invokevirtual 67, 3) := by decide +kernel
theorem dX4_advance_155 : decode cX4_advance 155 = .ok (.ifCond .lt 7, 3) := by decide +kernel
theorem dX4_advance_158 : decode cX4_advance 158 = .ok (.iconst 3, 1) := by decide +kernel
theorem dX4_advance_159 : decode cX4_advance 159 = .ok (.goto 4, 3) := by decide +kernel
theorem dX4_advance_162 : decode cX4_advance 162 = .ok (.iconst 4, 1) := by decide +kernel
theorem dX4_advance_163 : decode cX4_advance 163 = .ok (.putfield 34, 3) := by decide +kernel
theorem dX4_advance_166 : decode cX4_advance 166 = .ok (.return_, 1) := by decide +kernel
theorem dX4_takeWord_0 : decode cX4_takeWord 0 = .ok (.aload_n 0, 1) := by decide +kernel
theorem dX4_takeWord_1 : decode cX4_takeWord 1 = .ok (.getfield 28, 3) := by decide +kernel
theorem dX4_takeWord_4 : decode cX4_takeWord 4 = .ok (.aload_n 0, 1) := by decide +kernel
theorem dX4_takeWord_5 : decode cX4_takeWord 5 = .ok (.getfield 9, 3) := by decide +kernel
theorem dX4_takeWord_8 : decode cX4_takeWord 8 = .ok (.getfield 43, 3) := by decide +kernel
theorem dX4_takeWord_11 : decode cX4_takeWord 11 = .ok (.if_icmp .ge 33, 3) := by decide +kernel
theorem dX4_takeWord_14 : decode cX4_takeWord 14 = .ok (.aload_n 0, 1) := by decide +kernel
theorem dX4_takeWord_15 : decode cX4_takeWord 15 = .ok (.getfield 9, 3) := by decide +kernel
theorem dX4_takeWord_18 : decode cX4_takeWord 18 = .ok (.aload_n 0, 1) := by decide +kernel
theorem dX4_takeWord_19 : decode cX4_takeWord 19 = .ok (.getfield 28, 3) := by decide +kernel
theorem dX4_takeWord_22 : decode cX4_takeWord 22 = .ok (.invokevirtual 48, 3) := by decide +kernel
theorem dX4_takeWord_25 : decode cX4_takeWord 25 = .ok (.invokestatic 52, 3) := by decide +kernel
theorem dX4_takeWord_28 : decode cX4_takeWord 28 = .ok (.ifCond .eq 16, 3) := by decide +kernel
theorem dX4_takeWord_31 : decode cX4_takeWord 31 = .ok (.aload_n 0, 1) := by decide +kernel
theorem dX4_takeWord_32 : decode cX4_takeWord 32 = .ok (.dup, 1) := by decide +kernel
theorem dX4_takeWord_33 : decode cX4_takeWord 33 = .ok (.getfield 28, 3) := by decide +kernel
theorem dX4_takeWord_36 : decode cX4_takeWord 36 = .ok (.iconst 1, 1) := by decide +kernel
theorem dX4_takeWord_37 : decode cX4_takeWord 37 = .ok (.iadd, 1) := by decide +kernel
theorem dX4_takeWord_38 : decode cX4_takeWord 38 = .ok (.putfield 28, 3) := by decide +kernel
theorem dX4_takeWord_41 : decode cX4_takeWord 41 = .ok (.goto (-41), 3) := by decide +kernel
theorem dX4_takeWord_44 : decode cX4_takeWord 44 = .ok (.aload_n 0, 1) := by decide +kernel
theorem dX4_takeWord_45 : decode cX4_takeWord 45 = .ok (.aload_n 0, 1) := by decide +kernel
theorem dX4_takeWord_46 : decode cX4_takeWord 46 = .ok (.getfield 28, 3) := by decide +kernel
theorem dX4_takeWord_49 : decode cX4_takeWord 49 = .ok (.aload_n 0, 1) := by decide +kernel
theorem dX4_takeWord_50 : decode cX4_takeWord 50 = .ok (.getfield 40, 3) := by decide +kernel
theorem dX4_takeWord_53 : decode cX4_takeWord 53 = .ok (.isub, 1) := by decide +kernel
theorem dX4_takeWord_54 : decode cX4_takeWord 54 = .ok (.bipush 8, 2) := by decide +kernel
theorem dX4_takeWord_56 : decode cX4_takeWord 56 = .ok (.if_icmp .gt 7, 3) := by decide +kernel
theorem dX4_takeWord_59 : decode cX4_takeWord 59 = .ok (.iconst 1, 1) := by decide +kernel
theorem dX4_takeWord_60 : decode cX4_takeWord 60 = .ok (.goto 4, 3) := by decide +kernel
theorem dX4_takeWord_63 : decode cX4_takeWord 63 = .ok (.iconst 4, 1) := by decide +kernel
theorem dX4_takeWord_64 : decode cX4_takeWord 64 = .ok (.putfield 34, 3) := by decide +kernel
theorem dX4_takeWord_67 : decode cX4_takeWord 67 = .ok (.return_, 1) := by decide +kernel
theorem dX4_takeNumber_0 : decode cX4_takeNumber 0 = .ok (.aload_n 0, 1) := by decide +kernel
theorem dX4_takeNumber_1 : decode cX4_takeNumber 1 = .ok (.iconst 0, 1) := by decide +kernel
theorem dX4_takeNumber_2 : decode cX4_takeNumber 2 = .ok (.putfield 72, 3) := by decide +kernel
theorem dX4_takeNumber_5 : decode cX4_takeNumber 5 = .ok (.aload_n 0, 1) := by decide +kernel
theorem dX4_takeNumber_6 : decode cX4_takeNumber 6 = .ok (.getfield 28, 3) := by decide +kernel
theorem dX4_takeNumber_9 : decode cX4_takeNumber 9 = .ok (.aload_n 0, 1) := by decide +kernel
theorem dX4_takeNumber_10 : decode cX4_takeNumber 10 = .ok (.getfield 9, 3) := by decide +kernel
theorem dX4_takeNumber_13 : decode cX4_takeNumber 13 = .ok (.getfield 43, 3) := by decide +kernel
theorem dX4_takeNumber_16 : decode cX4_takeNumber 16 = .ok (.if_icmp .ge 59, 3) := by decide +kernel
theorem dX4_takeNumber_19 : decode cX4_takeNumber 19 = .ok (.aload_n 0, 1) := by decide +kernel
theorem dX4_takeNumber_20 : decode cX4_takeNumber 20 = .ok (.getfield 9, 3) := by decide +kernel
theorem dX4_takeNumber_23 : decode cX4_takeNumber 23 = .ok (.aload_n 0, 1) := by decide +kernel
theorem dX4_takeNumber_24 : decode cX4_takeNumber 24 = .ok (.getfield 28, 3) := by decide +kernel
theorem dX4_takeNumber_27 : decode cX4_takeNumber 27 = .ok (.invokevirtual 48, 3) := by decide +kernel
theorem dX4_takeNumber_30 : decode cX4_takeNumber 30 = .ok (.invokestatic 59, 3) := by decide +kernel
theorem dX4_takeNumber_33 : decode cX4_takeNumber 33 = .ok (.ifCond .eq 42, 3) := by decide +kernel
theorem dX4_takeNumber_36 : decode cX4_takeNumber 36 = .ok (.aload_n 0, 1) := by decide +kernel
theorem dX4_takeNumber_37 : decode cX4_takeNumber 37 = .ok (.aload_n 0, 1) := by decide +kernel
theorem dX4_takeNumber_38 : decode cX4_takeNumber 38 = .ok (.getfield 72, 3) := by decide +kernel
theorem dX4_takeNumber_41 : decode cX4_takeNumber 41 = .ok (.bipush 10, 2) := by decide +kernel
theorem dX4_takeNumber_43 : decode cX4_takeNumber 43 = .ok (.imul, 1) := by decide +kernel
theorem dX4_takeNumber_44 : decode cX4_takeNumber 44 = .ok (.aload_n 0, 1) := by decide +kernel
theorem dX4_takeNumber_45 : decode cX4_takeNumber 45 = .ok (.getfield 9, 3) := by decide +kernel
theorem dX4_takeNumber_48 : decode cX4_takeNumber 48 = .ok (.aload_n 0, 1) := by decide +kernel
theorem dX4_takeNumber_49 : decode cX4_takeNumber 49 = .ok (.getfield 28, 3) := by decide +kernel
theorem dX4_takeNumber_52 : decode cX4_takeNumber 52 = .ok (.invokevirtual 48, 3) := by decide +kernel
theorem dX4_takeNumber_55 : decode cX4_takeNumber 55 = .ok (.iadd, 1) := by decide +kernel
theorem dX4_takeNumber_56 : decode cX4_takeNumber 56 = .ok (.bipush 48, 2) := by decide +kernel
theorem dX4_takeNumber_58 : decode cX4_takeNumber 58 = .ok (.isub, 1) := by decide +kernel
theorem dX4_takeNumber_59 : decode cX4_takeNumber 59 = .ok (.putfield 72, 3) := by decide +kernel
theorem dX4_takeNumber_62 : decode cX4_takeNumber 62 = .ok (.aload_n 0, 1) := by decide +kernel
theorem dX4_takeNumber_63 : decode cX4_takeNumber 63 = .ok (.dup, 1) := by decide +kernel
theorem dX4_takeNumber_64 : decode cX4_takeNumber 64 = .ok (.getfield 28, 3) := by decide +kernel
theorem dX4_takeNumber_67 : decode cX4_takeNumber 67 = .ok (.iconst 1, 1) := by decide +kernel
theorem dX4_takeNumber_68 : decode cX4_takeNumber 68 = .ok (.iadd, 1) := by decide +kernel
theorem dX4_takeNumber_69 : decode cX4_takeNumber 69 = .ok (.putfield 28, 3) := by decide +kernel
theorem dX4_takeNumber_72 : decode cX4_takeNumber 72 = .ok (.goto (-67), 3) := by decide +kernel
theorem dX4_takeNumber_75 : decode cX4_takeNumber 75 = .ok (.aload_n 0, 1) := by decide +kernel
theorem dX4_takeNumber_76 : decode cX4_takeNumber 76 = .ok (.aload_n 0, 1) := by decide +kernel
theorem dX4_takeNumber_77 : decode cX4_takeNumber 77 = .ok (.getfield 28, 3) := by decide +kernel
theorem dX4_takeNumber_80 : decode cX4_takeNumber 80 = .ok (.aload_n 0, 1) := by decide +kernel
theorem dX4_takeNumber_81 : decode cX4_takeNumber 81 = .ok (.getfield 40, 3) := by decide +kernel
theorem dX4_takeNumber_84 : decode cX4_takeNumber 84 = .ok (.isub, 1) := by decide +kernel
theorem dX4_takeNumber_85 : decode cX4_takeNumber 85 = .ok (.iconst 5, 1) := by decide +kernel
theorem dX4_takeNumber_86 : decode cX4_takeNumber 86 = .ok (.if_icmp .gt 7, 3) := by decide +kernel
theorem dX4_takeNumber_89 : decode cX4_takeNumber 89 = .ok (.iconst 2, 1) := by decide +kernel
theorem dX4_takeNumber_90 : decode cX4_takeNumber 90 = .ok (.goto 4, 3) := by decide +kernel
theorem dX4_takeNumber_93 : decode cX4_takeNumber 93 = .ok (.iconst 4, 1) := by decide +kernel
theorem dX4_takeNumber_94 : decode cX4_takeNumber 94 = .ok (.putfield 34, 3) := by decide +kernel
theorem dX4_takeNumber_97 : decode cX4_takeNumber 97 = .ok (.return_, 1) := by decide +kernel
theorem dX4_wordAmong_0 : decode cX4_wordAmong 0 = .ok (.aload_n 0, 1) := by decide +kernel
theorem dX4_wordAmong_1 : decode cX4_wordAmong 1 = .ok (.getfield 34, 3) := by decide +kernel
theorem dX4_wordAmong_4 : decode cX4_wordAmong 4 = .ok (.iconst 1, 1) := by decide +kernel
theorem dX4_wordAmong_5 : decode cX4_wordAmong 5 = .ok (.if_icmp .eq 5, 3) := by decide +kernel
theorem dX4_wordAmong_8 : decode cX4_wordAmong 8 = .ok (.iconst (-1), 1) := by decide +kernel
theorem dX4_wordAmong_9 : decode cX4_wordAmong 9 = .ok (.ireturn, 1) := by decide +kernel
theorem dX4_wordAmong_10 : decode cX4_wordAmong 10 = .ok (.iconst 0, 1) := by decide +kernel
theorem dX4_wordAmong_11 : decode cX4_wordAmong 11 = .ok (.istore_n 2, 1) := by decide +kernel
theorem dX4_wordAmong_12 : decode cX4_wordAmong 12 = .ok (.iconst 0, 1) := by decide +kernel
theorem dX4_wordAmong_13 : decode cX4_wordAmong 13 = .ok (.istore_n 3, 1) := by decide +kernel
theorem dX4_wordAmong_14 : decode cX4_wordAmong 14 = .ok (.iconst 0, 1) := by decide +kernel
theorem dX4_wordAmong_15 : decode cX4_wordAmong 15 = .ok (.istore 4, 2) := by decide +kernel
theorem dX4_wordAmong_17 : decode cX4_wordAmong 17 = .ok (.iload 4, 2) := by decide +kernel
theorem dX4_wordAmong_19 : decode cX4_wordAmong 19 = .ok (.aload_n 1, 1) := by decide +kernel
theorem dX4_wordAmong_20 : decode cX4_wordAmong 20 = .ok (.invokevirtual 75, 3) := by decide +kernel
theorem dX4_wordAmong_23 : decode cX4_wordAmong 23 = .ok (.if_icmp .gt 50, 3) := by decide +kernel
theorem dX4_wordAmong_26 : decode cX4_wordAmong 26 = .ok (.iload 4, 2) := by decide +kernel
theorem dX4_wordAmong_28 : decode cX4_wordAmong 28 = .ok (.aload_n 1, 1) := by decide +kernel
theorem dX4_wordAmong_29 : decode cX4_wordAmong 29 = .ok (.invokevirtual 75, 3) := by decide +kernel
theorem dX4_wordAmong_32 : decode cX4_wordAmong 32 = .ok (.if_icmp .eq 14, 3) := by decide +kernel
theorem dX4_wordAmong_35 : decode cX4_wordAmong 35 = .ok (.aload_n 1, 1) := by decide +kernel
theorem dX4_wordAmong_36 : decode cX4_wordAmong 36 = .ok (.iload 4, 2) := by decide +kernel
theorem dX4_wordAmong_38 : decode cX4_wordAmong 38 = .ok (.invokevirtual 78, 3) := by decide +kernel
theorem dX4_wordAmong_41 : decode cX4_wordAmong 41 = .ok (.bipush 32, 2) := by decide +kernel
theorem dX4_wordAmong_43 : decode cX4_wordAmong 43 = .ok (.if_icmp .ne 24, 3) := by decide +kernel
theorem dX4_wordAmong_46 : decode cX4_wordAmong 46 = .ok (.aload_n 0, 1) := by decide +kernel
theorem dX4_wordAmong_47 : decode cX4_wordAmong 47 = .ok (.aload_n 1, 1) := by decide +kernel
theorem dX4_wordAmong_48 : decode cX4_wordAmong 48 = .ok (.iload_n 3, 1) := by decide +kernel
theorem dX4_wordAmong_49 : decode cX4_wordAmong 49 = .ok (.iload 4, 2) := by decide +kernel
theorem dX4_wordAmong_51 : decode cX4_wordAmong 51 = .ok (.invokevirtual 82, 3) := by decide +kernel
theorem dX4_wordAmong_54 : decode cX4_wordAmong 54 = .ok (.ifCond .eq 5, 3) := by decide +kernel
theorem dX4_wordAmong_57 : decode cX4_wordAmong 57 = .ok (.iload_n 2, 1) := by decide +kernel
theorem dX4_wordAmong_58 : decode cX4_wordAmong 58 = .ok (.ireturn, 1) := by decide +kernel
theorem dX4_wordAmong_59 : decode cX4_wordAmong 59 = .ok (.iinc 2 1, 3) := by decide +kernel
theorem dX4_wordAmong_62 : decode cX4_wordAmong 62 = .ok (.iload 4, 2) := by decide +kernel
theorem dX4_wordAmong_64 : decode cX4_wordAmong 64 = .ok (.iconst 1, 1) := by decide +kernel
theorem dX4_wordAmong_65 : decode cX4_wordAmong 65 = .ok (.iadd, 1) := by decide +kernel
theorem dX4_wordAmong_66 : decode cX4_wordAmong 66 = .ok (.istore_n 3, 1) := by decide +kernel
theorem dX4_wordAmong_67 : decode cX4_wordAmong 67 = .ok (.iinc 4 1, 3) := by decide +kernel
theorem dX4_wordAmong_70 : decode cX4_wordAmong 70 = .ok (.goto (-53), 3) := by decide +kernel
theorem dX4_wordAmong_73 : decode cX4_wordAmong 73 = .ok (.iconst (-1), 1) := by decide +kernel
theorem dX4_wordAmong_74 : decode cX4_wordAmong 74 = .ok (.ireturn, 1) := by decide +kernel
theorem dX4_isPieceOf_0 : decode cX4_isPieceOf 0 = .ok (.iload_n 3, 1) := by decide +kernel
theorem dX4_isPieceOf_1 : decode cX4_isPieceOf 1 = .ok (.iload_n 2, 1) := by decide +kernel
theorem dX4_isPieceOf_2 : decode cX4_isPieceOf 2 = .ok (.isub, 1) := by decide +kernel
theorem dX4_isPieceOf_3 : decode cX4_isPieceOf 3 = .ok (.aload_n 0, 1) := by decide +kernel
theorem dX4_isPieceOf_4 : decode cX4_isPieceOf 4 = .ok (.getfield 28, 3) := by decide +kernel
theorem dX4_isPieceOf_7 : decode cX4_isPieceOf 7 = .ok (.aload_n 0, 1) := by decide +kernel
theorem dX4_isPieceOf_8 : decode cX4_isPieceOf 8 = .ok (.getfield 40, 3) := by decide +kernel
theorem dX4_isPieceOf_11 : decode cX4_isPieceOf 11 = .ok (.isub, 1) := by decide +kernel
theorem dX4_isPieceOf_12 : decode cX4_isPieceOf 12 = .ok (.if_icmp .eq 5, 3) := by decide +kernel
theorem dX4_isPieceOf_15 : decode cX4_isPieceOf 15 = .ok (.iconst 0, 1) := by decide +kernel
theorem dX4_isPieceOf_16 : decode cX4_isPieceOf 16 = .ok (.ireturn, 1) := by decide +kernel
theorem dX4_isPieceOf_17 : decode cX4_isPieceOf 17 = .ok (.iload_n 2, 1) := by decide +kernel
theorem dX4_isPieceOf_18 : decode cX4_isPieceOf 18 = .ok (.istore 4, 2) := by decide +kernel
theorem dX4_isPieceOf_20 : decode cX4_isPieceOf 20 = .ok (.iload 4, 2) := by decide +kernel
theorem dX4_isPieceOf_22 : decode cX4_isPieceOf 22 = .ok (.iload_n 3, 1) := by decide +kernel
theorem dX4_isPieceOf_23 : decode cX4_isPieceOf 23 = .ok (.if_icmp .ge 36, 3) := by decide +kernel
theorem dX4_isPieceOf_26 : decode cX4_isPieceOf 26 = .ok (.aload_n 1, 1) := by decide +kernel
theorem dX4_isPieceOf_27 : decode cX4_isPieceOf 27 = .ok (.iload 4, 2) := by decide +kernel
theorem dX4_isPieceOf_29 : decode cX4_isPieceOf 29 = .ok (.invokevirtual 78, 3) := by decide +kernel
theorem dX4_isPieceOf_32 : decode cX4_isPieceOf 32 = .ok (.aload_n 0, 1) := by decide +kernel
theorem dX4_isPieceOf_33 : decode cX4_isPieceOf 33 = .ok (.getfield 9, 3) := by decide +kernel
theorem dX4_isPieceOf_36 : decode cX4_isPieceOf 36 = .ok (.aload_n 0, 1) := by decide +kernel
theorem dX4_isPieceOf_37 : decode cX4_isPieceOf 37 = .ok (.getfield 40, 3) := by decide +kernel
theorem dX4_isPieceOf_40 : decode cX4_isPieceOf 40 = .ok (.iload 4, 2) := by decide +kernel
theorem dX4_isPieceOf_42 : decode cX4_isPieceOf 42 = .ok (.iadd, 1) := by decide +kernel
theorem dX4_isPieceOf_43 : decode cX4_isPieceOf 43 = .ok (.iload_n 2, 1) := by decide +kernel
theorem dX4_isPieceOf_44 : decode cX4_isPieceOf 44 = .ok (.isub, 1) := by decide +kernel
theorem dX4_isPieceOf_45 : decode cX4_isPieceOf 45 = .ok (.invokevirtual 48, 3) := by decide +kernel
theorem dX4_isPieceOf_48 : decode cX4_isPieceOf 48 = .ok (.if_icmp .eq 5, 3) := by decide +kernel
theorem dX4_isPieceOf_51 : decode cX4_isPieceOf 51 = .ok (.iconst 0, 1) := by decide +kernel
theorem dX4_isPieceOf_52 : decode cX4_isPieceOf 52 = .ok (.ireturn, 1) := by decide +kernel
theorem dX4_isPieceOf_53 : decode cX4_isPieceOf 53 = .ok (.iinc 4 1, 3) := by decide +kernel
theorem dX4_isPieceOf_56 : decode cX4_isPieceOf 56 = .ok (.goto (-36), 3) := by decide +kernel
theorem dX4_isPieceOf_59 : decode cX4_isPieceOf 59 = .ok (.iconst 1, 1) := by decide +kernel
theorem dX4_isPieceOf_60 : decode cX4_isPieceOf 60 = .ok (.ireturn, 1) := by decide +kernel
theorem dX4_signAmong_0 : decode cX4_signAmong 0 = .ok (.aload_n 0, 1) := by decide +kernel
theorem dX4_signAmong_1 : decode cX4_signAmong 1 = .ok (.getfield 34, 3) := by decide +kernel
theorem dX4_signAmong_4 : decode cX4_signAmong 4 = .ok (.iconst 3, 1) := by decide +kernel
theorem dX4_signAmong_5 : decode cX4_signAmong 5 = .ok (.if_icmp .ne 22, 3) := by decide +kernel
theorem dX4_signAmong_8 : decode cX4_signAmong 8 = .ok (.aload_n 1, 1) := by decide +kernel
theorem dX4_signAmong_9 : decode cX4_signAmong 9 = .ok (.aload_n 0, 1) := by decide +kernel
theorem dX4_signAmong_10 : decode cX4_signAmong 10 = .ok (.getfield 9, 3) := by decide +kernel
theorem dX4_signAmong_13 : decode cX4_signAmong 13 = .ok (.aload_n 0, 1) := by decide +kernel
theorem dX4_signAmong_14 : decode cX4_signAmong 14 = .ok (.getfield 40, 3) := by decide +kernel
theorem dX4_signAmong_17 : decode cX4_signAmong 17 = .ok (.invokevirtual 48, 3) := by decide +kernel
theorem dX4_signAmong_20 : decode cX4_signAmong 20 = .ok (.i2c, 1) := by decide +kernel
theorem dX4_signAmong_21 : decode cX4_signAmong 21 = .ok (.invokevirtual 67, 3) := by decide +kernel
theorem dX4_signAmong_24 : decode cX4_signAmong 24 = .ok (.goto 4, 3) := by decide +kernel
theorem dX4_signAmong_27 : decode cX4_signAmong 27 = .ok (.iconst (-1), 1) := by decide +kernel
theorem dX4_signAmong_28 : decode cX4_signAmong 28 = .ok (.ireturn, 1) := by decide +kernel
theorem dX4_expect_0 : decode cX4_expect 0 = .ok (.iload_n 1, 1) := by decide +kernel
theorem dX4_expect_1 : decode cX4_expect 1 = .ok (.ifCond .eq 10, 3) := by decide +kernel
theorem dX4_expect_4 : decode cX4_expect 4 = .ok (.aload_n 0, 1) := by decide +kernel
theorem dX4_expect_5 : decode cX4_expect 5 = .ok (.invokevirtual 31, 3) := by decide +kernel
theorem dX4_expect_8 : decode cX4_expect 8 = .ok (.goto 8, 3) := by decide +kernel
theorem dX4_expect_11 : decode cX4_expect 11 = .ok (.aload_n 0, 1) := by decide +kernel
theorem dX4_expect_12 : decode cX4_expect 12 = .ok (.iconst 1, 1) := by decide +kernel
theorem dX4_expect_13 : decode cX4_expect 13 = .ok (.invokevirtual 86, 3) := by decide +kernel
theorem dX4_expect_16 : decode cX4_expect 16 = .ok (.return_, 1) := by decide +kernel
theorem dX4_readLaw_0 : decode cX4_readLaw 0 = .ok (.aload_n 0, 1) := by decide +kernel
theorem dX4_readLaw_1 : decode cX4_readLaw 1 = .ok (.ldc 90, 2) := by decide +kernel
theorem dX4_readLaw_3 : decode cX4_readLaw 3 = .ok (.invokevirtual 92, 3) := by decide +kernel
theorem dX4_readLaw_6 : decode cX4_readLaw 6 = .ok (.istore_n 1, 1) := by decide +kernel
theorem dX4_readLaw_7 : decode cX4_readLaw 7 = .ok (.iload_n 1, 1) := by decide +kernel
theorem dX4_readLaw_8 : decode cX4_readLaw 8 = .ok (.iconst (-1), 1) := by decide +kernel
theorem dX4_readLaw_9 : decode cX4_readLaw 9 = .ok (.if_icmp .ne 9, 3) := by decide +kernel
theorem dX4_readLaw_12 : decode cX4_readLaw 12 = .ok (.aload_n 0, 1) := by decide +kernel
theorem dX4_readLaw_13 : decode cX4_readLaw 13 = .ok (.iconst 1, 1) := by decide +kernel
theorem dX4_readLaw_14 : decode cX4_readLaw 14 = .ok (.invokevirtual 86, 3) := by decide +kernel
theorem dX4_readLaw_17 : decode cX4_readLaw 17 = .ok (.return_, 1) := by decide +kernel
theorem dX4_readLaw_18 : decode cX4_readLaw 18 = .ok (.aload_n 0, 1) := by decide +kernel
theorem dX4_readLaw_19 : decode cX4_readLaw 19 = .ok (.getfield 15, 3) := by decide +kernel
theorem dX4_readLaw_22 : decode cX4_readLaw 22 = .ok (.invokevirtual 96, 3) := by decide +kernel
theorem dX4_readLaw_25 : decode cX4_readLaw 25 = .ok (.ifCond .eq 9, 3) := by decide +kernel
theorem dX4_readLaw_28 : decode cX4_readLaw 28 = .ok (.aload_n 0, 1) := by decide +kernel
theorem dX4_readLaw_29 : decode cX4_readLaw 29 = .ok (.iconst 5, 1) := by decide +kernel
theorem dX4_readLaw_30 : decode cX4_readLaw 30 = .ok (.invokevirtual 86, 3) := by decide +kernel
theorem dX4_readLaw_33 : decode cX4_readLaw 33 = .ok (.return_, 1) := by decide +kernel
theorem dX4_readLaw_34 : decode cX4_readLaw 34 = .ok (.aload_n 0, 1) := by decide +kernel
theorem dX4_readLaw_35 : decode cX4_readLaw 35 = .ok (.invokevirtual 31, 3) := by decide +kernel
theorem dX4_readLaw_38 : decode cX4_readLaw 38 = .ok (.aload_n 0, 1) := by decide +kernel
theorem dX4_readLaw_39 : decode cX4_readLaw 39 = .ok (.iload_n 1, 1) := by decide +kernel
theorem dX4_readLaw_40 : decode cX4_readLaw 40 = .ok (.invokevirtual 100, 3) := by decide +kernel
theorem dX4_readLaw_43 : decode cX4_readLaw 43 = .ok (.aload_n 0, 1) := by decide +kernel
theorem dX4_readLaw_44 : decode cX4_readLaw 44 = .ok (.getfield 24, 3) := by decide +kernel
theorem dX4_readLaw_47 : decode cX4_readLaw 47 = .ok (.ifCond .ne 21, 3) := by decide +kernel
theorem dX4_readLaw_50 : decode cX4_readLaw 50 = .ok (.aload_n 0, 1) := by decide +kernel
theorem dX4_readLaw_51 : decode cX4_readLaw 51 = .ok (.aload_n 0, 1) := by decide +kernel
theorem dX4_readLaw_52 : decode cX4_readLaw 52 = .ok (.ldc 103, 2) := by decide +kernel
theorem dX4_readLaw_54 : decode cX4_readLaw 54 = .ok (.invokevirtual 92, 3) := by decide +kernel
theorem dX4_readLaw_57 : decode cX4_readLaw 57 = .ok (.ifCond .ne 7, 3) := by decide +kernel
theorem dX4_readLaw_60 : decode cX4_readLaw 60 = .ok (.iconst 1, 1) := by decide +kernel
theorem dX4_readLaw_61 : decode cX4_readLaw 61 = .ok (.goto 4, 3) := by decide +kernel
theorem dX4_readLaw_64 : decode cX4_readLaw 64 = .ok (.iconst 0, 1) := by decide +kernel
theorem dX4_readLaw_65 : decode cX4_readLaw 65 = .ok (.invokevirtual 105, 3) := by decide +kernel
theorem dX4_readLaw_68 : decode cX4_readLaw 68 = .ok (.aload_n 0, 1) := by decide +kernel
theorem dX4_readLaw_69 : decode cX4_readLaw 69 = .ok (.getfield 24, 3) := by decide +kernel
theorem dX4_readLaw_72 : decode cX4_readLaw 72 = .ok (.ifCond .ne 8, 3) := by decide +kernel
theorem dX4_readLaw_75 : decode cX4_readLaw 75 = .ok (.aload_n 0, 1) := by decide +kernel
theorem dX4_readLaw_76 : decode cX4_readLaw 76 = .ok (.iconst 0, 1) := by decide +kernel
theorem dX4_readLaw_77 : decode cX4_readLaw 77 = .ok (.invokevirtual 109, 3) := by decide +kernel
theorem dX4_readLaw_80 : decode cX4_readLaw 80 = .ok (.aload_n 0, 1) := by decide +kernel
theorem dX4_readLaw_81 : decode cX4_readLaw 81 = .ok (.getfield 24, 3) := by decide +kernel
theorem dX4_readLaw_84 : decode cX4_readLaw 84 = .ok (.ifCond .ne 21, 3) := by decide +kernel
theorem dX4_readLaw_87 : decode cX4_readLaw 87 = .ok (.aload_n 0, 1) := by decide +kernel
theorem dX4_readLaw_88 : decode cX4_readLaw 88 = .ok (.aload_n 0, 1) := by decide +kernel
theorem dX4_readLaw_89 : decode cX4_readLaw 89 = .ok (.ldc 112, 2) := by decide +kernel
theorem dX4_readLaw_91 : decode cX4_readLaw 91 = .ok (.invokevirtual 114, 3) := by decide +kernel
theorem dX4_readLaw_94 : decode cX4_readLaw 94 = .ok (.ifCond .ne 7, 3) := by decide +kernel
theorem dX4_readLaw_97 : decode cX4_readLaw 97 = .ok (.iconst 1, 1) := by decide +kernel
theorem dX4_readLaw_98 : decode cX4_readLaw 98 = .ok (.goto 4, 3) := by decide +kernel
theorem dX4_readLaw_101 : decode cX4_readLaw 101 = .ok (.iconst 0, 1) := by decide +kernel
theorem dX4_readLaw_102 : decode cX4_readLaw 102 = .ok (.invokevirtual 105, 3) := by decide +kernel
theorem dX4_readLaw_105 : decode cX4_readLaw 105 = .ok (.return_, 1) := by decide +kernel
theorem dX4_readNumbers_0 : decode cX4_readNumbers 0 = .ok (.aload_n 0, 1) := by decide +kernel
theorem dX4_readNumbers_1 : decode cX4_readNumbers 1 = .ok (.getstatic 117, 3) := by decide +kernel
theorem dX4_readNumbers_4 : decode cX4_readNumbers 4 = .ok (.iload_n 1, 1) := by decide +kernel
theorem dX4_readNumbers_5 : decode cX4_readNumbers 5 = .ok (.iaload, 1) := by decide +kernel
theorem dX4_readNumbers_6 : decode cX4_readNumbers 6 = .ok (.getstatic 121, 3) := by decide +kernel
theorem dX4_readNumbers_9 : decode cX4_readNumbers 9 = .ok (.iload_n 1, 1) := by decide +kernel
theorem dX4_readNumbers_10 : decode cX4_readNumbers 10 = .ok (.iaload, 1) := by decide +kernel
theorem dX4_readNumbers_11 : decode cX4_readNumbers 11 = .ok (.invokevirtual 124, 3) := by decide +kernel
theorem dX4_readNumbers_14 : decode cX4_readNumbers 14 = .ok (.istore_n 2, 1) := by decide +kernel
theorem dX4_readNumbers_15 : decode cX4_readNumbers 15 = .ok (.iload_n 2, 1) := by decide +kernel
theorem dX4_readNumbers_16 : decode cX4_readNumbers 16 = .ok (.istore_n 3, 1) := by decide +kernel
theorem dX4_readNumbers_17 : decode cX4_readNumbers 17 = .ok (.aload_n 0, 1) := by decide +kernel
theorem dX4_readNumbers_18 : decode cX4_readNumbers 18 = .ok (.getfield 24, 3) := by decide +kernel
theorem dX4_readNumbers_21 : decode cX4_readNumbers 21 = .ok (.ifCond .ne 69, 3) := by decide +kernel
theorem dX4_readNumbers_24 : decode cX4_readNumbers 24 = .ok (.aload_n 0, 1) := by decide +kernel
theorem dX4_readNumbers_25 : decode cX4_readNumbers 25 = .ok (.ldc 128, 2) := by decide +kernel
theorem dX4_readNumbers_27 : decode cX4_readNumbers 27 = .ok (.invokevirtual 92, 3) := by decide +kernel
theorem dX4_readNumbers_30 : decode cX4_readNumbers 30 = .ok (.ifCond .ne 60, 3) := by decide +kernel
theorem dX4_readNumbers_33 : decode cX4_readNumbers 33 = .ok (.aload_n 0, 1) := by decide +kernel
theorem dX4_readNumbers_34 : decode cX4_readNumbers 34 = .ok (.invokevirtual 31, 3) := by decide +kernel
theorem dX4_readNumbers_37 : decode cX4_readNumbers 37 = .ok (.aload_n 0, 1) := by decide +kernel
theorem dX4_readNumbers_38 : decode cX4_readNumbers 38 = .ok (.getfield 34, 3) := by decide +kernel
theorem dX4_readNumbers_41 : decode cX4_readNumbers 41 = .ok (.iconst 2, 1) := by decide +kernel
theorem dX4_readNumbers_42 : decode cX4_readNumbers 42 = .ok (.if_icmp .ne 37, 3) := by decide +kernel
theorem dX4_readNumbers_45 : decode cX4_readNumbers 45 = .ok (.aload_n 0, 1) := by decide +kernel
theorem dX4_readNumbers_46 : decode cX4_readNumbers 46 = .ok (.getfield 72, 3) := by decide +kernel
theorem dX4_readNumbers_49 : decode cX4_readNumbers 49 = .ok (.iload_n 2, 1) := by decide +kernel
theorem dX4_readNumbers_50 : decode cX4_readNumbers 50 = .ok (.iconst 1, 1) := by decide +kernel
theorem dX4_readNumbers_51 : decode cX4_readNumbers 51 = .ok (.iadd, 1) := by decide +kernel
theorem dX4_readNumbers_52 : decode cX4_readNumbers 52 = .ok (.getstatic 121, 3) := by decide +kernel
theorem dX4_readNumbers_55 : decode cX4_readNumbers 55 = .ok (.iload_n 1, 1) := by decide +kernel
theorem dX4_readNumbers_56 : decode cX4_readNumbers 56 = .ok (.iaload, 1) := by decide +kernel
theorem dX4_readNumbers_57 : decode cX4_readNumbers 57 = .ok (.invokestatic 130, 3) := by decide +kernel
theorem dX4_readNumbers_60 : decode cX4_readNumbers 60 = .ok (.ifCond .eq 19, 3) := by decide +kernel
theorem dX4_readNumbers_63 : decode cX4_readNumbers 63 = .ok (.aload_n 0, 1) := by decide +kernel
theorem dX4_readNumbers_64 : decode cX4_readNumbers 64 = .ok (.getfield 15, 3) := by decide +kernel
theorem dX4_readNumbers_67 : decode cX4_readNumbers 67 = .ok (.getfield 134, 3) := by decide +kernel
theorem dX4_readNumbers_70 : decode cX4_readNumbers 70 = .ok (.iconst 4, 1) := by decide +kernel
theorem dX4_readNumbers_71 : decode cX4_readNumbers 71 = .ok (.if_icmp .lt 8, 3) := by decide +kernel
theorem dX4_readNumbers_74 : decode cX4_readNumbers 74 = .ok (.aload_n 0, 1) := by decide +kernel
theorem dX4_readNumbers_75 : decode cX4_readNumbers 75 = .ok (.iconst 5, 1) := by decide +kernel
theorem dX4_readNumbers_76 : decode cX4_readNumbers 76 = .ok (.invokevirtual 86, 3) := by decide +kernel
theorem dX4_readNumbers_79 : decode cX4_readNumbers 79 = .ok (.aload_n 0, 1) := by decide +kernel
theorem dX4_readNumbers_80 : decode cX4_readNumbers 80 = .ok (.iload_n 2, 1) := by decide +kernel
theorem dX4_readNumbers_81 : decode cX4_readNumbers 81 = .ok (.getstatic 121, 3) := by decide +kernel
theorem dX4_readNumbers_84 : decode cX4_readNumbers 84 = .ok (.iload_n 1, 1) := by decide +kernel
theorem dX4_readNumbers_85 : decode cX4_readNumbers 85 = .ok (.iaload, 1) := by decide +kernel
theorem dX4_readNumbers_86 : decode cX4_readNumbers 86 = .ok (.invokevirtual 124, 3) := by decide +kernel
theorem dX4_readNumbers_89 : decode cX4_readNumbers 89 = .ok (.istore_n 3, 1) := by decide +kernel
theorem dX4_readNumbers_90 : decode cX4_readNumbers 90 = .ok (.aload_n 0, 1) := by decide +kernel
theorem dX4_readNumbers_91 : decode cX4_readNumbers 91 = .ok (.getfield 24, 3) := by decide +kernel
theorem dX4_readNumbers_94 : decode cX4_readNumbers 94 = .ok (.ifCond .ne 13, 3) := by decide +kernel
theorem dX4_readNumbers_97 : decode cX4_readNumbers 97 = .ok (.aload_n 0, 1) := by decide +kernel
theorem dX4_readNumbers_98 : decode cX4_readNumbers 98 = .ok (.getfield 15, 3) := by decide +kernel
theorem dX4_readNumbers_101 : decode cX4_readNumbers 101 = .ok (.iload_n 1, 1) := by decide +kernel
theorem dX4_readNumbers_102 : decode cX4_readNumbers 102 = .ok (.iload_n 2, 1) := by decide +kernel
theorem dX4_readNumbers_103 : decode cX4_readNumbers 103 = .ok (.iload_n 3, 1) := by decide +kernel
theorem dX4_readNumbers_104 : decode cX4_readNumbers 104 = .ok (.invokevirtual 137, 3) := by decide +kernel
theorem dX4_readNumbers_107 : decode cX4_readNumbers 107 = .ok (.return_, 1) := by decide +kernel
theorem dX4_readN_0 : decode cX4_readN 0 = .ok (.aload_n 0, 1) := by decide +kernel
theorem dX4_readN_1 : decode cX4_readN 1 = .ok (.getfield 72, 3) := by decide +kernel
theorem dX4_readN_4 : decode cX4_readN 4 = .ok (.istore_n 3, 1) := by decide +kernel
theorem dX4_readN_5 : decode cX4_readN 5 = .ok (.aload_n 0, 1) := by decide +kernel
theorem dX4_readN_6 : decode cX4_readN 6 = .ok (.getfield 34, 3) := by decide +kernel
theorem dX4_readN_9 : decode cX4_readN 9 = .ok (.iconst 2, 1) := by decide +kernel
theorem dX4_readN_10 : decode cX4_readN 10 = .ok (.if_icmp .eq 11, 3) := by decide +kernel
theorem dX4_readN_13 : decode cX4_readN 13 = .ok (.aload_n 0, 1) := by decide +kernel
theorem dX4_readN_14 : decode cX4_readN 14 = .ok (.iconst 1, 1) := by decide +kernel
theorem dX4_readN_15 : decode cX4_readN 15 = .ok (.invokevirtual 86, 3) := by decide +kernel
theorem dX4_readN_18 : decode cX4_readN 18 = .ok (.goto 24, 3) := by decide +kernel
theorem dX4_readN_21 : decode cX4_readN 21 = .ok (.iload_n 3, 1) := by decide +kernel
theorem dX4_readN_22 : decode cX4_readN 22 = .ok (.iload_n 1, 1) := by decide +kernel
theorem dX4_readN_23 : decode cX4_readN 23 = .ok (.iload_n 2, 1) := by decide +kernel
theorem dX4_readN_24 : decode cX4_readN 24 = .ok (.invokestatic 130, 3) := by decide +kernel
theorem dX4_readN_27 : decode cX4_readN 27 = .ok (.ifCond .ne 11, 3) := by decide +kernel
theorem dX4_readN_30 : decode cX4_readN 30 = .ok (.aload_n 0, 1) := by decide +kernel
theorem dX4_readN_31 : decode cX4_readN 31 = .ok (.iconst 4, 1) := by decide +kernel
theorem dX4_readN_32 : decode cX4_readN 32 = .ok (.invokevirtual 86, 3) := by decide +kernel
theorem dX4_readN_35 : decode cX4_readN 35 = .ok (.goto 7, 3) := by decide +kernel
theorem dX4_readN_38 : decode cX4_readN 38 = .ok (.aload_n 0, 1) := by decide +kernel
theorem dX4_readN_39 : decode cX4_readN 39 = .ok (.invokevirtual 31, 3) := by decide +kernel
theorem dX4_readN_42 : decode cX4_readN 42 = .ok (.iload_n 3, 1) := by decide +kernel
theorem dX4_readN_43 : decode cX4_readN 43 = .ok (.ireturn, 1) := by decide +kernel
theorem dX4_readAny_0 : decode cX4_readAny 0 = .ok (.aload_n 0, 1) := by decide +kernel
theorem dX4_readAny_1 : decode cX4_readAny 1 = .ok (.iload_n 1, 1) := by decide +kernel
theorem dX4_readAny_2 : decode cX4_readAny 2 = .ok (.invokevirtual 141, 3) := by decide +kernel
theorem dX4_readAny_5 : decode cX4_readAny 5 = .ok (.iconst 0, 1) := by decide +kernel
theorem dX4_readAny_6 : decode cX4_readAny 6 = .ok (.istore_n 2, 1) := by decide +kernel
theorem dX4_readAny_7 : decode cX4_readAny 7 = .ok (.iload_n 2, 1) := by decide +kernel
theorem dX4_readAny_8 : decode cX4_readAny 8 = .ok (.sipush 1000, 3) := by decide +kernel
theorem dX4_readAny_11 : decode cX4_readAny 11 = .ok (.if_icmp .ge 57, 3) := by decide +kernel
theorem dX4_readAny_14 : decode cX4_readAny 14 = .ok (.aload_n 0, 1) := by decide +kernel
theorem dX4_readAny_15 : decode cX4_readAny 15 = .ok (.getfield 24, 3) := by decide +kernel
theorem dX4_readAny_18 : decode cX4_readAny 18 = .ok (.ifCond .ne 50, 3) := by decide +kernel
theorem dX4_readAny_21 : decode cX4_readAny 21 = .ok (.aload_n 0, 1) := by decide +kernel
theorem dX4_readAny_22 : decode cX4_readAny 22 = .ok (.ldc 144, 2) := by decide +kernel
theorem dX4_readAny_24 : decode cX4_readAny 24 = .ok (.invokevirtual 92, 3) := by decide +kernel
theorem dX4_readAny_27 : decode cX4_readAny 27 = .ok (.istore_n 3, 1) := by decide +kernel
theorem dX4_readAny_28 : decode cX4_readAny 28 = .ok (.iload_n 3, 1) := by decide +kernel
theorem dX4_readAny_29 : decode cX4_readAny 29 = .ok (.iconst (-1), 1) := by decide +kernel
theorem dX4_readAny_30 : decode cX4_readAny 30 = .ok (.if_icmp .ne 4, 3) := by decide +kernel
theorem dX4_readAny_33 : decode cX4_readAny 33 = .ok (.return_, 1) := by decide +kernel
theorem dX4_readAny_34 : decode cX4_readAny 34 = .ok (.aload_n 0, 1) := by decide +kernel
theorem dX4_readAny_35 : decode cX4_readAny 35 = .ok (.invokevirtual 31, 3) := by decide +kernel
theorem dX4_readAny_38 : decode cX4_readAny 38 = .ok (.aload_n 0, 1) := by decide +kernel
theorem dX4_readAny_39 : decode cX4_readAny 39 = .ok (.iload_n 1, 1) := by decide +kernel
theorem dX4_readAny_40 : decode cX4_readAny 40 = .ok (.invokevirtual 141, 3) := by decide +kernel
theorem dX4_readAny_43 : decode cX4_readAny 43 = .ok (.aload_n 0, 1) := by decide +kernel
theorem dX4_readAny_44 : decode cX4_readAny 44 = .ok (.getfield 15, 3) := by decide +kernel
theorem dX4_readAny_47 : decode cX4_readAny 47 = .ok (.iload_n 3, 1) := by decide +kernel
theorem dX4_readAny_48 : decode cX4_readAny 48 = .ok (.ifCond .ne 8, 3) := by decide +kernel
theorem dX4_readAny_51 : decode cX4_readAny 51 = .ok (.bipush 11, 2) := by decide +kernel
theorem dX4_readAny_53 : decode cX4_readAny 53 = .ok (.goto 5, 3) := by decide +kernel
theorem dX4_readAny_56 : decode cX4_readAny 56 = .ok (.bipush 12, 2) := by decide +kernel
theorem dX4_readAny_58 : decode cX4_readAny 58 = .ok (.iconst 0, 1) := by decide +kernel
theorem dX4_readAny_59 : decode cX4_readAny 59 = .ok (.invokevirtual 146, 3) := by decide +kernel
theorem dX4_readAny_62 : decode cX4_readAny 62 = .ok (.iinc 2 1, 3) := by decide +kernel
theorem dX4_readAny_65 : decode cX4_readAny 65 = .ok (.goto (-58), 3) := by decide +kernel
theorem dX4_readAny_68 : decode cX4_readAny 68 = .ok (.return_, 1) := by decide +kernel
theorem dX4_readTest_0 : decode cX4_readTest 0 = .ok (.aload_n 0, 1) := by decide +kernel
theorem dX4_readTest_1 : decode cX4_readTest 1 = .ok (.iload_n 1, 1) := by decide +kernel
theorem dX4_readTest_2 : decode cX4_readTest 2 = .ok (.invokevirtual 150, 3) := by decide +kernel
theorem dX4_readTest_5 : decode cX4_readTest 5 = .ok (.aload_n 0, 1) := by decide +kernel
theorem dX4_readTest_6 : decode cX4_readTest 6 = .ok (.getfield 24, 3) := by decide +kernel
theorem dX4_readTest_9 : decode cX4_readTest 9 = .ok (.ifCond .ne 12, 3) := by decide +kernel
theorem dX4_readTest_12 : decode cX4_readTest 12 = .ok (.aload_n 0, 1) := by decide +kernel
theorem dX4_readTest_13 : decode cX4_readTest 13 = .ok (.ldc 153, 2) := by decide +kernel
theorem dX4_readTest_15 : decode cX4_readTest 15 = .ok (.invokevirtual 114, 3) := by decide +kernel
theorem dX4_readTest_18 : decode cX4_readTest 18 = .ok (.goto 4, 3) := by decide +kernel
theorem dX4_readTest_21 : decode cX4_readTest 21 = .ok (.iconst (-1), 1) := by decide +kernel
theorem dX4_readTest_22 : decode cX4_readTest 22 = .ok (.istore_n 2, 1) := by decide +kernel
theorem dX4_readTest_23 : decode cX4_readTest 23 = .ok (.iload_n 2, 1) := by decide +kernel
theorem dX4_readTest_24 : decode cX4_readTest 24 = .ok (.iconst (-1), 1) := by decide +kernel
theorem dX4_readTest_25 : decode cX4_readTest 25 = .ok (.if_icmp .eq 31, 3) := by decide +kernel
theorem dX4_readTest_28 : decode cX4_readTest 28 = .ok (.aload_n 0, 1) := by decide +kernel
theorem dX4_readTest_29 : decode cX4_readTest 29 = .ok (.invokevirtual 31, 3) := by decide +kernel
theorem dX4_readTest_32 : decode cX4_readTest 32 = .ok (.aload_n 0, 1) := by decide +kernel
theorem dX4_readTest_33 : decode cX4_readTest 33 = .ok (.iload_n 1, 1) := by decide +kernel
theorem dX4_readTest_34 : decode cX4_readTest 34 = .ok (.invokevirtual 150, 3) := by decide +kernel
theorem dX4_readTest_37 : decode cX4_readTest 37 = .ok (.aload_n 0, 1) := by decide +kernel
theorem dX4_readTest_38 : decode cX4_readTest 38 = .ok (.getfield 15, 3) := by decide +kernel
theorem dX4_readTest_41 : decode cX4_readTest 41 = .ok (.iload_n 2, 1) := by decide +kernel
theorem dX4_readTest_42 : decode cX4_readTest 42 = .ok (.ifCond .ne 8, 3) := by decide +kernel
theorem dX4_readTest_45 : decode cX4_readTest 45 = .ok (.bipush 13, 2) := by decide +kernel
theorem dX4_readTest_47 : decode cX4_readTest 47 = .ok (.goto 5, 3) := by decide +kernel
theorem dX4_readTest_50 : decode cX4_readTest 50 = .ok (.bipush 14, 2) := by decide +kernel
theorem dX4_readTest_52 : decode cX4_readTest 52 = .ok (.iconst 0, 1) := by decide +kernel
theorem dX4_readTest_53 : decode cX4_readTest 53 = .ok (.invokevirtual 146, 3) := by decide +kernel
theorem dX4_readTest_56 : decode cX4_readTest 56 = .ok (.return_, 1) := by decide +kernel
theorem dX4_readSum_0 : decode cX4_readSum 0 = .ok (.aload_n 0, 1) := by decide +kernel
theorem dX4_readSum_1 : decode cX4_readSum 1 = .ok (.iload_n 1, 1) := by decide +kernel
theorem dX4_readSum_2 : decode cX4_readSum 2 = .ok (.invokevirtual 155, 3) := by decide +kernel
theorem dX4_readSum_5 : decode cX4_readSum 5 = .ok (.iconst 0, 1) := by decide +kernel
theorem dX4_readSum_6 : decode cX4_readSum 6 = .ok (.istore_n 2, 1) := by decide +kernel
theorem dX4_readSum_7 : decode cX4_readSum 7 = .ok (.iload_n 2, 1) := by decide +kernel
theorem dX4_readSum_8 : decode cX4_readSum 8 = .ok (.sipush 1000, 3) := by decide +kernel
theorem dX4_readSum_11 : decode cX4_readSum 11 = .ok (.if_icmp .ge 57, 3) := by decide +kernel
theorem dX4_readSum_14 : decode cX4_readSum 14 = .ok (.aload_n 0, 1) := by decide +kernel
theorem dX4_readSum_15 : decode cX4_readSum 15 = .ok (.getfield 24, 3) := by decide +kernel
theorem dX4_readSum_18 : decode cX4_readSum 18 = .ok (.ifCond .ne 50, 3) := by decide +kernel
theorem dX4_readSum_21 : decode cX4_readSum 21 = .ok (.aload_n 0, 1) := by decide +kernel
theorem dX4_readSum_22 : decode cX4_readSum 22 = .ok (.ldc 158, 2) := by decide +kernel
theorem dX4_readSum_24 : decode cX4_readSum 24 = .ok (.invokevirtual 114, 3) := by decide +kernel
theorem dX4_readSum_27 : decode cX4_readSum 27 = .ok (.istore_n 3, 1) := by decide +kernel
theorem dX4_readSum_28 : decode cX4_readSum 28 = .ok (.iload_n 3, 1) := by decide +kernel
theorem dX4_readSum_29 : decode cX4_readSum 29 = .ok (.iconst (-1), 1) := by decide +kernel
theorem dX4_readSum_30 : decode cX4_readSum 30 = .ok (.if_icmp .ne 4, 3) := by decide +kernel
theorem dX4_readSum_33 : decode cX4_readSum 33 = .ok (.return_, 1) := by decide +kernel
theorem dX4_readSum_34 : decode cX4_readSum 34 = .ok (.aload_n 0, 1) := by decide +kernel
theorem dX4_readSum_35 : decode cX4_readSum 35 = .ok (.invokevirtual 31, 3) := by decide +kernel
theorem dX4_readSum_38 : decode cX4_readSum 38 = .ok (.aload_n 0, 1) := by decide +kernel
theorem dX4_readSum_39 : decode cX4_readSum 39 = .ok (.iload_n 1, 1) := by decide +kernel
theorem dX4_readSum_40 : decode cX4_readSum 40 = .ok (.invokevirtual 155, 3) := by decide +kernel
theorem dX4_readSum_43 : decode cX4_readSum 43 = .ok (.aload_n 0, 1) := by decide +kernel
theorem dX4_readSum_44 : decode cX4_readSum 44 = .ok (.getfield 15, 3) := by decide +kernel
theorem dX4_readSum_47 : decode cX4_readSum 47 = .ok (.iload_n 3, 1) := by decide +kernel
theorem dX4_readSum_48 : decode cX4_readSum 48 = .ok (.ifCond .ne 8, 3) := by decide +kernel
theorem dX4_readSum_51 : decode cX4_readSum 51 = .ok (.bipush 15, 2) := by decide +kernel
theorem dX4_readSum_53 : decode cX4_readSum 53 = .ok (.goto 5, 3) := by decide +kernel
theorem dX4_readSum_56 : decode cX4_readSum 56 = .ok (.bipush 16, 2) := by decide +kernel
theorem dX4_readSum_58 : decode cX4_readSum 58 = .ok (.iconst 0, 1) := by decide +kernel
theorem dX4_readSum_59 : decode cX4_readSum 59 = .ok (.invokevirtual 146, 3) := by decide +kernel
theorem dX4_readSum_62 : decode cX4_readSum 62 = .ok (.iinc 2 1, 3) := by decide +kernel
theorem dX4_readSum_65 : decode cX4_readSum 65 = .ok (.goto (-58), 3) := by decide +kernel
theorem dX4_readSum_68 : decode cX4_readSum 68 = .ok (.return_, 1) := by decide +kernel
theorem dX4_readTerm_0 : decode cX4_readTerm 0 = .ok (.aload_n 0, 1) := by decide +kernel
theorem dX4_readTerm_1 : decode cX4_readTerm 1 = .ok (.iload_n 1, 1) := by decide +kernel
theorem dX4_readTerm_2 : decode cX4_readTerm 2 = .ok (.invokevirtual 160, 3) := by decide +kernel
theorem dX4_readTerm_5 : decode cX4_readTerm 5 = .ok (.iconst 0, 1) := by decide +kernel
theorem dX4_readTerm_6 : decode cX4_readTerm 6 = .ok (.istore_n 2, 1) := by decide +kernel
theorem dX4_readTerm_7 : decode cX4_readTerm 7 = .ok (.iload_n 2, 1) := by decide +kernel
theorem dX4_readTerm_8 : decode cX4_readTerm 8 = .ok (.sipush 1000, 3) := by decide +kernel
theorem dX4_readTerm_11 : decode cX4_readTerm 11 = .ok (.if_icmp .ge 57, 3) := by decide +kernel
theorem dX4_readTerm_14 : decode cX4_readTerm 14 = .ok (.aload_n 0, 1) := by decide +kernel
theorem dX4_readTerm_15 : decode cX4_readTerm 15 = .ok (.getfield 24, 3) := by decide +kernel
theorem dX4_readTerm_18 : decode cX4_readTerm 18 = .ok (.ifCond .ne 50, 3) := by decide +kernel
theorem dX4_readTerm_21 : decode cX4_readTerm 21 = .ok (.aload_n 0, 1) := by decide +kernel
theorem dX4_readTerm_22 : decode cX4_readTerm 22 = .ok (.ldc 163, 2) := by decide +kernel
theorem dX4_readTerm_24 : decode cX4_readTerm 24 = .ok (.invokevirtual 114, 3) := by decide +kernel
theorem dX4_readTerm_27 : decode cX4_readTerm 27 = .ok (.istore_n 3, 1) := by decide +kernel
theorem dX4_readTerm_28 : decode cX4_readTerm 28 = .ok (.iload_n 3, 1) := by decide +kernel
theorem dX4_readTerm_29 : decode cX4_readTerm 29 = .ok (.iconst (-1), 1) := by decide +kernel
theorem dX4_readTerm_30 : decode cX4_readTerm 30 = .ok (.if_icmp .ne 4, 3) := by decide +kernel
theorem dX4_readTerm_33 : decode cX4_readTerm 33 = .ok (.return_, 1) := by decide +kernel
theorem dX4_readTerm_34 : decode cX4_readTerm 34 = .ok (.aload_n 0, 1) := by decide +kernel
theorem dX4_readTerm_35 : decode cX4_readTerm 35 = .ok (.invokevirtual 31, 3) := by decide +kernel
theorem dX4_readTerm_38 : decode cX4_readTerm 38 = .ok (.aload_n 0, 1) := by decide +kernel
theorem dX4_readTerm_39 : decode cX4_readTerm 39 = .ok (.iload_n 1, 1) := by decide +kernel
theorem dX4_readTerm_40 : decode cX4_readTerm 40 = .ok (.invokevirtual 160, 3) := by decide +kernel
theorem dX4_readTerm_43 : decode cX4_readTerm 43 = .ok (.aload_n 0, 1) := by decide +kernel
theorem dX4_readTerm_44 : decode cX4_readTerm 44 = .ok (.getfield 15, 3) := by decide +kernel
theorem dX4_readTerm_47 : decode cX4_readTerm 47 = .ok (.iload_n 3, 1) := by decide +kernel
theorem dX4_readTerm_48 : decode cX4_readTerm 48 = .ok (.ifCond .ne 8, 3) := by decide +kernel
theorem dX4_readTerm_51 : decode cX4_readTerm 51 = .ok (.bipush 17, 2) := by decide +kernel
theorem dX4_readTerm_53 : decode cX4_readTerm 53 = .ok (.goto 5, 3) := by decide +kernel
theorem dX4_readTerm_56 : decode cX4_readTerm 56 = .ok (.bipush 18, 2) := by decide +kernel
theorem dX4_readTerm_58 : decode cX4_readTerm 58 = .ok (.iconst 0, 1) := by decide +kernel
theorem dX4_readTerm_59 : decode cX4_readTerm 59 = .ok (.invokevirtual 146, 3) := by decide +kernel
theorem dX4_readTerm_62 : decode cX4_readTerm 62 = .ok (.iinc 2 1, 3) := by decide +kernel
theorem dX4_readTerm_65 : decode cX4_readTerm 65 = .ok (.goto (-58), 3) := by decide +kernel
theorem dX4_readTerm_68 : decode cX4_readTerm 68 = .ok (.return_, 1) := by decide +kernel
theorem dX4_readPart_0 : decode cX4_readPart 0 = .ok (.aload_n 0, 1) := by decide +kernel
theorem dX4_readPart_1 : decode cX4_readPart 1 = .ok (.ldc 165, 2) := by decide +kernel
theorem dX4_readPart_3 : decode cX4_readPart 3 = .ok (.invokevirtual 92, 3) := by decide +kernel
theorem dX4_readPart_6 : decode cX4_readPart 6 = .ok (.istore_n 2, 1) := by decide +kernel
theorem dX4_readPart_7 : decode cX4_readPart 7 = .ok (.aload_n 0, 1) := by decide +kernel
theorem dX4_readPart_8 : decode cX4_readPart 8 = .ok (.ldc 167, 2) := by decide +kernel
theorem dX4_readPart_10 : decode cX4_readPart 10 = .ok (.invokevirtual 92, 3) := by decide +kernel
theorem dX4_readPart_13 : decode cX4_readPart 13 = .ok (.ifCond .ne 7, 3) := by decide +kernel
theorem dX4_readPart_16 : decode cX4_readPart 16 = .ok (.iconst 1, 1) := by decide +kernel
theorem dX4_readPart_17 : decode cX4_readPart 17 = .ok (.goto 4, 3) := by decide +kernel
theorem dX4_readPart_20 : decode cX4_readPart 20 = .ok (.iconst 0, 1) := by decide +kernel
theorem dX4_readPart_21 : decode cX4_readPart 21 = .ok (.istore_n 3, 1) := by decide +kernel
theorem dX4_readPart_22 : decode cX4_readPart 22 = .ok (.aload_n 0, 1) := by decide +kernel
theorem dX4_readPart_23 : decode cX4_readPart 23 = .ok (.ldc 169, 2) := by decide +kernel
theorem dX4_readPart_25 : decode cX4_readPart 25 = .ok (.invokevirtual 114, 3) := by decide +kernel
theorem dX4_readPart_28 : decode cX4_readPart 28 = .ok (.ifCond .ne 7, 3) := by decide +kernel
theorem dX4_readPart_31 : decode cX4_readPart 31 = .ok (.iconst 1, 1) := by decide +kernel
theorem dX4_readPart_32 : decode cX4_readPart 32 = .ok (.goto 4, 3) := by decide +kernel
theorem dX4_readPart_35 : decode cX4_readPart 35 = .ok (.iconst 0, 1) := by decide +kernel
theorem dX4_readPart_36 : decode cX4_readPart 36 = .ok (.istore 4, 2) := by decide +kernel
theorem dX4_readPart_38 : decode cX4_readPart 38 = .ok (.aload_n 0, 1) := by decide +kernel
theorem dX4_readPart_39 : decode cX4_readPart 39 = .ok (.getfield 34, 3) := by decide +kernel
theorem dX4_readPart_42 : decode cX4_readPart 42 = .ok (.iconst 2, 1) := by decide +kernel
theorem dX4_readPart_43 : decode cX4_readPart 43 = .ok (.if_icmp .eq 25, 3) := by decide +kernel
theorem dX4_readPart_46 : decode cX4_readPart 46 = .ok (.iload_n 2, 1) := by decide +kernel
theorem dX4_readPart_47 : decode cX4_readPart 47 = .ok (.iconst (-1), 1) := by decide +kernel
theorem dX4_readPart_48 : decode cX4_readPart 48 = .ok (.if_icmp .ne 20, 3) := by decide +kernel
theorem dX4_readPart_51 : decode cX4_readPart 51 = .ok (.iload_n 3, 1) := by decide +kernel
theorem dX4_readPart_52 : decode cX4_readPart 52 = .ok (.ifCond .ne 16, 3) := by decide +kernel
theorem dX4_readPart_55 : decode cX4_readPart 55 = .ok (.iload 4, 2) := by decide +kernel
theorem dX4_readPart_57 : decode cX4_readPart 57 = .ok (.ifCond .ne 11, 3) := by decide +kernel
theorem dX4_readPart_60 : decode cX4_readPart 60 = .ok (.aload_n 0, 1) := by decide +kernel
theorem dX4_readPart_61 : decode cX4_readPart 61 = .ok (.iconst 1, 1) := by decide +kernel
theorem dX4_readPart_62 : decode cX4_readPart 62 = .ok (.invokevirtual 86, 3) := by decide +kernel
theorem dX4_readPart_65 : decode cX4_readPart 65 = .ok (.goto 126, 3) := by decide +kernel
theorem dX4_readPart_68 : decode cX4_readPart 68 = .ok (.iload_n 1, 1) := by decide +kernel
theorem dX4_readPart_69 : decode cX4_readPart 69 = .ok (.iconst 4, 1) := by decide +kernel
theorem dX4_readPart_70 : decode cX4_readPart 70 = .ok (.if_icmp .lt 11, 3) := by decide +kernel
theorem dX4_readPart_73 : decode cX4_readPart 73 = .ok (.aload_n 0, 1) := by decide +kernel
theorem dX4_readPart_74 : decode cX4_readPart 74 = .ok (.iconst 5, 1) := by decide +kernel
theorem dX4_readPart_75 : decode cX4_readPart 75 = .ok (.invokevirtual 86, 3) := by decide +kernel
theorem dX4_readPart_78 : decode cX4_readPart 78 = .ok (.goto 113, 3) := by decide +kernel
theorem dX4_readPart_81 : decode cX4_readPart 81 = .ok (.iload_n 3, 1) := by decide +kernel
theorem dX4_readPart_82 : decode cX4_readPart 82 = .ok (.ifCond .eq 27, 3) := by decide +kernel
theorem dX4_readPart_85 : decode cX4_readPart 85 = .ok (.aload_n 0, 1) := by decide +kernel
theorem dX4_readPart_86 : decode cX4_readPart 86 = .ok (.invokevirtual 31, 3) := by decide +kernel
theorem dX4_readPart_89 : decode cX4_readPart 89 = .ok (.aload_n 0, 1) := by decide +kernel
theorem dX4_readPart_90 : decode cX4_readPart 90 = .ok (.iload_n 1, 1) := by decide +kernel
theorem dX4_readPart_91 : decode cX4_readPart 91 = .ok (.iconst 1, 1) := by decide +kernel
theorem dX4_readPart_92 : decode cX4_readPart 92 = .ok (.iadd, 1) := by decide +kernel
theorem dX4_readPart_93 : decode cX4_readPart 93 = .ok (.invokevirtual 160, 3) := by decide +kernel
theorem dX4_readPart_96 : decode cX4_readPart 96 = .ok (.aload_n 0, 1) := by decide +kernel
theorem dX4_readPart_97 : decode cX4_readPart 97 = .ok (.getfield 15, 3) := by decide +kernel
theorem dX4_readPart_100 : decode cX4_readPart 100 = .ok (.bipush 10, 2) := by decide +kernel
theorem dX4_readPart_102 : decode cX4_readPart 102 = .ok (.iconst 0, 1) := by decide +kernel
theorem dX4_readPart_103 : decode cX4_readPart 103 = .ok (.invokevirtual 146, 3) := by decide +kernel
theorem dX4_readPart_106 : decode cX4_readPart 106 = .ok (.goto 85, 3) := by decide +kernel
theorem dX4_readPart_109 : decode cX4_readPart 109 = .ok (.iload 4, 2) := by decide +kernel
theorem dX4_readPart_111 : decode cX4_readPart 111 = .ok (.ifCond .eq 42, 3) := by decide +kernel
theorem dX4_readPart_114 : decode cX4_readPart 114 = .ok (.aload_n 0, 1) := by decide +kernel
theorem dX4_readPart_115 : decode cX4_readPart 115 = .ok (.invokevirtual 31, 3) := by decide +kernel
theorem dX4_readPart_118 : decode cX4_readPart 118 = .ok (.aload_n 0, 1) := by decide +kernel
theorem dX4_readPart_119 : decode cX4_readPart 119 = .ok (.iload_n 1, 1) := by decide +kernel
theorem dX4_readPart_120 : decode cX4_readPart 120 = .ok (.iconst 1, 1) := by decide +kernel
theorem dX4_readPart_121 : decode cX4_readPart 121 = .ok (.iadd, 1) := by decide +kernel
theorem dX4_readPart_122 : decode cX4_readPart 122 = .ok (.invokevirtual 109, 3) := by decide +kernel
theorem dX4_readPart_125 : decode cX4_readPart 125 = .ok (.aload_n 0, 1) := by decide +kernel
theorem dX4_readPart_126 : decode cX4_readPart 126 = .ok (.getfield 24, 3) := by decide +kernel
theorem dX4_readPart_129 : decode cX4_readPart 129 = .ok (.ifCond .ne 62, 3) := by decide +kernel
theorem dX4_readPart_132 : decode cX4_readPart 132 = .ok (.aload_n 0, 1) := by decide +kernel
theorem dX4_readPart_133 : decode cX4_readPart 133 = .ok (.aload_n 0, 1) := by decide +kernel
theorem dX4_readPart_134 : decode cX4_readPart 134 = .ok (.ldc 171, 2) := by decide +kernel
theorem dX4_readPart_136 : decode cX4_readPart 136 = .ok (.invokevirtual 114, 3) := by decide +kernel
theorem dX4_readPart_139 : decode cX4_readPart 139 = .ok (.ifCond .ne 7, 3) := by decide +kernel
theorem dX4_readPart_142 : decode cX4_readPart 142 = .ok (.iconst 1, 1) := by decide +kernel
theorem dX4_readPart_143 : decode cX4_readPart 143 = .ok (.goto 4, 3) := by decide +kernel
theorem dX4_readPart_146 : decode cX4_readPart 146 = .ok (.iconst 0, 1) := by decide +kernel
theorem dX4_readPart_147 : decode cX4_readPart 147 = .ok (.invokevirtual 105, 3) := by decide +kernel
theorem dX4_readPart_150 : decode cX4_readPart 150 = .ok (.goto 41, 3) := by decide +kernel
theorem dX4_readPart_153 : decode cX4_readPart 153 = .ok (.iload_n 2, 1) := by decide +kernel
theorem dX4_readPart_154 : decode cX4_readPart 154 = .ok (.iconst (-1), 1) := by decide +kernel
theorem dX4_readPart_155 : decode cX4_readPart 155 = .ok (.if_icmp .eq 19, 3) := by decide +kernel
theorem dX4_readPart_158 : decode cX4_readPart 158 = .ok (.aload_n 0, 1) := by decide +kernel
theorem dX4_readPart_159 : decode cX4_readPart 159 = .ok (.getfield 15, 3) := by decide +kernel
theorem dX4_readPart_162 : decode cX4_readPart 162 = .ok (.iload_n 2, 1) := by decide +kernel
theorem dX4_readPart_163 : decode cX4_readPart 163 = .ok (.iconst 0, 1) := by decide +kernel
theorem dX4_readPart_164 : decode cX4_readPart 164 = .ok (.invokevirtual 146, 3) := by decide +kernel
theorem dX4_readPart_167 : decode cX4_readPart 167 = .ok (.aload_n 0, 1) := by decide +kernel
theorem dX4_readPart_168 : decode cX4_readPart 168 = .ok (.invokevirtual 31, 3) := by decide +kernel
theorem dX4_readPart_171 : decode cX4_readPart 171 = .ok (.goto 20, 3) := by decide +kernel
theorem dX4_readPart_174 : decode cX4_readPart 174 = .ok (.aload_n 0, 1) := by decide +kernel
theorem dX4_readPart_175 : decode cX4_readPart 175 = .ok (.getfield 15, 3) := by decide +kernel
theorem dX4_readPart_178 : decode cX4_readPart 178 = .ok (.bipush 9, 2) := by decide +kernel
theorem dX4_readPart_180 : decode cX4_readPart 180 = .ok (.aload_n 0, 1) := by decide +kernel
theorem dX4_readPart_181 : decode cX4_readPart 181 = .ok (.getfield 72, 3) := by decide +kernel
theorem dX4_readPart_184 : decode cX4_readPart 184 = .ok (.invokevirtual 146, 3) := by decide +kernel
theorem dX4_readPart_187 : decode cX4_readPart 187 = .ok (.aload_n 0, 1) := by decide +kernel
theorem dX4_readPart_188 : decode cX4_readPart 188 = .ok (.invokevirtual 31, 3) := by decide +kernel
theorem dX4_readPart_191 : decode cX4_readPart 191 = .ok (.return_, 1) := by decide +kernel
theorem dX5_init_0 : decode cX5_init 0 = .ok (.aload_n 0, 1) := by decide +kernel
theorem dX5_init_1 : decode cX5_init 1 = .ok (.invokespecial 3, 3) := by decide +kernel
theorem dX5_init_4 : decode cX5_init 4 = .ok (.aload_n 0, 1) := by decide +kernel
theorem dX5_init_5 : decode cX5_init 5 = .ok (.sipush 1000, 3) := by decide +kernel
theorem dX5_init_8 : decode cX5_init 8 = .ok (.newarray .char, 2) := by decide +kernel
theorem dX5_init_10 : decode cX5_init 10 = .ok (.putfield 9, 3) := by decide +kernel
theorem dX5_init_13 : decode cX5_init 13 = .ok (.return_, 1) := by decide +kernel
theorem dX5_signAt_0 : decode cX5_signAt 0 = .ok (.iconst 0, 1) := by decide +kernel
theorem dX5_signAt_1 : decode cX5_signAt 1 = .ok (.iload_n 1, 1) := by decide +kernel
theorem dX5_signAt_2 : decode cX5_signAt 2 = .ok (.if_icmp .gt 20, 3) := by decide +kernel
theorem dX5_signAt_5 : decode cX5_signAt 5 = .ok (.iload_n 1, 1) := by decide +kernel
theorem dX5_signAt_6 : decode cX5_signAt 6 = .ok (.aload_n 0, 1) := by decide +kernel
theorem dX5_signAt_7 : decode cX5_signAt 7 = .ok (.getfield 15, 3) := by decide +kernel
theorem dX5_signAt_10 : decode cX5_signAt 10 = .ok (.if_icmp .ge 12, 3) := by decide +kernel
theorem dX5_signAt_13 : decode cX5_signAt 13 = .ok (.aload_n 0, 1) := by decide +kernel
theorem dX5_signAt_14 : decode cX5_signAt 14 = .ok (.getfield 9, 3) := by decide +kernel
theorem dX5_signAt_17 : decode cX5_signAt 17 = .ok (.iload_n 1, 1) := by decide +kernel
theorem dX5_signAt_18 : decode cX5_signAt 18 = .ok (.caload, 1) := by decide +kernel
theorem dX5_signAt_19 : decode cX5_signAt 19 = .ok (.goto 4, 3) := by decide +kernel
theorem dX5_signAt_22 : decode cX5_signAt 22 = .ok (.iconst 0, 1) := by decide +kernel
theorem dX5_signAt_23 : decode cX5_signAt 23 = .ok (.ireturn, 1) := by decide +kernel
theorem dX5_addBytes_0 : decode cX5_addBytes 0 = .ok (.bipush 56, 2) := by decide +kernel
theorem dX5_addBytes_2 : decode cX5_addBytes 2 = .ok (.istore_n 3, 1) := by decide +kernel
theorem dX5_addBytes_3 : decode cX5_addBytes 3 = .ok (.iload_n 3, 1) := by decide +kernel
theorem dX5_addBytes_4 : decode cX5_addBytes 4 = .ok (.ifCond .lt 70, 3) := by decide +kernel
theorem dX5_addBytes_7 : decode cX5_addBytes 7 = .ok (.lload_n 1, 1) := by decide +kernel
theorem dX5_addBytes_8 : decode cX5_addBytes 8 = .ok (.iload_n 3, 1) := by decide +kernel
theorem dX5_addBytes_9 : decode cX5_addBytes 9 = .ok (.lshr, 1) := by decide +kernel
theorem dX5_addBytes_10 : decode cX5_addBytes 10 = .ok (.ldc2_w 19, 3) := by decide +kernel
theorem dX5_addBytes_13 : decode cX5_addBytes 13 = .ok (.land, 1) := by decide +kernel
theorem dX5_addBytes_14 : decode cX5_addBytes 14 = .ok (.l2i, 1) := by decide +kernel
theorem dX5_addBytes_15 : decode cX5_addBytes 15 = .ok (.istore 4, 2) := by decide +kernel
theorem dX5_addBytes_17 : decode cX5_addBytes 17 = .ok (.iload 4, 2) := by decide +kernel
theorem dX5_addBytes_19 : decode cX5_addBytes 19 = .ok (.bipush 10, 2) := by decide +kernel
theorem dX5_addBytes_21 : decode cX5_addBytes 21 = .ok (.if_icmp .eq 15, 3) := by decide +kernel
theorem dX5_addBytes_24 : decode cX5_addBytes 24 = .ok (.iload 4, 2) := by decide +kernel
theorem dX5_addBytes_26 : decode cX5_addBytes 26 = .ok (.bipush 32, 2) := by decide +kernel
theorem dX5_addBytes_28 : decode cX5_addBytes 28 = .ok (.bipush 126, 2) := by decide +kernel
theorem dX5_addBytes_30 : decode cX5_addBytes 30 = .ok (.invokestatic 21, 3) := by decide +kernel
theorem dX5_addBytes_33 : decode cX5_addBytes 33 = .ok (.ifCond .eq 35, 3) := by decide +kernel
theorem dX5_addBytes_36 : decode cX5_addBytes 36 = .ok (.aload_n 0, 1) := by decide +kernel
theorem dX5_addBytes_37 : decode cX5_addBytes 37 = .ok (.getfield 15, 3) := by decide +kernel
theorem dX5_addBytes_40 : decode cX5_addBytes 40 = .ok (.sipush 1000, 3) := by decide +kernel
theorem dX5_addBytes_43 : decode cX5_addBytes 43 = .ok (.if_icmp .ge 25, 3) := by decide +kernel
theorem dX5_addBytes_46 : decode cX5_addBytes 46 = .ok (.aload_n 0, 1) := by decide +kernel
theorem dX5_addBytes_47 : decode cX5_addBytes 47 = .ok (.getfield 9, 3) := by decide +kernel
theorem dX5_addBytes_50 : decode cX5_addBytes 50 = .ok (.aload_n 0, 1) := by decide +kernel
theorem dX5_addBytes_51 : decode cX5_addBytes 51 = .ok (.getfield 15, 3) := by decide +kernel
theorem dX5_addBytes_54 : decode cX5_addBytes 54 = .ok (.iload 4, 2) := by decide +kernel
theorem dX5_addBytes_56 : decode cX5_addBytes 56 = .ok (.i2c, 1) := by decide +kernel
theorem dX5_addBytes_57 : decode cX5_addBytes 57 = .ok (.castore, 1) := by decide +kernel
theorem dX5_addBytes_58 : decode cX5_addBytes 58 = .ok (.aload_n 0, 1) := by decide +kernel
theorem dX5_addBytes_59 : decode cX5_addBytes 59 = .ok (.dup, 1) := by decide +kernel
theorem dX5_addBytes_60 : decode cX5_addBytes 60 = .ok (.getfield 15, 3) := by decide +kernel
theorem dX5_addBytes_63 : decode cX5_addBytes 63 = .ok (.iconst 1, 1) := by decide +kernel
theorem dX5_addBytes_64 : decode cX5_addBytes 64 = .ok (.iadd, 1) := by decide +kernel
theorem dX5_addBytes_65 : decode cX5_addBytes 65 = .ok (.putfield 15, 3) := by decide +kernel
theorem dX5_addBytes_68 : decode cX5_addBytes 68 = .ok (.iinc 3 (-8), 3) := by decide +kernel
theorem dX5_addBytes_71 : decode cX5_addBytes 71 = .ok (.goto (-68), 3) := by decide +kernel
theorem dX5_addBytes_74 : decode cX5_addBytes 74 = .ok (.return_, 1) := by decide +kernel
theorem dX6_init_0 : decode cX6_init 0 = .ok (.aload_n 0, 1) := by decide +kernel
theorem dX6_init_1 : decode cX6_init 1 = .ok (.invokespecial 1, 3) := by decide +kernel
theorem dX6_init_4 : decode cX6_init 4 = .ok (.aload_n 0, 1) := by decide +kernel
theorem dX6_init_5 : decode cX6_init 5 = .ok (.new 7, 3) := by decide +kernel
theorem dX6_init_8 : decode cX6_init 8 = .ok (.dup, 1) := by decide +kernel
theorem dX6_init_9 : decode cX6_init 9 = .ok (.invokespecial 9, 3) := by decide +kernel
theorem dX6_init_12 : decode cX6_init 12 = .ok (.putfield 10, 3) := by decide +kernel
theorem dX6_init_15 : decode cX6_init 15 = .ok (.aload_n 0, 1) := by decide +kernel
theorem dX6_init_16 : decode cX6_init 16 = .ok (.bipush 6, 2) := by decide +kernel
theorem dX6_init_18 : decode cX6_init 18 = .ok (.anewarray 7, 3) := by decide +kernel
theorem dX6_init_21 : decode cX6_init 21 = .ok (.putfield 16, 3) := by decide +kernel
theorem dX6_init_24 : decode cX6_init 24 = .ok (.aload_n 0, 1) := by decide +kernel
theorem dX6_init_25 : decode cX6_init 25 = .ok (.new 20, 3) := by decide +kernel
theorem dX6_init_28 : decode cX6_init 28 = .ok (.dup, 1) := by decide +kernel
theorem dX6_init_29 : decode cX6_init 29 = .ok (.invokespecial 22, 3) := by decide +kernel
theorem dX6_init_32 : decode cX6_init 32 = .ok (.putfield 23, 3) := by decide +kernel
theorem dX6_init_35 : decode cX6_init 35 = .ok (.aload_n 0, 1) := by decide +kernel
theorem dX6_init_36 : decode cX6_init 36 = .ok (.new 27, 3) := by decide +kernel
theorem dX6_init_39 : decode cX6_init 39 = .ok (.dup, 1) := by decide +kernel
theorem dX6_init_40 : decode cX6_init 40 = .ok (.invokespecial 29, 3) := by decide +kernel
theorem dX6_init_43 : decode cX6_init 43 = .ok (.putfield 30, 3) := by decide +kernel
theorem dX6_init_46 : decode cX6_init 46 = .ok (.aload_n 0, 1) := by decide +kernel
theorem dX6_init_47 : decode cX6_init 47 = .ok (.aload_n 0, 1) := by decide +kernel
theorem dX6_init_48 : decode cX6_init 48 = .ok (.getfield 30, 3) := by decide +kernel
theorem dX6_init_51 : decode cX6_init 51 = .ok (.getfield 34, 3) := by decide +kernel
theorem dX6_init_54 : decode cX6_init 54 = .ok (.putfield 35, 3) := by decide +kernel
theorem dX6_init_57 : decode cX6_init 57 = .ok (.aload_n 0, 1) := by decide +kernel
theorem dX6_init_58 : decode cX6_init 58 = .ok (.aload_n 0, 1) := by decide +kernel
theorem dX6_init_59 : decode cX6_init 59 = .ok (.getfield 30, 3) := by decide +kernel
theorem dX6_init_62 : decode cX6_init 62 = .ok (.getfield 38, 3) := by decide +kernel
theorem dX6_init_65 : decode cX6_init 65 = .ok (.putfield 42, 3) := by decide +kernel
theorem dX6_init_68 : decode cX6_init 68 = .ok (.aload_n 0, 1) := by decide +kernel
theorem dX6_init_69 : decode cX6_init 69 = .ok (.new 45, 3) := by decide +kernel
theorem dX6_init_72 : decode cX6_init 72 = .ok (.dup, 1) := by decide +kernel
theorem dX6_init_73 : decode cX6_init 73 = .ok (.invokespecial 47, 3) := by decide +kernel
theorem dX6_init_76 : decode cX6_init 76 = .ok (.putfield 48, 3) := by decide +kernel
theorem dX6_init_79 : decode cX6_init 79 = .ok (.aload_n 0, 1) := by decide +kernel
theorem dX6_init_80 : decode cX6_init 80 = .ok (.new 51, 3) := by decide +kernel
theorem dX6_init_83 : decode cX6_init 83 = .ok (.dup, 1) := by decide +kernel
theorem dX6_init_84 : decode cX6_init 84 = .ok (.aload_n 0, 1) := by decide +kernel
theorem dX6_init_85 : decode cX6_init 85 = .ok (.getfield 23, 3) := by decide +kernel
theorem dX6_init_88 : decode cX6_init 88 = .ok (.aload_n 0, 1) := by decide +kernel
theorem dX6_init_89 : decode cX6_init 89 = .ok (.getfield 48, 3) := by decide +kernel
theorem dX6_init_92 : decode cX6_init 92 = .ok (.invokespecial 53, 3) := by decide +kernel
theorem dX6_init_95 : decode cX6_init 95 = .ok (.putfield 56, 3) := by decide +kernel
theorem dX6_init_98 : decode cX6_init 98 = .ok (.aload_n 0, 1) := by decide +kernel
theorem dX6_init_99 : decode cX6_init 99 = .ok (.bipush 10, 2) := by decide +kernel
theorem dX6_init_101 : decode cX6_init 101 = .ok (.newarray .int, 2) := by decide +kernel
theorem dX6_init_103 : decode cX6_init 103 = .ok (.putfield 60, 3) := by decide +kernel
theorem dX6_init_106 : decode cX6_init 106 = .ok (.aload_n 0, 1) := by decide +kernel
theorem dX6_init_107 : decode cX6_init 107 = .ok (.bipush 10, 2) := by decide +kernel
theorem dX6_init_109 : decode cX6_init 109 = .ok (.newarray .int, 2) := by decide +kernel
theorem dX6_init_111 : decode cX6_init 111 = .ok (.putfield 64, 3) := by decide +kernel
theorem dX6_init_114 : decode cX6_init 114 = .ok (.return_, 1) := by decide +kernel
theorem dX6_rings_0 : decode cX6_rings 0 = .ok (.aload_n 0, 1) := by decide +kernel
theorem dX6_rings_1 : decode cX6_rings 1 = .ok (.getfield 10, 3) := by decide +kernel
theorem dX6_rings_4 : decode cX6_rings 4 = .ok (.getfield 67, 3) := by decide +kernel
theorem dX6_rings_7 : decode cX6_rings 7 = .ok (.ifCond .ne 13, 3) := by decide +kernel
theorem dX6_rings_10 : decode cX6_rings 10 = .ok (.iload_n 1, 1) := by decide +kernel
theorem dX6_rings_11 : decode cX6_rings 11 = .ok (.iconst 2, 1) := by decide +kernel
theorem dX6_rings_12 : decode cX6_rings 12 = .ok (.bipush 12, 2) := by decide +kernel
theorem dX6_rings_14 : decode cX6_rings 14 = .ok (.invokestatic 71, 3) := by decide +kernel
theorem dX6_rings_17 : decode cX6_rings 17 = .ok (.ifCond .ne 5, 3) := by decide +kernel
theorem dX6_rings_20 : decode cX6_rings 20 = .ok (.iconst 0, 1) := by decide +kernel
theorem dX6_rings_21 : decode cX6_rings 21 = .ok (.ireturn, 1) := by decide +kernel
theorem dX6_rings_22 : decode cX6_rings 22 = .ok (.aload_n 0, 1) := by decide +kernel
theorem dX6_rings_23 : decode cX6_rings 23 = .ok (.getfield 10, 3) := by decide +kernel
theorem dX6_rings_26 : decode cX6_rings 26 = .ok (.iload_n 1, 1) := by decide +kernel
theorem dX6_rings_27 : decode cX6_rings 27 = .ok (.invokevirtual 75, 3) := by decide +kernel
theorem dX6_rings_30 : decode cX6_rings 30 = .ok (.iconst 1, 1) := by decide +kernel
theorem dX6_rings_31 : decode cX6_rings 31 = .ok (.ireturn, 1) := by decide +kernel
theorem dX6_ring_0 : decode cX6_ring 0 = .ok (.aload_n 0, 1) := by decide +kernel
theorem dX6_ring_1 : decode cX6_ring 1 = .ok (.getfield 10, 3) := by decide +kernel
theorem dX6_ring_4 : decode cX6_ring 4 = .ok (.getfield 67, 3) := by decide +kernel
theorem dX6_ring_7 : decode cX6_ring 7 = .ok (.ifCond .ne 47, 3) := by decide +kernel
theorem dX6_ring_10 : decode cX6_ring 10 = .ok (.aload_n 0, 1) := by decide +kernel
theorem dX6_ring_11 : decode cX6_ring 11 = .ok (.getfield 10, 3) := by decide +kernel
theorem dX6_ring_14 : decode cX6_ring 14 = .ok (.iload_n 1, 1) := by decide +kernel
theorem dX6_ring_15 : decode cX6_ring 15 = .ok (.invokevirtual 79, 3) := by decide +kernel
theorem dX6_ring_18 : decode cX6_ring 18 = .ok (.ifCond .eq 36, 3) := by decide +kernel
theorem dX6_ring_21 : decode cX6_ring 21 = .ok (.iload_n 2, 1) := by decide +kernel
theorem dX6_ring_22 : decode cX6_ring 22 = .ok (.iconst 0, 1) := by decide +kernel
theorem dX6_ring_23 : decode cX6_ring 23 = .ok (.ldc 83, 2) := by decide +kernel
theorem dX6_ring_25 : decode cX6_ring 25 = .ok (.invokestatic 71, 3) := by decide +kernel
theorem dX6_ring_28 : decode cX6_ring 28 = .ok (.ifCond .eq 26, 3) := by decide +kernel
theorem dX6_ring_31 : decode cX6_ring 31 = .ok (.iload_n 3, 1) := by decide +kernel
theorem dX6_ring_32 : decode cX6_ring 32 = .ok (.iconst 0, 1) := by decide +kernel
theorem dX6_ring_33 : decode cX6_ring 33 = .ok (.sipush 999, 3) := by decide +kernel
theorem dX6_ring_36 : decode cX6_ring 36 = .ok (.invokestatic 71, 3) := by decide +kernel
theorem dX6_ring_39 : decode cX6_ring 39 = .ok (.ifCond .eq 15, 3) := by decide +kernel
theorem dX6_ring_42 : decode cX6_ring 42 = .ok (.iload 4, 2) := by decide +kernel
theorem dX6_ring_44 : decode cX6_ring 44 = .ok (.iconst 1, 1) := by decide +kernel
theorem dX6_ring_45 : decode cX6_ring 45 = .ok (.sipush 9999, 3) := by decide +kernel
theorem dX6_ring_48 : decode cX6_ring 48 = .ok (.invokestatic 71, 3) := by decide +kernel
theorem dX6_ring_51 : decode cX6_ring 51 = .ok (.ifCond .ne 5, 3) := by decide +kernel
theorem dX6_ring_54 : decode cX6_ring 54 = .ok (.iconst 0, 1) := by decide +kernel
theorem dX6_ring_55 : decode cX6_ring 55 = .ok (.ireturn, 1) := by decide +kernel
theorem dX6_ring_56 : decode cX6_ring 56 = .ok (.aload_n 0, 1) := by decide +kernel
theorem dX6_ring_57 : decode cX6_ring 57 = .ok (.getfield 10, 3) := by decide +kernel
theorem dX6_ring_60 : decode cX6_ring 60 = .ok (.getfield 84, 3) := by decide +kernel
theorem dX6_ring_63 : decode cX6_ring 63 = .ok (.iload_n 1, 1) := by decide +kernel
theorem dX6_ring_64 : decode cX6_ring 64 = .ok (.iload_n 2, 1) := by decide +kernel
theorem dX6_ring_65 : decode cX6_ring 65 = .ok (.iastore, 1) := by decide +kernel
theorem dX6_ring_66 : decode cX6_ring 66 = .ok (.aload_n 0, 1) := by decide +kernel
theorem dX6_ring_67 : decode cX6_ring 67 = .ok (.getfield 10, 3) := by decide +kernel
theorem dX6_ring_70 : decode cX6_ring 70 = .ok (.getfield 87, 3) := by decide +kernel
theorem dX6_ring_73 : decode cX6_ring 73 = .ok (.iload_n 1, 1) := by decide +kernel
theorem dX6_ring_74 : decode cX6_ring 74 = .ok (.iload_n 3, 1) := by decide +kernel
theorem dX6_ring_75 : decode cX6_ring 75 = .ok (.iastore, 1) := by decide +kernel
theorem dX6_ring_76 : decode cX6_ring 76 = .ok (.aload_n 0, 1) := by decide +kernel
theorem dX6_ring_77 : decode cX6_ring 77 = .ok (.getfield 10, 3) := by decide +kernel
theorem dX6_ring_80 : decode cX6_ring 80 = .ok (.getfield 90, 3) := by decide +kernel
theorem dX6_ring_83 : decode cX6_ring 83 = .ok (.iload_n 1, 1) := by decide +kernel
theorem dX6_ring_84 : decode cX6_ring 84 = .ok (.iload 4, 2) := by decide +kernel
theorem dX6_ring_86 : decode cX6_ring 86 = .ok (.iastore, 1) := by decide +kernel
theorem dX6_ring_87 : decode cX6_ring 87 = .ok (.iconst 1, 1) := by decide +kernel
theorem dX6_ring_88 : decode cX6_ring 88 = .ok (.ireturn, 1) := by decide +kernel
theorem dX6_dust_0 : decode cX6_dust 0 = .ok (.aload_n 0, 1) := by decide +kernel
theorem dX6_dust_1 : decode cX6_dust 1 = .ok (.getfield 10, 3) := by decide +kernel
theorem dX6_dust_4 : decode cX6_dust 4 = .ok (.getfield 67, 3) := by decide +kernel
theorem dX6_dust_7 : decode cX6_dust 7 = .ok (.ifCond .ne 33, 3) := by decide +kernel
theorem dX6_dust_10 : decode cX6_dust 10 = .ok (.aload_n 0, 1) := by decide +kernel
theorem dX6_dust_11 : decode cX6_dust 11 = .ok (.getfield 10, 3) := by decide +kernel
theorem dX6_dust_14 : decode cX6_dust 14 = .ok (.iload_n 1, 1) := by decide +kernel
theorem dX6_dust_15 : decode cX6_dust 15 = .ok (.invokevirtual 79, 3) := by decide +kernel
theorem dX6_dust_18 : decode cX6_dust 18 = .ok (.ifCond .eq 22, 3) := by decide +kernel
theorem dX6_dust_21 : decode cX6_dust 21 = .ok (.iload_n 2, 1) := by decide +kernel
theorem dX6_dust_22 : decode cX6_dust 22 = .ok (.iconst 0, 1) := by decide +kernel
theorem dX6_dust_23 : decode cX6_dust 23 = .ok (.iconst 4, 1) := by decide +kernel
theorem dX6_dust_24 : decode cX6_dust 24 = .ok (.invokestatic 71, 3) := by decide +kernel
theorem dX6_dust_27 : decode cX6_dust 27 = .ok (.ifCond .eq 13, 3) := by decide +kernel
