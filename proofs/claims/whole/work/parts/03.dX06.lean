theorem dX0_init_0 : decode cX0_init 0 = .ok (.aload_n 0, 1) := by decide +kernel
theorem dX0_init_1 : decode cX0_init 1 = .ok (.invokespecial 3, 3) := by decide +kernel
theorem dX0_init_4 : decode cX0_init 4 = .ok (.aload_n 0, 1) := by decide +kernel
theorem dX0_init_5 : decode cX0_init 5 = .ok (.bipush 48, 2) := by decide +kernel
theorem dX0_init_7 : decode cX0_init 7 = .ok (.newarray .int, 2) := by decide +kernel
theorem dX0_init_9 : decode cX0_init 9 = .ok (.putfield 9, 3) := by decide +kernel
theorem dX0_init_12 : decode cX0_init 12 = .ok (.return_, 1) := by decide +kernel
theorem dX0_begin_0 : decode cX0_begin 0 = .ok (.iconst 0, 1) := by decide +kernel
theorem dX0_begin_1 : decode cX0_begin 1 = .ok (.istore_n 2, 1) := by decide +kernel
theorem dX0_begin_2 : decode cX0_begin 2 = .ok (.iload_n 2, 1) := by decide +kernel
theorem dX0_begin_3 : decode cX0_begin 3 = .ok (.bipush 48, 2) := by decide +kernel
theorem dX0_begin_5 : decode cX0_begin 5 = .ok (.if_icmp .ge 16, 3) := by decide +kernel
theorem dX0_begin_8 : decode cX0_begin 8 = .ok (.aload_n 0, 1) := by decide +kernel
theorem dX0_begin_9 : decode cX0_begin 9 = .ok (.getfield 9, 3) := by decide +kernel
theorem dX0_begin_12 : decode cX0_begin 12 = .ok (.iload_n 2, 1) := by decide +kernel
theorem dX0_begin_13 : decode cX0_begin 13 = .ok (.iconst (-1), 1) := by decide +kernel
theorem dX0_begin_14 : decode cX0_begin 14 = .ok (.iastore, 1) := by decide +kernel
theorem dX0_begin_15 : decode cX0_begin 15 = .ok (.iinc 2 1, 3) := by decide +kernel
theorem dX0_begin_18 : decode cX0_begin 18 = .ok (.goto (-16), 3) := by decide +kernel
theorem dX0_begin_21 : decode cX0_begin 21 = .ok (.aload_n 0, 1) := by decide +kernel
theorem dX0_begin_22 : decode cX0_begin 22 = .ok (.iload_n 1, 1) := by decide +kernel
theorem dX0_begin_23 : decode cX0_begin 23 = .ok (.putfield 15, 3) := by decide +kernel
theorem dX0_begin_26 : decode cX0_begin 26 = .ok (.aload_n 0, 1) := by decide +kernel
theorem dX0_begin_27 : decode cX0_begin 27 = .ok (.iload_n 1, 1) := by decide +kernel
theorem dX0_begin_28 : decode cX0_begin 28 = .ok (.putfield 19, 3) := by decide +kernel
theorem dX0_begin_31 : decode cX0_begin 31 = .ok (.aload_n 0, 1) := by decide +kernel
theorem dX0_begin_32 : decode cX0_begin 32 = .ok (.iconst 0, 1) := by decide +kernel
theorem dX0_begin_33 : decode cX0_begin 33 = .ok (.putfield 22, 3) := by decide +kernel
theorem dX0_begin_36 : decode cX0_begin 36 = .ok (.return_, 1) := by decide +kernel
theorem dX0_get_0 : decode cX0_get 0 = .ok (.iload_n 1, 1) := by decide +kernel
theorem dX0_get_1 : decode cX0_get 1 = .ok (.ifCond .lt 18, 3) := by decide +kernel
theorem dX0_get_4 : decode cX0_get 4 = .ok (.iload_n 1, 1) := by decide +kernel
theorem dX0_get_5 : decode cX0_get 5 = .ok (.bipush 48, 2) := by decide +kernel
theorem dX0_get_7 : decode cX0_get 7 = .ok (.if_icmp .ge 12, 3) := by decide +kernel
theorem dX0_get_10 : decode cX0_get 10 = .ok (.aload_n 0, 1) := by decide +kernel
theorem dX0_get_11 : decode cX0_get 11 = .ok (.getfield 9, 3) := by decide +kernel
theorem dX0_get_14 : decode cX0_get 14 = .ok (.iload_n 1, 1) := by decide +kernel
theorem dX0_get_15 : decode cX0_get 15 = .ok (.iaload, 1) := by decide +kernel
theorem dX0_get_16 : decode cX0_get 16 = .ok (.goto 4, 3) := by decide +kernel
theorem dX0_get_19 : decode cX0_get 19 = .ok (.iconst (-1), 1) := by decide +kernel
theorem dX0_get_20 : decode cX0_get 20 = .ok (.ireturn, 1) := by decide +kernel
theorem dX0_clean_0 : decode cX0_clean 0 = .ok (.iload_n 1, 1) := by decide +kernel
theorem dX0_clean_1 : decode cX0_clean 1 = .ok (.istore_n 2, 1) := by decide +kernel
theorem dX0_clean_2 : decode cX0_clean 2 = .ok (.iconst 0, 1) := by decide +kernel
theorem dX0_clean_3 : decode cX0_clean 3 = .ok (.istore_n 3, 1) := by decide +kernel
theorem dX0_clean_4 : decode cX0_clean 4 = .ok (.iload_n 3, 1) := by decide +kernel
theorem dX0_clean_5 : decode cX0_clean 5 = .ok (.bipush 48, 2) := by decide +kernel
theorem dX0_clean_7 : decode cX0_clean 7 = .ok (.if_icmp .ge 61, 3) := by decide +kernel
theorem dX0_clean_10 : decode cX0_clean 10 = .ok (.iload_n 2, 1) := by decide +kernel
theorem dX0_clean_11 : decode cX0_clean 11 = .ok (.ifCond .le 57, 3) := by decide +kernel
theorem dX0_clean_14 : decode cX0_clean 14 = .ok (.aload_n 0, 1) := by decide +kernel
theorem dX0_clean_15 : decode cX0_clean 15 = .ok (.getfield 22, 3) := by decide +kernel
theorem dX0_clean_18 : decode cX0_clean 18 = .ok (.ifCond .le 50, 3) := by decide +kernel
theorem dX0_clean_21 : decode cX0_clean 21 = .ok (.aload_n 0, 1) := by decide +kernel
theorem dX0_clean_22 : decode cX0_clean 22 = .ok (.getfield 9, 3) := by decide +kernel
theorem dX0_clean_25 : decode cX0_clean 25 = .ok (.iload_n 3, 1) := by decide +kernel
theorem dX0_clean_26 : decode cX0_clean 26 = .ok (.iaload, 1) := by decide +kernel
theorem dX0_clean_27 : decode cX0_clean 27 = .ok (.bipush (-2), 2) := by decide +kernel
theorem dX0_clean_29 : decode cX0_clean 29 = .ok (.if_icmp .ne 33, 3) := by decide +kernel
theorem dX0_clean_32 : decode cX0_clean 32 = .ok (.aload_n 0, 1) := by decide +kernel
theorem dX0_clean_33 : decode cX0_clean 33 = .ok (.getfield 9, 3) := by decide +kernel
theorem dX0_clean_36 : decode cX0_clean 36 = .ok (.iload_n 3, 1) := by decide +kernel
theorem dX0_clean_37 : decode cX0_clean 37 = .ok (.iconst (-1), 1) := by decide +kernel
theorem dX0_clean_38 : decode cX0_clean 38 = .ok (.iastore, 1) := by decide +kernel
theorem dX0_clean_39 : decode cX0_clean 39 = .ok (.aload_n 0, 1) := by decide +kernel
theorem dX0_clean_40 : decode cX0_clean 40 = .ok (.dup, 1) := by decide +kernel
theorem dX0_clean_41 : decode cX0_clean 41 = .ok (.getfield 22, 3) := by decide +kernel
theorem dX0_clean_44 : decode cX0_clean 44 = .ok (.iconst 1, 1) := by decide +kernel
theorem dX0_clean_45 : decode cX0_clean 45 = .ok (.isub, 1) := by decide +kernel
theorem dX0_clean_46 : decode cX0_clean 46 = .ok (.putfield 22, 3) := by decide +kernel
theorem dX0_clean_49 : decode cX0_clean 49 = .ok (.aload_n 0, 1) := by decide +kernel
theorem dX0_clean_50 : decode cX0_clean 50 = .ok (.dup, 1) := by decide +kernel
theorem dX0_clean_51 : decode cX0_clean 51 = .ok (.getfield 19, 3) := by decide +kernel
theorem dX0_clean_54 : decode cX0_clean 54 = .ok (.iconst 1, 1) := by decide +kernel
theorem dX0_clean_55 : decode cX0_clean 55 = .ok (.iadd, 1) := by decide +kernel
theorem dX0_clean_56 : decode cX0_clean 56 = .ok (.putfield 19, 3) := by decide +kernel
theorem dX0_clean_59 : decode cX0_clean 59 = .ok (.iinc 2 (-1), 3) := by decide +kernel
theorem dX0_clean_62 : decode cX0_clean 62 = .ok (.iinc 3 1, 3) := by decide +kernel
theorem dX0_clean_65 : decode cX0_clean 65 = .ok (.goto (-61), 3) := by decide +kernel
theorem dX0_clean_68 : decode cX0_clean 68 = .ok (.return_, 1) := by decide +kernel
theorem dX0_take_0 : decode cX0_take 0 = .ok (.iconst (-1), 1) := by decide +kernel
theorem dX0_take_1 : decode cX0_take 1 = .ok (.istore_n 3, 1) := by decide +kernel
theorem dX0_take_2 : decode cX0_take 2 = .ok (.iload_n 2, 1) := by decide +kernel
theorem dX0_take_3 : decode cX0_take 3 = .ok (.istore 4, 2) := by decide +kernel
theorem dX0_take_5 : decode cX0_take 5 = .ok (.iconst 0, 1) := by decide +kernel
theorem dX0_take_6 : decode cX0_take 6 = .ok (.istore 5, 2) := by decide +kernel
theorem dX0_take_8 : decode cX0_take 8 = .ok (.iload 5, 2) := by decide +kernel
theorem dX0_take_10 : decode cX0_take 10 = .ok (.bipush 48, 2) := by decide +kernel
theorem dX0_take_12 : decode cX0_take 12 = .ok (.if_icmp .ge 67, 3) := by decide +kernel
theorem dX0_take_15 : decode cX0_take 15 = .ok (.iload 5, 2) := by decide +kernel
theorem dX0_take_17 : decode cX0_take 17 = .ok (.aload_n 0, 1) := by decide +kernel
theorem dX0_take_18 : decode cX0_take 18 = .ok (.getfield 15, 3) := by decide +kernel
theorem dX0_take_21 : decode cX0_take 21 = .ok (.if_icmp .ge 58, 3) := by decide +kernel
theorem dX0_take_24 : decode cX0_take 24 = .ok (.iload 4, 2) := by decide +kernel
theorem dX0_take_26 : decode cX0_take 26 = .ok (.ifCond .le 53, 3) := by decide +kernel
theorem dX0_take_29 : decode cX0_take 29 = .ok (.aload_n 0, 1) := by decide +kernel
theorem dX0_take_30 : decode cX0_take 30 = .ok (.getfield 9, 3) := by decide +kernel
theorem dX0_take_33 : decode cX0_take 33 = .ok (.iload 5, 2) := by decide +kernel
theorem dX0_take_35 : decode cX0_take 35 = .ok (.iaload, 1) := by decide +kernel
theorem dX0_take_36 : decode cX0_take 36 = .ok (.iconst (-1), 1) := by decide +kernel
theorem dX0_take_37 : decode cX0_take 37 = .ok (.if_icmp .ne 36, 3) := by decide +kernel
theorem dX0_take_40 : decode cX0_take 40 = .ok (.aload_n 0, 1) := by decide +kernel
theorem dX0_take_41 : decode cX0_take 41 = .ok (.getfield 9, 3) := by decide +kernel
theorem dX0_take_44 : decode cX0_take 44 = .ok (.iload 5, 2) := by decide +kernel
theorem dX0_take_46 : decode cX0_take 46 = .ok (.iload_n 1, 1) := by decide +kernel
theorem dX0_take_47 : decode cX0_take 47 = .ok (.iastore, 1) := by decide +kernel
theorem dX0_take_48 : decode cX0_take 48 = .ok (.aload_n 0, 1) := by decide +kernel
theorem dX0_take_49 : decode cX0_take 49 = .ok (.dup, 1) := by decide +kernel
theorem dX0_take_50 : decode cX0_take 50 = .ok (.getfield 19, 3) := by decide +kernel
theorem dX0_take_53 : decode cX0_take 53 = .ok (.iconst 1, 1) := by decide +kernel
theorem dX0_take_54 : decode cX0_take 54 = .ok (.isub, 1) := by decide +kernel
theorem dX0_take_55 : decode cX0_take 55 = .ok (.putfield 19, 3) := by decide +kernel
theorem dX0_take_58 : decode cX0_take 58 = .ok (.iinc 4 (-1), 3) := by decide +kernel
theorem dX0_take_61 : decode cX0_take 61 = .ok (.iload_n 3, 1) := by decide +kernel
theorem dX0_take_62 : decode cX0_take 62 = .ok (.iconst (-1), 1) := by decide +kernel
theorem dX0_take_63 : decode cX0_take 63 = .ok (.if_icmp .ne 8, 3) := by decide +kernel
theorem dX0_take_66 : decode cX0_take 66 = .ok (.iload 5, 2) := by decide +kernel
theorem dX0_take_68 : decode cX0_take 68 = .ok (.goto 4, 3) := by decide +kernel
theorem dX0_take_71 : decode cX0_take 71 = .ok (.iload_n 3, 1) := by decide +kernel
theorem dX0_take_72 : decode cX0_take 72 = .ok (.istore_n 3, 1) := by decide +kernel
theorem dX0_take_73 : decode cX0_take 73 = .ok (.iinc 5 1, 3) := by decide +kernel
theorem dX0_take_76 : decode cX0_take 76 = .ok (.goto (-68), 3) := by decide +kernel
theorem dX0_take_79 : decode cX0_take 79 = .ok (.iload_n 3, 1) := by decide +kernel
theorem dX0_take_80 : decode cX0_take 80 = .ok (.ireturn, 1) := by decide +kernel
theorem dX0_soil_0 : decode cX0_soil 0 = .ok (.iconst 0, 1) := by decide +kernel
theorem dX0_soil_1 : decode cX0_soil 1 = .ok (.istore_n 2, 1) := by decide +kernel
theorem dX0_soil_2 : decode cX0_soil 2 = .ok (.iconst 0, 1) := by decide +kernel
theorem dX0_soil_3 : decode cX0_soil 3 = .ok (.istore_n 3, 1) := by decide +kernel
theorem dX0_soil_4 : decode cX0_soil 4 = .ok (.iload_n 3, 1) := by decide +kernel
theorem dX0_soil_5 : decode cX0_soil 5 = .ok (.bipush 48, 2) := by decide +kernel
theorem dX0_soil_7 : decode cX0_soil 7 = .ok (.if_icmp .ge 38, 3) := by decide +kernel
theorem dX0_soil_10 : decode cX0_soil 10 = .ok (.iload_n 3, 1) := by decide +kernel
theorem dX0_soil_11 : decode cX0_soil 11 = .ok (.aload_n 0, 1) := by decide +kernel
theorem dX0_soil_12 : decode cX0_soil 12 = .ok (.getfield 15, 3) := by decide +kernel
theorem dX0_soil_15 : decode cX0_soil 15 = .ok (.if_icmp .ge 30, 3) := by decide +kernel
theorem dX0_soil_18 : decode cX0_soil 18 = .ok (.aload_n 0, 1) := by decide +kernel
theorem dX0_soil_19 : decode cX0_soil 19 = .ok (.getfield 9, 3) := by decide +kernel
theorem dX0_soil_22 : decode cX0_soil 22 = .ok (.iload_n 3, 1) := by decide +kernel
theorem dX0_soil_23 : decode cX0_soil 23 = .ok (.iaload, 1) := by decide +kernel
theorem dX0_soil_24 : decode cX0_soil 24 = .ok (.iload_n 1, 1) := by decide +kernel
theorem dX0_soil_25 : decode cX0_soil 25 = .ok (.if_icmp .ne 14, 3) := by decide +kernel
theorem dX0_soil_28 : decode cX0_soil 28 = .ok (.aload_n 0, 1) := by decide +kernel
theorem dX0_soil_29 : decode cX0_soil 29 = .ok (.getfield 9, 3) := by decide +kernel
theorem dX0_soil_32 : decode cX0_soil 32 = .ok (.iload_n 3, 1) := by decide +kernel
theorem dX0_soil_33 : decode cX0_soil 33 = .ok (.bipush (-2), 2) := by decide +kernel
theorem dX0_soil_35 : decode cX0_soil 35 = .ok (.iastore, 1) := by decide +kernel
theorem dX0_soil_36 : decode cX0_soil 36 = .ok (.iinc 2 1, 3) := by decide +kernel
theorem dX0_soil_39 : decode cX0_soil 39 = .ok (.iinc 3 1, 3) := by decide +kernel
theorem dX0_soil_42 : decode cX0_soil 42 = .ok (.goto (-38), 3) := by decide +kernel
theorem dX0_soil_45 : decode cX0_soil 45 = .ok (.aload_n 0, 1) := by decide +kernel
theorem dX0_soil_46 : decode cX0_soil 46 = .ok (.aload_n 0, 1) := by decide +kernel
theorem dX0_soil_47 : decode cX0_soil 47 = .ok (.getfield 22, 3) := by decide +kernel
theorem dX0_soil_50 : decode cX0_soil 50 = .ok (.iload_n 2, 1) := by decide +kernel
theorem dX0_soil_51 : decode cX0_soil 51 = .ok (.iadd, 1) := by decide +kernel
theorem dX0_soil_52 : decode cX0_soil 52 = .ok (.putfield 22, 3) := by decide +kernel
theorem dX0_soil_55 : decode cX0_soil 55 = .ok (.iload_n 2, 1) := by decide +kernel
theorem dX0_soil_56 : decode cX0_soil 56 = .ok (.ireturn, 1) := by decide +kernel
theorem dX0_copyFrom_0 : decode cX0_copyFrom 0 = .ok (.aload_n 1, 1) := by decide +kernel
theorem dX0_copyFrom_1 : decode cX0_copyFrom 1 = .ok (.getfield 9, 3) := by decide +kernel
theorem dX0_copyFrom_4 : decode cX0_copyFrom 4 = .ok (.iconst 0, 1) := by decide +kernel
theorem dX0_copyFrom_5 : decode cX0_copyFrom 5 = .ok (.aload_n 0, 1) := by decide +kernel
theorem dX0_copyFrom_6 : decode cX0_copyFrom 6 = .ok (.getfield 9, 3) := by decide +kernel
theorem dX0_copyFrom_9 : decode cX0_copyFrom 9 = .ok (.iconst 0, 1) := by decide +kernel
theorem dX0_copyFrom_10 : decode cX0_copyFrom 10 = .ok (.bipush 48, 2) := by decide +kernel
theorem dX0_copyFrom_12 : decode cX0_copyFrom 12 = .ok (.invokestatic 25, 3) := by decide +kernel
theorem dX0_copyFrom_15 : decode cX0_copyFrom 15 = .ok (.aload_n 0, 1) := by decide +kernel
theorem dX0_copyFrom_16 : decode cX0_copyFrom 16 = .ok (.aload_n 1, 1) := by decide +kernel
theorem dX0_copyFrom_17 : decode cX0_copyFrom 17 = .ok (.getfield 15, 3) := by decide +kernel
theorem dX0_copyFrom_20 : decode cX0_copyFrom 20 = .ok (.putfield 15, 3) := by decide +kernel
theorem dX0_copyFrom_23 : decode cX0_copyFrom 23 = .ok (.aload_n 0, 1) := by decide +kernel
theorem dX0_copyFrom_24 : decode cX0_copyFrom 24 = .ok (.aload_n 1, 1) := by decide +kernel
theorem dX0_copyFrom_25 : decode cX0_copyFrom 25 = .ok (.getfield 19, 3) := by decide +kernel
theorem dX0_copyFrom_28 : decode cX0_copyFrom 28 = .ok (.putfield 19, 3) := by decide +kernel
theorem dX0_copyFrom_31 : decode cX0_copyFrom 31 = .ok (.aload_n 0, 1) := by decide +kernel
theorem dX0_copyFrom_32 : decode cX0_copyFrom 32 = .ok (.aload_n 1, 1) := by decide +kernel
theorem dX0_copyFrom_33 : decode cX0_copyFrom 33 = .ok (.getfield 22, 3) := by decide +kernel
theorem dX0_copyFrom_36 : decode cX0_copyFrom 36 = .ok (.putfield 22, 3) := by decide +kernel
theorem dX0_copyFrom_39 : decode cX0_copyFrom 39 = .ok (.return_, 1) := by decide +kernel
theorem dX1_init_0 : decode cX1_init 0 = .ok (.aload_n 0, 1) := by decide +kernel
theorem dX1_init_1 : decode cX1_init 1 = .ok (.invokespecial 3, 3) := by decide +kernel
theorem dX1_init_4 : decode cX1_init 4 = .ok (.aload_n 0, 1) := by decide +kernel
theorem dX1_init_5 : decode cX1_init 5 = .ok (.aload_n 1, 1) := by decide +kernel
theorem dX1_init_6 : decode cX1_init 6 = .ok (.putfield 9, 3) := by decide +kernel
theorem dX1_init_9 : decode cX1_init 9 = .ok (.return_, 1) := by decide +kernel
theorem dX1_has_0 : decode cX1_has 0 = .ok (.iload_n 1, 1) := by decide +kernel
theorem dX1_has_1 : decode cX1_has 1 = .ok (.ifCond .lt 15, 3) := by decide +kernel
theorem dX1_has_4 : decode cX1_has 4 = .ok (.iload_n 1, 1) := by decide +kernel
theorem dX1_has_5 : decode cX1_has 5 = .ok (.aload_n 0, 1) := by decide +kernel
theorem dX1_has_6 : decode cX1_has 6 = .ok (.getfield 15, 3) := by decide +kernel
theorem dX1_has_9 : decode cX1_has 9 = .ok (.if_icmp .ge 7, 3) := by decide +kernel
theorem dX1_has_12 : decode cX1_has 12 = .ok (.iconst 1, 1) := by decide +kernel
theorem dX1_has_13 : decode cX1_has 13 = .ok (.goto 4, 3) := by decide +kernel
theorem dX1_has_16 : decode cX1_has 16 = .ok (.iconst 0, 1) := by decide +kernel
theorem dX1_has_17 : decode cX1_has 17 = .ok (.ireturn, 1) := by decide +kernel
theorem dX1_get_0 : decode cX1_get 0 = .ok (.iload_n 1, 1) := by decide +kernel
theorem dX1_get_1 : decode cX1_get 1 = .ok (.bipush 7, 2) := by decide +kernel
theorem dX1_get_3 : decode cX1_get 3 = .ok (.imul, 1) := by decide +kernel
theorem dX1_get_4 : decode cX1_get 4 = .ok (.iload_n 2, 1) := by decide +kernel
theorem dX1_get_5 : decode cX1_get 5 = .ok (.iadd, 1) := by decide +kernel
theorem dX1_get_6 : decode cX1_get 6 = .ok (.istore_n 3, 1) := by decide +kernel
theorem dX1_get_7 : decode cX1_get 7 = .ok (.iload_n 1, 1) := by decide +kernel
theorem dX1_get_8 : decode cX1_get 8 = .ok (.ifCond .lt 33, 3) := by decide +kernel
theorem dX1_get_11 : decode cX1_get 11 = .ok (.iload_n 1, 1) := by decide +kernel
theorem dX1_get_12 : decode cX1_get 12 = .ok (.aload_n 0, 1) := by decide +kernel
theorem dX1_get_13 : decode cX1_get 13 = .ok (.getfield 15, 3) := by decide +kernel
theorem dX1_get_16 : decode cX1_get 16 = .ok (.if_icmp .ge 25, 3) := by decide +kernel
theorem dX1_get_19 : decode cX1_get 19 = .ok (.iload_n 3, 1) := by decide +kernel
theorem dX1_get_20 : decode cX1_get 20 = .ok (.ifCond .lt 21, 3) := by decide +kernel
theorem dX1_get_23 : decode cX1_get 23 = .ok (.iload_n 3, 1) := by decide +kernel
theorem dX1_get_24 : decode cX1_get 24 = .ok (.aload_n 0, 1) := by decide +kernel
theorem dX1_get_25 : decode cX1_get 25 = .ok (.getfield 9, 3) := by decide +kernel
theorem dX1_get_28 : decode cX1_get 28 = .ok (.arraylength, 1) := by decide +kernel
theorem dX1_get_29 : decode cX1_get 29 = .ok (.if_icmp .ge 12, 3) := by decide +kernel
theorem dX1_get_32 : decode cX1_get 32 = .ok (.aload_n 0, 1) := by decide +kernel
theorem dX1_get_33 : decode cX1_get 33 = .ok (.getfield 9, 3) := by decide +kernel
theorem dX1_get_36 : decode cX1_get 36 = .ok (.iload_n 3, 1) := by decide +kernel
theorem dX1_get_37 : decode cX1_get 37 = .ok (.iaload, 1) := by decide +kernel
theorem dX1_get_38 : decode cX1_get 38 = .ok (.goto 4, 3) := by decide +kernel
theorem dX1_get_41 : decode cX1_get 41 = .ok (.iconst (-1), 1) := by decide +kernel
theorem dX1_get_42 : decode cX1_get 42 = .ok (.ireturn, 1) := by decide +kernel
theorem dX1_put_0 : decode cX1_put 0 = .ok (.iload_n 1, 1) := by decide +kernel
theorem dX1_put_1 : decode cX1_put 1 = .ok (.bipush 7, 2) := by decide +kernel
theorem dX1_put_3 : decode cX1_put 3 = .ok (.imul, 1) := by decide +kernel
theorem dX1_put_4 : decode cX1_put 4 = .ok (.iload_n 2, 1) := by decide +kernel
theorem dX1_put_5 : decode cX1_put 5 = .ok (.iadd, 1) := by decide +kernel
theorem dX1_put_6 : decode cX1_put 6 = .ok (.istore 4, 2) := by decide +kernel
theorem dX1_put_8 : decode cX1_put 8 = .ok (.iload_n 1, 1) := by decide +kernel
theorem dX1_put_9 : decode cX1_put 9 = .ok (.ifCond .lt 34, 3) := by decide +kernel
theorem dX1_put_12 : decode cX1_put 12 = .ok (.iload_n 1, 1) := by decide +kernel
theorem dX1_put_13 : decode cX1_put 13 = .ok (.aload_n 0, 1) := by decide +kernel
theorem dX1_put_14 : decode cX1_put 14 = .ok (.getfield 15, 3) := by decide +kernel
theorem dX1_put_17 : decode cX1_put 17 = .ok (.if_icmp .ge 26, 3) := by decide +kernel
theorem dX1_put_20 : decode cX1_put 20 = .ok (.iload 4, 2) := by decide +kernel
theorem dX1_put_22 : decode cX1_put 22 = .ok (.ifCond .lt 21, 3) := by decide +kernel
theorem dX1_put_25 : decode cX1_put 25 = .ok (.iload 4, 2) := by decide +kernel
theorem dX1_put_27 : decode cX1_put 27 = .ok (.aload_n 0, 1) := by decide +kernel
theorem dX1_put_28 : decode cX1_put 28 = .ok (.getfield 9, 3) := by decide +kernel
theorem dX1_put_31 : decode cX1_put 31 = .ok (.arraylength, 1) := by decide +kernel
theorem dX1_put_32 : decode cX1_put 32 = .ok (.if_icmp .ge 11, 3) := by decide +kernel
theorem dX1_put_35 : decode cX1_put 35 = .ok (.aload_n 0, 1) := by decide +kernel
theorem dX1_put_36 : decode cX1_put 36 = .ok (.getfield 9, 3) := by decide +kernel
theorem dX1_put_39 : decode cX1_put 39 = .ok (.iload 4, 2) := by decide +kernel
theorem dX1_put_41 : decode cX1_put 41 = .ok (.iload_n 3, 1) := by decide +kernel
theorem dX1_put_42 : decode cX1_put 42 = .ok (.iastore, 1) := by decide +kernel
theorem dX1_put_43 : decode cX1_put 43 = .ok (.return_, 1) := by decide +kernel
set_option maxRecDepth 20000 in
theorem ggX1_add_X1_put : GoodIn wsX1_add wsX1_put := goodIn_r _ [6, 1, 7, 8, 9] (by decide +kernel) (by decide +kernel)
set_option maxRecDepth 20000 in
theorem gX1_add_X1_put : GoodIn wsX1_add (wsV RX1 19 RX1 yX1_put wsX1_put) := goodIn_app (goodIn_of _ (by decide +kernel)) ggX1_add_X1_put
theorem dX1_add_0 : decode cX1_add 0 = .ok (.aload_n 0, 1) := by decide +kernel
theorem dX1_add_1 : decode cX1_add 1 = .ok (.getfield 15, 3) := by decide +kernel
theorem dX1_add_4 : decode cX1_add 4 = .ok (.istore 5, 2) := by decide +kernel
theorem dX1_add_6 : decode cX1_add 6 = .ok (.aload_n 0, 1) := by decide +kernel
theorem dX1_add_7 : decode cX1_add 7 = .ok (.dup, 1) := by decide +kernel
theorem dX1_add_8 : decode cX1_add 8 = .ok (.getfield 15, 3) := by decide +kernel
theorem dX1_add_11 : decode cX1_add 11 = .ok (.iconst 1, 1) := by decide +kernel
theorem dX1_add_12 : decode cX1_add 12 = .ok (.iadd, 1) := by decide +kernel
theorem dX1_add_13 : decode cX1_add 13 = .ok (.putfield 15, 3) := by decide +kernel
theorem dX1_add_16 : decode cX1_add 16 = .ok (.aload_n 0, 1) := by decide +kernel
theorem dX1_add_17 : decode cX1_add 17 = .ok (.iload 5, 2) := by decide +kernel
theorem dX1_add_19 : decode cX1_add 19 = .ok (.iconst 0, 1) := by decide +kernel
theorem dX1_add_20 : decode cX1_add 20 = .ok (.iload_n 1, 1) := by decide +kernel
theorem dX1_add_21 : decode cX1_add 21 = .ok (.invokevirtual 19, 3) := by decide +kernel
theorem dX1_add_24 : decode cX1_add 24 = .ok (.aload_n 0, 1) := by decide +kernel
theorem dX1_add_25 : decode cX1_add 25 = .ok (.iload 5, 2) := by decide +kernel
theorem dX1_add_27 : decode cX1_add 27 = .ok (.iconst 1, 1) := by decide +kernel
theorem dX1_add_28 : decode cX1_add 28 = .ok (.iload_n 2, 1) := by decide +kernel
theorem dX1_add_29 : decode cX1_add 29 = .ok (.invokevirtual 19, 3) := by decide +kernel
theorem dX1_add_32 : decode cX1_add 32 = .ok (.aload_n 0, 1) := by decide +kernel
theorem dX1_add_33 : decode cX1_add 33 = .ok (.iload 5, 2) := by decide +kernel
theorem dX1_add_35 : decode cX1_add 35 = .ok (.iconst 2, 1) := by decide +kernel
theorem dX1_add_36 : decode cX1_add 36 = .ok (.iload_n 3, 1) := by decide +kernel
theorem dX1_add_37 : decode cX1_add 37 = .ok (.invokevirtual 19, 3) := by decide +kernel
theorem dX1_add_40 : decode cX1_add 40 = .ok (.aload_n 0, 1) := by decide +kernel
theorem dX1_add_41 : decode cX1_add 41 = .ok (.iload 5, 2) := by decide +kernel
theorem dX1_add_43 : decode cX1_add 43 = .ok (.iconst 3, 1) := by decide +kernel
theorem dX1_add_44 : decode cX1_add 44 = .ok (.iload 4, 2) := by decide +kernel
theorem dX1_add_46 : decode cX1_add 46 = .ok (.invokevirtual 19, 3) := by decide +kernel
theorem dX1_add_49 : decode cX1_add 49 = .ok (.return_, 1) := by decide +kernel
set_option maxRecDepth 20000 in
theorem ggX1_remove_X1_has : GoodIn wsX1_remove wsX1_has := goodIn_r _ [11, 1, 12, 13] (by decide +kernel) (by decide +kernel)
set_option maxRecDepth 20000 in
theorem gX1_remove_X1_has : GoodIn wsX1_remove (wsV RX1 23 RX1 yX1_has wsX1_has) := goodIn_app (goodIn_of _ (by decide +kernel)) ggX1_remove_X1_has
theorem dX1_remove_0 : decode cX1_remove 0 = .ok (.iload_n 1, 1) := by decide +kernel
theorem dX1_remove_1 : decode cX1_remove 1 = .ok (.iconst 1, 1) := by decide +kernel
theorem dX1_remove_2 : decode cX1_remove 2 = .ok (.iadd, 1) := by decide +kernel
theorem dX1_remove_3 : decode cX1_remove 3 = .ok (.bipush 7, 2) := by decide +kernel
theorem dX1_remove_5 : decode cX1_remove 5 = .ok (.imul, 1) := by decide +kernel
theorem dX1_remove_6 : decode cX1_remove 6 = .ok (.istore_n 2, 1) := by decide +kernel
theorem dX1_remove_7 : decode cX1_remove 7 = .ok (.aload_n 0, 1) := by decide +kernel
theorem dX1_remove_8 : decode cX1_remove 8 = .ok (.getfield 15, 3) := by decide +kernel
theorem dX1_remove_11 : decode cX1_remove 11 = .ok (.bipush 7, 2) := by decide +kernel
theorem dX1_remove_13 : decode cX1_remove 13 = .ok (.imul, 1) := by decide +kernel
theorem dX1_remove_14 : decode cX1_remove 14 = .ok (.istore_n 3, 1) := by decide +kernel
theorem dX1_remove_15 : decode cX1_remove 15 = .ok (.aload_n 0, 1) := by decide +kernel
theorem dX1_remove_16 : decode cX1_remove 16 = .ok (.iload_n 1, 1) := by decide +kernel
theorem dX1_remove_17 : decode cX1_remove 17 = .ok (.invokevirtual 23, 3) := by decide +kernel
theorem dX1_remove_20 : decode cX1_remove 20 = .ok (.ifCond .eq 41, 3) := by decide +kernel
theorem dX1_remove_23 : decode cX1_remove 23 = .ok (.iload_n 3, 1) := by decide +kernel
theorem dX1_remove_24 : decode cX1_remove 24 = .ok (.aload_n 0, 1) := by decide +kernel
theorem dX1_remove_25 : decode cX1_remove 25 = .ok (.getfield 9, 3) := by decide +kernel
theorem dX1_remove_28 : decode cX1_remove 28 = .ok (.arraylength, 1) := by decide +kernel
theorem dX1_remove_29 : decode cX1_remove 29 = .ok (.if_icmp .gt 32, 3) := by decide +kernel
theorem dX1_remove_32 : decode cX1_remove 32 = .ok (.aload_n 0, 1) := by decide +kernel
theorem dX1_remove_33 : decode cX1_remove 33 = .ok (.getfield 9, 3) := by decide +kernel
theorem dX1_remove_36 : decode cX1_remove 36 = .ok (.iload_n 2, 1) := by decide +kernel
theorem dX1_remove_37 : decode cX1_remove 37 = .ok (.aload_n 0, 1) := by decide +kernel
theorem dX1_remove_38 : decode cX1_remove 38 = .ok (.getfield 9, 3) := by decide +kernel
theorem dX1_remove_41 : decode cX1_remove 41 = .ok (.iload_n 2, 1) := by decide +kernel
theorem dX1_remove_42 : decode cX1_remove 42 = .ok (.bipush 7, 2) := by decide +kernel
theorem dX1_remove_44 : decode cX1_remove 44 = .ok (.isub, 1) := by decide +kernel
theorem dX1_remove_45 : decode cX1_remove 45 = .ok (.iload_n 3, 1) := by decide +kernel
theorem dX1_remove_46 : decode cX1_remove 46 = .ok (.iload_n 2, 1) := by decide +kernel
theorem dX1_remove_47 : decode cX1_remove 47 = .ok (.isub, 1) := by decide +kernel
theorem dX1_remove_48 : decode cX1_remove 48 = .ok (.invokestatic 27, 3) := by decide +kernel
theorem dX1_remove_51 : decode cX1_remove 51 = .ok (.aload_n 0, 1) := by decide +kernel
theorem dX1_remove_52 : decode cX1_remove 52 = .ok (.dup, 1) := by decide +kernel
theorem dX1_remove_53 : decode cX1_remove 53 = .ok (.getfield 15, 3) := by decide +kernel
theorem dX1_remove_56 : decode cX1_remove 56 = .ok (.iconst 1, 1) := by decide +kernel
theorem dX1_remove_57 : decode cX1_remove 57 = .ok (.isub, 1) := by decide +kernel
theorem dX1_remove_58 : decode cX1_remove 58 = .ok (.putfield 15, 3) := by decide +kernel
theorem dX1_remove_61 : decode cX1_remove 61 = .ok (.return_, 1) := by decide +kernel
set_option maxRecDepth 20000 in
theorem ggX1_measureChange_X1_put : GoodIn wsX1_measureChange wsX1_put := goodIn_r _ [5, 6, 7, 19, 20] (by decide +kernel) (by decide +kernel)
set_option maxRecDepth 20000 in
theorem gX1_measureChange_X1_put : GoodIn wsX1_measureChange (wsV RX1 19 RX1 yX1_put wsX1_put) := goodIn_app (goodIn_of _ (by decide +kernel)) ggX1_measureChange_X1_put
set_option maxRecDepth 20000 in
theorem ggX1_measureChange_X1_has : GoodIn wsX1_measureChange wsX1_has := goodIn_r _ [11, 6, 19, 20] (by decide +kernel) (by decide +kernel)
set_option maxRecDepth 20000 in
theorem gX1_measureChange_X1_has : GoodIn wsX1_measureChange (wsV RX1 23 RX1 yX1_has wsX1_has) := goodIn_app (goodIn_of _ (by decide +kernel)) ggX1_measureChange_X1_has
set_option maxRecDepth 20000 in
theorem ggX1_measureChange_X1_get : GoodIn wsX1_measureChange wsX1_get := goodIn_r _ [15, 6, 7, 19, 20] (by decide +kernel) (by decide +kernel)
set_option maxRecDepth 20000 in
theorem gX1_measureChange_X1_get : GoodIn wsX1_measureChange (wsV RX1 33 RX1 yX1_get wsX1_get) := goodIn_app (goodIn_of _ (by decide +kernel)) ggX1_measureChange_X1_get
set_option maxRecDepth 20000 in
theorem ggX1_measureChange_X7_difference : GoodIn wsX1_measureChange wsX7_difference := goodIn_r _ [18] (by decide +kernel) (by decide +kernel)
set_option maxRecDepth 20000 in
theorem gX1_measureChange_X7_difference_n37 : GoodIn wsX1_measureChange (wsX7_difference) := ggX1_measureChange_X7_difference
theorem dX1_measureChange_0 : decode cX1_measureChange 0 = .ok (.iload_n 1, 1) := by decide +kernel
theorem dX1_measureChange_1 : decode cX1_measureChange 1 = .ok (.ifCond .ne 13, 3) := by decide +kernel
theorem dX1_measureChange_4 : decode cX1_measureChange 4 = .ok (.aload_n 0, 1) := by decide +kernel
theorem dX1_measureChange_5 : decode cX1_measureChange 5 = .ok (.iload_n 1, 1) := by decide +kernel
theorem dX1_measureChange_6 : decode cX1_measureChange 6 = .ok (.iconst 4, 1) := by decide +kernel
theorem dX1_measureChange_7 : decode cX1_measureChange 7 = .ok (.iconst (-1), 1) := by decide +kernel
theorem dX1_measureChange_8 : decode cX1_measureChange 8 = .ok (.invokevirtual 19, 3) := by decide +kernel
theorem dX1_measureChange_11 : decode cX1_measureChange 11 = .ok (.goto 34, 3) := by decide +kernel
theorem dX1_measureChange_14 : decode cX1_measureChange 14 = .ok (.aload_n 0, 1) := by decide +kernel
theorem dX1_measureChange_15 : decode cX1_measureChange 15 = .ok (.iload_n 1, 1) := by decide +kernel
theorem dX1_measureChange_16 : decode cX1_measureChange 16 = .ok (.invokevirtual 23, 3) := by decide +kernel
theorem dX1_measureChange_19 : decode cX1_measureChange 19 = .ok (.ifCond .eq 26, 3) := by decide +kernel
theorem dX1_measureChange_22 : decode cX1_measureChange 22 = .ok (.aload_n 0, 1) := by decide +kernel
theorem dX1_measureChange_23 : decode cX1_measureChange 23 = .ok (.iload_n 1, 1) := by decide +kernel
theorem dX1_measureChange_24 : decode cX1_measureChange 24 = .ok (.iconst 4, 1) := by decide +kernel
theorem dX1_measureChange_25 : decode cX1_measureChange 25 = .ok (.aload_n 0, 1) := by decide +kernel
theorem dX1_measureChange_26 : decode cX1_measureChange 26 = .ok (.iload_n 1, 1) := by decide +kernel
theorem dX1_measureChange_27 : decode cX1_measureChange 27 = .ok (.iconst 1, 1) := by decide +kernel
theorem dX1_measureChange_28 : decode cX1_measureChange 28 = .ok (.isub, 1) := by decide +kernel
theorem dX1_measureChange_29 : decode cX1_measureChange 29 = .ok (.iconst 1, 1) := by decide +kernel
theorem dX1_measureChange_30 : decode cX1_measureChange 30 = .ok (.invokevirtual 33, 3) := by decide +kernel
theorem dX1_measureChange_33 : decode cX1_measureChange 33 = .ok (.aload_n 0, 1) := by decide +kernel
theorem dX1_measureChange_34 : decode cX1_measureChange 34 = .ok (.iload_n 1, 1) := by decide +kernel
theorem dX1_measureChange_35 : decode cX1_measureChange 35 = .ok (.iconst 1, 1) := by decide +kernel
theorem dX1_measureChange_36 : decode cX1_measureChange 36 = .ok (.invokevirtual 33, 3) := by decide +kernel
theorem dX1_measureChange_39 : decode cX1_measureChange 39 = .ok (.invokestatic 37, 3) := by decide +kernel
theorem dX1_measureChange_42 : decode cX1_measureChange 42 = .ok (.invokevirtual 19, 3) := by decide +kernel
theorem dX1_measureChange_45 : decode cX1_measureChange 45 = .ok (.return_, 1) := by decide +kernel
theorem dX1_copyFrom_0 : decode cX1_copyFrom 0 = .ok (.aload_n 1, 1) := by decide +kernel
theorem dX1_copyFrom_1 : decode cX1_copyFrom 1 = .ok (.getfield 15, 3) := by decide +kernel
theorem dX1_copyFrom_4 : decode cX1_copyFrom 4 = .ok (.bipush 7, 2) := by decide +kernel
theorem dX1_copyFrom_6 : decode cX1_copyFrom 6 = .ok (.imul, 1) := by decide +kernel
theorem dX1_copyFrom_7 : decode cX1_copyFrom 7 = .ok (.istore_n 2, 1) := by decide +kernel
theorem dX1_copyFrom_8 : decode cX1_copyFrom 8 = .ok (.iload_n 2, 1) := by decide +kernel
theorem dX1_copyFrom_9 : decode cX1_copyFrom 9 = .ok (.ifCond .lt 43, 3) := by decide +kernel
theorem dX1_copyFrom_12 : decode cX1_copyFrom 12 = .ok (.iload_n 2, 1) := by decide +kernel
theorem dX1_copyFrom_13 : decode cX1_copyFrom 13 = .ok (.aload_n 0, 1) := by decide +kernel
theorem dX1_copyFrom_14 : decode cX1_copyFrom 14 = .ok (.getfield 9, 3) := by decide +kernel
theorem dX1_copyFrom_17 : decode cX1_copyFrom 17 = .ok (.arraylength, 1) := by decide +kernel
theorem dX1_copyFrom_18 : decode cX1_copyFrom 18 = .ok (.if_icmp .gt 34, 3) := by decide +kernel
theorem dX1_copyFrom_21 : decode cX1_copyFrom 21 = .ok (.iload_n 2, 1) := by decide +kernel
theorem dX1_copyFrom_22 : decode cX1_copyFrom 22 = .ok (.aload_n 1, 1) := by decide +kernel
theorem dX1_copyFrom_23 : decode cX1_copyFrom 23 = .ok (.getfield 9, 3) := by decide +kernel
theorem dX1_copyFrom_26 : decode cX1_copyFrom 26 = .ok (.arraylength, 1) := by decide +kernel
theorem dX1_copyFrom_27 : decode cX1_copyFrom 27 = .ok (.if_icmp .gt 25, 3) := by decide +kernel
theorem dX1_copyFrom_30 : decode cX1_copyFrom 30 = .ok (.aload_n 1, 1) := by decide +kernel
theorem dX1_copyFrom_31 : decode cX1_copyFrom 31 = .ok (.getfield 9, 3) := by decide +kernel
theorem dX1_copyFrom_34 : decode cX1_copyFrom 34 = .ok (.iconst 0, 1) := by decide +kernel
theorem dX1_copyFrom_35 : decode cX1_copyFrom 35 = .ok (.aload_n 0, 1) := by decide +kernel
theorem dX1_copyFrom_36 : decode cX1_copyFrom 36 = .ok (.getfield 9, 3) := by decide +kernel
theorem dX1_copyFrom_39 : decode cX1_copyFrom 39 = .ok (.iconst 0, 1) := by decide +kernel
theorem dX1_copyFrom_40 : decode cX1_copyFrom 40 = .ok (.iload_n 2, 1) := by decide +kernel
theorem dX1_copyFrom_41 : decode cX1_copyFrom 41 = .ok (.invokestatic 27, 3) := by decide +kernel
theorem dX1_copyFrom_44 : decode cX1_copyFrom 44 = .ok (.aload_n 0, 1) := by decide +kernel
theorem dX1_copyFrom_45 : decode cX1_copyFrom 45 = .ok (.aload_n 1, 1) := by decide +kernel
theorem dX1_copyFrom_46 : decode cX1_copyFrom 46 = .ok (.getfield 15, 3) := by decide +kernel
theorem dX1_copyFrom_49 : decode cX1_copyFrom 49 = .ok (.putfield 15, 3) := by decide +kernel
theorem dX1_copyFrom_52 : decode cX1_copyFrom 52 = .ok (.return_, 1) := by decide +kernel
set_option maxRecDepth 20000 in
theorem ggX2_init_X5_init : GoodIn wsX2_init wsX5_init := goodIn_r _ [10, 11, 2, 3, 12, 13, 14, 15, 16, 17, 18, 19, 20, 21, 22, 23, 24, 25, 26, 27, 28, 29, 30, 31, 32, 33, 34, 35, 36, 37, 38, 39, 40, 41, 42, 7, 43, 44, 45, 46, 47, 48, 49, 50, 51, 52, 53, 54, 55, 56, 57, 58, 59, 60, 61, 62, 63, 64, 65, 66, 67, 68, 69, 70, 71, 72, 73, 74, 78, 79, 80, 81, 82, 83, 84, 85, 86, 87, 88, 89, 90, 91, 92, 93, 94, 95, 96, 97, 98, 99, 100, 101] (by decide +kernel) (by decide +kernel)
set_option maxRecDepth 20000 in
theorem gX2_init_X5_init : GoodIn wsX2_init (wsX5_init) := ggX2_init_X5_init
theorem dX2_init_0 : decode cX2_init 0 = .ok (.aload_n 0, 1) := by decide +kernel
theorem dX2_init_1 : decode cX2_init 1 = .ok (.invokespecial 3, 3) := by decide +kernel
theorem dX2_init_4 : decode cX2_init 4 = .ok (.aload_n 0, 1) := by decide +kernel
theorem dX2_init_5 : decode cX2_init 5 = .ok (.bipush 14, 2) := by decide +kernel
theorem dX2_init_7 : decode cX2_init 7 = .ok (.anewarray 9, 3) := by decide +kernel
theorem dX2_init_10 : decode cX2_init 10 = .ok (.putfield 11, 3) := by decide +kernel
theorem dX2_init_13 : decode cX2_init 13 = .ok (.iconst 0, 1) := by decide +kernel
theorem dX2_init_14 : decode cX2_init 14 = .ok (.istore_n 1, 1) := by decide +kernel
theorem dX2_init_15 : decode cX2_init 15 = .ok (.iload_n 1, 1) := by decide +kernel
theorem dX2_init_16 : decode cX2_init 16 = .ok (.bipush 14, 2) := by decide +kernel
theorem dX2_init_18 : decode cX2_init 18 = .ok (.if_icmp .ge 22, 3) := by decide +kernel
theorem dX2_init_21 : decode cX2_init 21 = .ok (.aload_n 0, 1) := by decide +kernel
theorem dX2_init_22 : decode cX2_init 22 = .ok (.getfield 11, 3) := by decide +kernel
theorem dX2_init_25 : decode cX2_init 25 = .ok (.iload_n 1, 1) := by decide +kernel
theorem dX2_init_26 : decode cX2_init 26 = .ok (.new 9, 3) := by decide +kernel
theorem dX2_init_29 : decode cX2_init 29 = .ok (.dup, 1) := by decide +kernel
theorem dX2_init_30 : decode cX2_init 30 = .ok (.invokespecial 17, 3) := by decide +kernel
theorem dX2_init_33 : decode cX2_init 33 = .ok (.aastore, 1) := by decide +kernel
theorem dX2_init_34 : decode cX2_init 34 = .ok (.iinc 1 1, 3) := by decide +kernel
theorem dX2_init_37 : decode cX2_init 37 = .ok (.goto (-22), 3) := by decide +kernel
theorem dX2_init_40 : decode cX2_init 40 = .ok (.return_, 1) := by decide +kernel
theorem dX2_place_0 : decode cX2_place 0 = .ok (.aload_n 0, 1) := by decide +kernel
theorem dX2_place_1 : decode cX2_place 1 = .ok (.getfield 18, 3) := by decide +kernel
theorem dX2_place_4 : decode cX2_place 4 = .ok (.iload_n 1, 1) := by decide +kernel
theorem dX2_place_5 : decode cX2_place 5 = .ok (.iadd, 1) := by decide +kernel
theorem dX2_place_6 : decode cX2_place 6 = .ok (.bipush 14, 2) := by decide +kernel
theorem dX2_place_8 : decode cX2_place 8 = .ok (.irem, 1) := by decide +kernel
theorem dX2_place_9 : decode cX2_place 9 = .ok (.istore_n 2, 1) := by decide +kernel
theorem dX2_place_10 : decode cX2_place 10 = .ok (.iload_n 2, 1) := by decide +kernel
theorem dX2_place_11 : decode cX2_place 11 = .ok (.ifCond .lt 18, 3) := by decide +kernel
theorem dX2_place_14 : decode cX2_place 14 = .ok (.iload_n 2, 1) := by decide +kernel
theorem dX2_place_15 : decode cX2_place 15 = .ok (.bipush 14, 2) := by decide +kernel
theorem dX2_place_17 : decode cX2_place 17 = .ok (.if_icmp .ge 12, 3) := by decide +kernel
theorem dX2_place_20 : decode cX2_place 20 = .ok (.aload_n 0, 1) := by decide +kernel
theorem dX2_place_21 : decode cX2_place 21 = .ok (.getfield 11, 3) := by decide +kernel
theorem dX2_place_24 : decode cX2_place 24 = .ok (.iload_n 2, 1) := by decide +kernel
theorem dX2_place_25 : decode cX2_place 25 = .ok (.aaload, 1) := by decide +kernel
theorem dX2_place_26 : decode cX2_place 26 = .ok (.goto 4, 3) := by decide +kernel
theorem dX2_place_29 : decode cX2_place 29 = .ok (.aconst_null, 1) := by decide +kernel
theorem dX2_place_30 : decode cX2_place 30 = .ok (.areturn, 1) := by decide +kernel
set_option maxRecDepth 20000 in
theorem ggX2_remember_X2_place : GoodIn wsX2_remember wsX2_place := goodIn_r _ [7, 2, 8, 60, 61, 62] (by decide +kernel) (by decide +kernel)
set_option maxRecDepth 20000 in
theorem gX2_remember_X2_place : GoodIn wsX2_remember (wsV RX2 25 RX2 yX2_place wsX2_place) := goodIn_app (goodIn_of _ (by decide +kernel)) ggX2_remember_X2_place
set_option maxRecDepth 20000 in
theorem ggX2_remember_X5_copyFrom : GoodIn wsX2_remember wsX5_copyFrom := goodIn_r _ [13, 14, 15, 16, 17, 18, 19, 20, 21, 22, 23, 24, 25, 26, 27, 28, 29, 30, 31, 32, 33, 34, 35, 36, 37, 38, 39, 40, 41, 42, 43, 44, 45, 46, 47, 48, 49, 50, 51, 52, 53, 54, 55, 56, 57, 58, 59, 63, 64, 65, 66, 67, 68, 69, 70, 71, 72, 73, 74, 75, 76, 77, 78, 79, 80, 81, 82, 83, 84, 85, 86] (by decide +kernel) (by decide +kernel)
set_option maxRecDepth 20000 in
theorem gX2_remember_X5_copyFrom : GoodIn wsX2_remember (wsV RX2 29 RX5 yX5_copyFrom wsX5_copyFrom) := goodIn_app (goodIn_of _ (by decide +kernel)) ggX2_remember_X5_copyFrom
theorem dX2_remember_0 : decode cX2_remember 0 = .ok (.aload_n 0, 1) := by decide +kernel
theorem dX2_remember_1 : decode cX2_remember 1 = .ok (.aload_n 0, 1) := by decide +kernel
theorem dX2_remember_2 : decode cX2_remember 2 = .ok (.getfield 22, 3) := by decide +kernel
theorem dX2_remember_5 : decode cX2_remember 5 = .ok (.invokevirtual 25, 3) := by decide +kernel
theorem dX2_remember_8 : decode cX2_remember 8 = .ok (.astore_n 2, 1) := by decide +kernel
theorem dX2_remember_9 : decode cX2_remember 9 = .ok (.aload_n 2, 1) := by decide +kernel
theorem dX2_remember_10 : decode cX2_remember 10 = .ok (.ifnull 8, 3) := by decide +kernel
theorem dX2_remember_13 : decode cX2_remember 13 = .ok (.aload_n 2, 1) := by decide +kernel
theorem dX2_remember_14 : decode cX2_remember 14 = .ok (.aload_n 1, 1) := by decide +kernel
theorem dX2_remember_15 : decode cX2_remember 15 = .ok (.invokevirtual 29, 3) := by decide +kernel
theorem dX2_remember_18 : decode cX2_remember 18 = .ok (.aload_n 0, 1) := by decide +kernel
theorem dX2_remember_19 : decode cX2_remember 19 = .ok (.getfield 22, 3) := by decide +kernel
theorem dX2_remember_22 : decode cX2_remember 22 = .ok (.bipush 14, 2) := by decide +kernel
theorem dX2_remember_24 : decode cX2_remember 24 = .ok (.if_icmp .ge 16, 3) := by decide +kernel
theorem dX2_remember_27 : decode cX2_remember 27 = .ok (.aload_n 0, 1) := by decide +kernel
theorem dX2_remember_28 : decode cX2_remember 28 = .ok (.dup, 1) := by decide +kernel
theorem dX2_remember_29 : decode cX2_remember 29 = .ok (.getfield 22, 3) := by decide +kernel
theorem dX2_remember_32 : decode cX2_remember 32 = .ok (.iconst 1, 1) := by decide +kernel
theorem dX2_remember_33 : decode cX2_remember 33 = .ok (.iadd, 1) := by decide +kernel
theorem dX2_remember_34 : decode cX2_remember 34 = .ok (.putfield 22, 3) := by decide +kernel
theorem dX2_remember_37 : decode cX2_remember 37 = .ok (.goto 16, 3) := by decide +kernel
theorem dX2_remember_40 : decode cX2_remember 40 = .ok (.aload_n 0, 1) := by decide +kernel
theorem dX2_remember_41 : decode cX2_remember 41 = .ok (.aload_n 0, 1) := by decide +kernel
theorem dX2_remember_42 : decode cX2_remember 42 = .ok (.getfield 18, 3) := by decide +kernel
theorem dX2_remember_45 : decode cX2_remember 45 = .ok (.iconst 1, 1) := by decide +kernel
theorem dX2_remember_46 : decode cX2_remember 46 = .ok (.iadd, 1) := by decide +kernel
theorem dX2_remember_47 : decode cX2_remember 47 = .ok (.bipush 14, 2) := by decide +kernel
theorem dX2_remember_49 : decode cX2_remember 49 = .ok (.irem, 1) := by decide +kernel
theorem dX2_remember_50 : decode cX2_remember 50 = .ok (.putfield 18, 3) := by decide +kernel
theorem dX2_remember_53 : decode cX2_remember 53 = .ok (.return_, 1) := by decide +kernel
set_option maxRecDepth 20000 in
theorem ggX2_takeBack_X2_place : GoodIn wsX2_takeBack wsX2_place := goodIn_r _ [6, 7, 8, 60, 61, 62] (by decide +kernel) (by decide +kernel)
set_option maxRecDepth 20000 in
theorem gX2_takeBack_X2_place : GoodIn wsX2_takeBack (wsV RX2 25 RX2 yX2_place wsX2_place) := goodIn_app (goodIn_of _ (by decide +kernel)) ggX2_takeBack_X2_place
set_option maxRecDepth 20000 in
theorem ggX2_takeBack_X5_copyFrom : GoodIn wsX2_takeBack wsX5_copyFrom := goodIn_r _ [13, 14, 15, 16, 17, 18, 19, 20, 21, 22, 23, 24, 25, 26, 27, 28, 29, 30, 31, 32, 33, 34, 35, 36, 37, 38, 39, 40, 41, 42, 43, 44, 45, 46, 47, 48, 49, 50, 51, 52, 53, 54, 55, 56, 57, 58, 59, 63, 64, 65, 66, 67, 68, 69, 70, 71, 72, 73, 74, 75, 76, 77, 78, 79, 80, 81, 82, 83, 84, 85, 86] (by decide +kernel) (by decide +kernel)
set_option maxRecDepth 20000 in
theorem gX2_takeBack_X5_copyFrom : GoodIn wsX2_takeBack (wsV RX2 29 RX5 yX5_copyFrom wsX5_copyFrom) := goodIn_app (goodIn_of _ (by decide +kernel)) ggX2_takeBack_X5_copyFrom
theorem dX2_takeBack_0 : decode cX2_takeBack 0 = .ok (.aload_n 0, 1) := by decide +kernel
theorem dX2_takeBack_1 : decode cX2_takeBack 1 = .ok (.aload_n 0, 1) := by decide +kernel
theorem dX2_takeBack_2 : decode cX2_takeBack 2 = .ok (.getfield 22, 3) := by decide +kernel
theorem dX2_takeBack_5 : decode cX2_takeBack 5 = .ok (.iconst 1, 1) := by decide +kernel
theorem dX2_takeBack_6 : decode cX2_takeBack 6 = .ok (.isub, 1) := by decide +kernel
theorem dX2_takeBack_7 : decode cX2_takeBack 7 = .ok (.invokevirtual 25, 3) := by decide +kernel
theorem dX2_takeBack_10 : decode cX2_takeBack 10 = .ok (.astore_n 2, 1) := by decide +kernel
theorem dX2_takeBack_11 : decode cX2_takeBack 11 = .ok (.aload_n 2, 1) := by decide +kernel
theorem dX2_takeBack_12 : decode cX2_takeBack 12 = .ok (.ifnull 18, 3) := by decide +kernel
theorem dX2_takeBack_15 : decode cX2_takeBack 15 = .ok (.aload_n 1, 1) := by decide +kernel
theorem dX2_takeBack_16 : decode cX2_takeBack 16 = .ok (.aload_n 2, 1) := by decide +kernel
theorem dX2_takeBack_17 : decode cX2_takeBack 17 = .ok (.invokevirtual 29, 3) := by decide +kernel
theorem dX2_takeBack_20 : decode cX2_takeBack 20 = .ok (.aload_n 0, 1) := by decide +kernel
theorem dX2_takeBack_21 : decode cX2_takeBack 21 = .ok (.dup, 1) := by decide +kernel
theorem dX2_takeBack_22 : decode cX2_takeBack 22 = .ok (.getfield 22, 3) := by decide +kernel
theorem dX2_takeBack_25 : decode cX2_takeBack 25 = .ok (.iconst 1, 1) := by decide +kernel
theorem dX2_takeBack_26 : decode cX2_takeBack 26 = .ok (.isub, 1) := by decide +kernel
theorem dX2_takeBack_27 : decode cX2_takeBack 27 = .ok (.putfield 22, 3) := by decide +kernel
theorem dX2_takeBack_30 : decode cX2_takeBack 30 = .ok (.return_, 1) := by decide +kernel
theorem dX2_forget_0 : decode cX2_forget 0 = .ok (.aload_n 0, 1) := by decide +kernel
theorem dX2_forget_1 : decode cX2_forget 1 = .ok (.iconst 0, 1) := by decide +kernel
theorem dX2_forget_2 : decode cX2_forget 2 = .ok (.putfield 18, 3) := by decide +kernel
theorem dX2_forget_5 : decode cX2_forget 5 = .ok (.aload_n 0, 1) := by decide +kernel
theorem dX2_forget_6 : decode cX2_forget 6 = .ok (.iconst 0, 1) := by decide +kernel
theorem dX2_forget_7 : decode cX2_forget 7 = .ok (.putfield 22, 3) := by decide +kernel
theorem dX2_forget_10 : decode cX2_forget 10 = .ok (.return_, 1) := by decide +kernel
theorem dX3_init_0 : decode cX3_init 0 = .ok (.aload_n 0, 1) := by decide +kernel
theorem dX3_init_1 : decode cX3_init 1 = .ok (.invokespecial 3, 3) := by decide +kernel
theorem dX3_init_4 : decode cX3_init 4 = .ok (.aload_n 0, 1) := by decide +kernel
theorem dX3_init_5 : decode cX3_init 5 = .ok (.bipush 30, 2) := by decide +kernel
theorem dX3_init_7 : decode cX3_init 7 = .ok (.newarray .int, 2) := by decide +kernel
theorem dX3_init_9 : decode cX3_init 9 = .ok (.putfield 9, 3) := by decide +kernel
theorem dX3_init_12 : decode cX3_init 12 = .ok (.return_, 1) := by decide +kernel
set_option maxRecDepth 20000 in
theorem ggX3_begin_X3_beginRound : GoodIn wsX3_begin wsX3_beginRound := goodIn_r _ [7, 8, 9, 10, 11, 12, 13, 14, 15, 16, 17, 18] (by decide +kernel) (by decide +kernel)
set_option maxRecDepth 20000 in
theorem gX3_begin_X3_beginRound : GoodIn wsX3_begin (wsV RX3 15 RX3 yX3_beginRound wsX3_beginRound) := goodIn_app (goodIn_of _ (by decide +kernel)) ggX3_begin_X3_beginRound
theorem dX3_begin_0 : decode cX3_begin 0 = .ok (.aload_n 0, 1) := by decide +kernel
theorem dX3_begin_1 : decode cX3_begin 1 = .ok (.invokevirtual 15, 3) := by decide +kernel
theorem dX3_begin_4 : decode cX3_begin 4 = .ok (.aload_n 0, 1) := by decide +kernel
theorem dX3_begin_5 : decode cX3_begin 5 = .ok (.iconst 0, 1) := by decide +kernel
theorem dX3_begin_6 : decode cX3_begin 6 = .ok (.putfield 18, 3) := by decide +kernel
theorem dX3_begin_9 : decode cX3_begin 9 = .ok (.aload_n 0, 1) := by decide +kernel
theorem dX3_begin_10 : decode cX3_begin 10 = .ok (.iconst 0, 1) := by decide +kernel
theorem dX3_begin_11 : decode cX3_begin 11 = .ok (.putfield 22, 3) := by decide +kernel
theorem dX3_begin_14 : decode cX3_begin 14 = .ok (.return_, 1) := by decide +kernel
theorem dX3_beginRound_0 : decode cX3_beginRound 0 = .ok (.aload_n 0, 1) := by decide +kernel
theorem dX3_beginRound_1 : decode cX3_beginRound 1 = .ok (.iconst 0, 1) := by decide +kernel
theorem dX3_beginRound_2 : decode cX3_beginRound 2 = .ok (.putfield 25, 3) := by decide +kernel
theorem dX3_beginRound_5 : decode cX3_beginRound 5 = .ok (.aload_n 0, 1) := by decide +kernel
theorem dX3_beginRound_6 : decode cX3_beginRound 6 = .ok (.iconst 0, 1) := by decide +kernel
theorem dX3_beginRound_7 : decode cX3_beginRound 7 = .ok (.putfield 28, 3) := by decide +kernel
theorem dX3_beginRound_10 : decode cX3_beginRound 10 = .ok (.aload_n 0, 1) := by decide +kernel
theorem dX3_beginRound_11 : decode cX3_beginRound 11 = .ok (.iconst 0, 1) := by decide +kernel
theorem dX3_beginRound_12 : decode cX3_beginRound 12 = .ok (.putfield 31, 3) := by decide +kernel
theorem dX3_beginRound_15 : decode cX3_beginRound 15 = .ok (.aload_n 0, 1) := by decide +kernel
theorem dX3_beginRound_16 : decode cX3_beginRound 16 = .ok (.iconst 0, 1) := by decide +kernel
theorem dX3_beginRound_17 : decode cX3_beginRound 17 = .ok (.putfield 34, 3) := by decide +kernel
theorem dX3_beginRound_20 : decode cX3_beginRound 20 = .ok (.return_, 1) := by decide +kernel
set_option maxRecDepth 20000 in
theorem ggX3_end_X3_reason : GoodIn wsX3_end wsX3_reason := goodIn_r _ [7, 8, 9, 21, 22, 23, 24, 25, 26, 27] (by decide +kernel) (by decide +kernel)
set_option maxRecDepth 20000 in
theorem gX3_end_X3_reason : GoodIn wsX3_end (wsV RX3 37 RX3 yX3_reason wsX3_reason) := goodIn_app (goodIn_of _ (by decide +kernel)) ggX3_end_X3_reason
set_option maxRecDepth 20000 in
theorem ggX3_end_X3_tell : GoodIn wsX3_end wsX3_tell := goodIn_r _ [13, 14, 15, 2, 1, 21, 22, 23, 24, 25, 26, 27] (by decide +kernel) (by decide +kernel)
set_option maxRecDepth 20000 in
theorem gX3_end_X3_tell : GoodIn wsX3_end (wsV RX3 41 RX3 yX3_tell wsX3_tell) := goodIn_app (goodIn_of _ (by decide +kernel)) ggX3_end_X3_tell
set_option maxRecDepth 20000 in
theorem ggX3_end_X3_beginRound : GoodIn wsX3_end wsX3_beginRound := goodIn_r _ [19, 20, 8, 9, 1, 21, 22, 23, 24, 25, 26, 27] (by decide +kernel) (by decide +kernel)
set_option maxRecDepth 20000 in
theorem gX3_end_X3_beginRound : GoodIn wsX3_end (wsV RX3 15 RX3 yX3_beginRound wsX3_beginRound) := goodIn_app (goodIn_of _ (by decide +kernel)) ggX3_end_X3_beginRound
theorem dX3_end_0 : decode cX3_end 0 = .ok (.aload_n 0, 1) := by decide +kernel
theorem dX3_end_1 : decode cX3_end 1 = .ok (.getfield 34, 3) := by decide +kernel
theorem dX3_end_4 : decode cX3_end 4 = .ok (.iload_n 1, 1) := by decide +kernel
theorem dX3_end_5 : decode cX3_end 5 = .ok (.if_icmp .ge 13, 3) := by decide +kernel
theorem dX3_end_8 : decode cX3_end 8 = .ok (.aload_n 0, 1) := by decide +kernel
theorem dX3_end_9 : decode cX3_end 9 = .ok (.aload_n 0, 1) := by decide +kernel
theorem dX3_end_10 : decode cX3_end 10 = .ok (.iload_n 1, 1) := by decide +kernel
theorem dX3_end_11 : decode cX3_end 11 = .ok (.iload_n 2, 1) := by decide +kernel
theorem dX3_end_12 : decode cX3_end 12 = .ok (.invokevirtual 37, 3) := by decide +kernel
theorem dX3_end_15 : decode cX3_end 15 = .ok (.invokevirtual 41, 3) := by decide +kernel
theorem dX3_end_18 : decode cX3_end 18 = .ok (.aload_n 0, 1) := by decide +kernel
theorem dX3_end_19 : decode cX3_end 19 = .ok (.dup, 1) := by decide +kernel
theorem dX3_end_20 : decode cX3_end 20 = .ok (.getfield 18, 3) := by decide +kernel
theorem dX3_end_23 : decode cX3_end 23 = .ok (.iconst 1, 1) := by decide +kernel
theorem dX3_end_24 : decode cX3_end 24 = .ok (.iadd, 1) := by decide +kernel
theorem dX3_end_25 : decode cX3_end 25 = .ok (.putfield 18, 3) := by decide +kernel
theorem dX3_end_28 : decode cX3_end 28 = .ok (.aload_n 0, 1) := by decide +kernel
theorem dX3_end_29 : decode cX3_end 29 = .ok (.invokevirtual 15, 3) := by decide +kernel
theorem dX3_end_32 : decode cX3_end 32 = .ok (.return_, 1) := by decide +kernel
theorem dX3_reason_0 : decode cX3_reason 0 = .ok (.aload_n 0, 1) := by decide +kernel
theorem dX3_reason_1 : decode cX3_reason 1 = .ok (.getfield 28, 3) := by decide +kernel
theorem dX3_reason_4 : decode cX3_reason 4 = .ok (.iload_n 1, 1) := by decide +kernel
theorem dX3_reason_5 : decode cX3_reason 5 = .ok (.if_icmp .ge 5, 3) := by decide +kernel
theorem dX3_reason_8 : decode cX3_reason 8 = .ok (.iconst 1, 1) := by decide +kernel
theorem dX3_reason_9 : decode cX3_reason 9 = .ok (.ireturn, 1) := by decide +kernel
theorem dX3_reason_10 : decode cX3_reason 10 = .ok (.aload_n 0, 1) := by decide +kernel
theorem dX3_reason_11 : decode cX3_reason 11 = .ok (.getfield 31, 3) := by decide +kernel
theorem dX3_reason_14 : decode cX3_reason 14 = .ok (.ifCond .le 5, 3) := by decide +kernel
theorem dX3_reason_17 : decode cX3_reason 17 = .ok (.iconst 2, 1) := by decide +kernel
theorem dX3_reason_18 : decode cX3_reason 18 = .ok (.ireturn, 1) := by decide +kernel
theorem dX3_reason_19 : decode cX3_reason 19 = .ok (.iload_n 2, 1) := by decide +kernel
theorem dX3_reason_20 : decode cX3_reason 20 = .ok (.ifCond .eq 7, 3) := by decide +kernel
theorem dX3_reason_23 : decode cX3_reason 23 = .ok (.iconst 3, 1) := by decide +kernel
theorem dX3_reason_24 : decode cX3_reason 24 = .ok (.goto 4, 3) := by decide +kernel
theorem dX3_reason_27 : decode cX3_reason 27 = .ok (.iconst 4, 1) := by decide +kernel
theorem dX3_reason_28 : decode cX3_reason 28 = .ok (.ireturn, 1) := by decide +kernel
theorem dX3_tell_0 : decode cX3_tell 0 = .ok (.aload_n 0, 1) := by decide +kernel
theorem dX3_tell_1 : decode cX3_tell 1 = .ok (.getfield 22, 3) := by decide +kernel
theorem dX3_tell_4 : decode cX3_tell 4 = .ok (.bipush 10, 2) := by decide +kernel
theorem dX3_tell_6 : decode cX3_tell 6 = .ok (.irem, 1) := by decide +kernel
theorem dX3_tell_7 : decode cX3_tell 7 = .ok (.iconst 3, 1) := by decide +kernel
theorem dX3_tell_8 : decode cX3_tell 8 = .ok (.imul, 1) := by decide +kernel
theorem dX3_tell_9 : decode cX3_tell 9 = .ok (.istore_n 2, 1) := by decide +kernel
theorem dX3_tell_10 : decode cX3_tell 10 = .ok (.iload_n 2, 1) := by decide +kernel
theorem dX3_tell_11 : decode cX3_tell 11 = .ok (.ifCond .lt 45, 3) := by decide +kernel
theorem dX3_tell_14 : decode cX3_tell 14 = .ok (.iload_n 2, 1) := by decide +kernel
theorem dX3_tell_15 : decode cX3_tell 15 = .ok (.iconst 2, 1) := by decide +kernel
theorem dX3_tell_16 : decode cX3_tell 16 = .ok (.iadd, 1) := by decide +kernel
theorem dX3_tell_17 : decode cX3_tell 17 = .ok (.aload_n 0, 1) := by decide +kernel
theorem dX3_tell_18 : decode cX3_tell 18 = .ok (.getfield 9, 3) := by decide +kernel
theorem dX3_tell_21 : decode cX3_tell 21 = .ok (.arraylength, 1) := by decide +kernel
theorem dX3_tell_22 : decode cX3_tell 22 = .ok (.if_icmp .ge 34, 3) := by decide +kernel
theorem dX3_tell_25 : decode cX3_tell 25 = .ok (.aload_n 0, 1) := by decide +kernel
theorem dX3_tell_26 : decode cX3_tell 26 = .ok (.getfield 9, 3) := by decide +kernel
theorem dX3_tell_29 : decode cX3_tell 29 = .ok (.iload_n 2, 1) := by decide +kernel
theorem dX3_tell_30 : decode cX3_tell 30 = .ok (.aload_n 0, 1) := by decide +kernel
theorem dX3_tell_31 : decode cX3_tell 31 = .ok (.getfield 18, 3) := by decide +kernel
theorem dX3_tell_34 : decode cX3_tell 34 = .ok (.iastore, 1) := by decide +kernel
theorem dX3_tell_35 : decode cX3_tell 35 = .ok (.aload_n 0, 1) := by decide +kernel
theorem dX3_tell_36 : decode cX3_tell 36 = .ok (.getfield 9, 3) := by decide +kernel
theorem dX3_tell_39 : decode cX3_tell 39 = .ok (.iload_n 2, 1) := by decide +kernel
theorem dX3_tell_40 : decode cX3_tell 40 = .ok (.iconst 1, 1) := by decide +kernel
theorem dX3_tell_41 : decode cX3_tell 41 = .ok (.iadd, 1) := by decide +kernel
theorem dX3_tell_42 : decode cX3_tell 42 = .ok (.iload_n 1, 1) := by decide +kernel
theorem dX3_tell_43 : decode cX3_tell 43 = .ok (.iastore, 1) := by decide +kernel
theorem dX3_tell_44 : decode cX3_tell 44 = .ok (.aload_n 0, 1) := by decide +kernel
theorem dX3_tell_45 : decode cX3_tell 45 = .ok (.getfield 9, 3) := by decide +kernel
theorem dX3_tell_48 : decode cX3_tell 48 = .ok (.iload_n 2, 1) := by decide +kernel
theorem dX3_tell_49 : decode cX3_tell 49 = .ok (.iconst 2, 1) := by decide +kernel
theorem dX3_tell_50 : decode cX3_tell 50 = .ok (.iadd, 1) := by decide +kernel
theorem dX3_tell_51 : decode cX3_tell 51 = .ok (.aload_n 0, 1) := by decide +kernel
theorem dX3_tell_52 : decode cX3_tell 52 = .ok (.getfield 34, 3) := by decide +kernel
theorem dX3_tell_55 : decode cX3_tell 55 = .ok (.iastore, 1) := by decide +kernel
theorem dX3_tell_56 : decode cX3_tell 56 = .ok (.aload_n 0, 1) := by decide +kernel
theorem dX3_tell_57 : decode cX3_tell 57 = .ok (.dup, 1) := by decide +kernel
theorem dX3_tell_58 : decode cX3_tell 58 = .ok (.getfield 22, 3) := by decide +kernel
theorem dX3_tell_61 : decode cX3_tell 61 = .ok (.iconst 1, 1) := by decide +kernel
theorem dX3_tell_62 : decode cX3_tell 62 = .ok (.iadd, 1) := by decide +kernel
theorem dX3_tell_63 : decode cX3_tell 63 = .ok (.putfield 22, 3) := by decide +kernel
theorem dX3_tell_66 : decode cX3_tell 66 = .ok (.return_, 1) := by decide +kernel
theorem dX3_tells_0 : decode cX3_tells 0 = .ok (.iload_n 1, 1) := by decide +kernel
theorem dX3_tells_1 : decode cX3_tells 1 = .ok (.ifCond .lt 21, 3) := by decide +kernel
theorem dX3_tells_4 : decode cX3_tells 4 = .ok (.iload_n 1, 1) := by decide +kernel
theorem dX3_tells_5 : decode cX3_tells 5 = .ok (.bipush 10, 2) := by decide +kernel
theorem dX3_tells_7 : decode cX3_tells 7 = .ok (.if_icmp .ge 15, 3) := by decide +kernel
theorem dX3_tells_10 : decode cX3_tells 10 = .ok (.iload_n 1, 1) := by decide +kernel
theorem dX3_tells_11 : decode cX3_tells 11 = .ok (.aload_n 0, 1) := by decide +kernel
theorem dX3_tells_12 : decode cX3_tells 12 = .ok (.getfield 22, 3) := by decide +kernel
theorem dX3_tells_15 : decode cX3_tells 15 = .ok (.if_icmp .ge 7, 3) := by decide +kernel
theorem dX3_tells_18 : decode cX3_tells 18 = .ok (.iconst 1, 1) := by decide +kernel
theorem dX3_tells_19 : decode cX3_tells 19 = .ok (.goto 4, 3) := by decide +kernel
theorem dX3_tells_22 : decode cX3_tells 22 = .ok (.iconst 0, 1) := by decide +kernel
theorem dX3_tells_23 : decode cX3_tells 23 = .ok (.ireturn, 1) := by decide +kernel
theorem dX3_get_0 : decode cX3_get 0 = .ok (.aload_n 0, 1) := by decide +kernel
theorem dX3_get_1 : decode cX3_get 1 = .ok (.getfield 22, 3) := by decide +kernel
theorem dX3_get_4 : decode cX3_get 4 = .ok (.iconst 1, 1) := by decide +kernel
theorem dX3_get_5 : decode cX3_get 5 = .ok (.isub, 1) := by decide +kernel
theorem dX3_get_6 : decode cX3_get 6 = .ok (.iload_n 1, 1) := by decide +kernel
theorem dX3_get_7 : decode cX3_get 7 = .ok (.isub, 1) := by decide +kernel
theorem dX3_get_8 : decode cX3_get 8 = .ok (.bipush 10, 2) := by decide +kernel
theorem dX3_get_10 : decode cX3_get 10 = .ok (.irem, 1) := by decide +kernel
theorem dX3_get_11 : decode cX3_get 11 = .ok (.iconst 3, 1) := by decide +kernel
theorem dX3_get_12 : decode cX3_get 12 = .ok (.imul, 1) := by decide +kernel
theorem dX3_get_13 : decode cX3_get 13 = .ok (.iload_n 2, 1) := by decide +kernel
theorem dX3_get_14 : decode cX3_get 14 = .ok (.iadd, 1) := by decide +kernel
theorem dX3_get_15 : decode cX3_get 15 = .ok (.istore_n 3, 1) := by decide +kernel
theorem dX3_get_16 : decode cX3_get 16 = .ok (.iload_n 3, 1) := by decide +kernel
theorem dX3_get_17 : decode cX3_get 17 = .ok (.ifCond .lt 21, 3) := by decide +kernel
theorem dX3_get_20 : decode cX3_get 20 = .ok (.iload_n 3, 1) := by decide +kernel
theorem dX3_get_21 : decode cX3_get 21 = .ok (.aload_n 0, 1) := by decide +kernel
theorem dX3_get_22 : decode cX3_get 22 = .ok (.getfield 9, 3) := by decide +kernel
theorem dX3_get_25 : decode cX3_get 25 = .ok (.arraylength, 1) := by decide +kernel
theorem dX3_get_26 : decode cX3_get 26 = .ok (.if_icmp .ge 12, 3) := by decide +kernel
theorem dX3_get_29 : decode cX3_get 29 = .ok (.aload_n 0, 1) := by decide +kernel
theorem dX3_get_30 : decode cX3_get 30 = .ok (.getfield 9, 3) := by decide +kernel
theorem dX3_get_33 : decode cX3_get 33 = .ok (.iload_n 3, 1) := by decide +kernel
theorem dX3_get_34 : decode cX3_get 34 = .ok (.iaload, 1) := by decide +kernel
theorem dX3_get_35 : decode cX3_get 35 = .ok (.goto 4, 3) := by decide +kernel
theorem dX3_get_38 : decode cX3_get 38 = .ok (.iconst (-1), 1) := by decide +kernel
theorem dX3_get_39 : decode cX3_get 39 = .ok (.ireturn, 1) := by decide +kernel
theorem dX3_copyFrom_0 : decode cX3_copyFrom 0 = .ok (.aload_n 1, 1) := by decide +kernel
theorem dX3_copyFrom_1 : decode cX3_copyFrom 1 = .ok (.getfield 9, 3) := by decide +kernel
theorem dX3_copyFrom_4 : decode cX3_copyFrom 4 = .ok (.iconst 0, 1) := by decide +kernel
theorem dX3_copyFrom_5 : decode cX3_copyFrom 5 = .ok (.aload_n 0, 1) := by decide +kernel
theorem dX3_copyFrom_6 : decode cX3_copyFrom 6 = .ok (.getfield 9, 3) := by decide +kernel
theorem dX3_copyFrom_9 : decode cX3_copyFrom 9 = .ok (.iconst 0, 1) := by decide +kernel
theorem dX3_copyFrom_10 : decode cX3_copyFrom 10 = .ok (.bipush 30, 2) := by decide +kernel
theorem dX3_copyFrom_12 : decode cX3_copyFrom 12 = .ok (.invokestatic 45, 3) := by decide +kernel
theorem dX3_copyFrom_15 : decode cX3_copyFrom 15 = .ok (.aload_n 0, 1) := by decide +kernel
theorem dX3_copyFrom_16 : decode cX3_copyFrom 16 = .ok (.aload_n 1, 1) := by decide +kernel
theorem dX3_copyFrom_17 : decode cX3_copyFrom 17 = .ok (.getfield 25, 3) := by decide +kernel
theorem dX3_copyFrom_20 : decode cX3_copyFrom 20 = .ok (.putfield 25, 3) := by decide +kernel
theorem dX3_copyFrom_23 : decode cX3_copyFrom 23 = .ok (.aload_n 0, 1) := by decide +kernel
theorem dX3_copyFrom_24 : decode cX3_copyFrom 24 = .ok (.aload_n 1, 1) := by decide +kernel
theorem dX3_copyFrom_25 : decode cX3_copyFrom 25 = .ok (.getfield 28, 3) := by decide +kernel
theorem dX3_copyFrom_28 : decode cX3_copyFrom 28 = .ok (.putfield 28, 3) := by decide +kernel
theorem dX3_copyFrom_31 : decode cX3_copyFrom 31 = .ok (.aload_n 0, 1) := by decide +kernel
theorem dX3_copyFrom_32 : decode cX3_copyFrom 32 = .ok (.aload_n 1, 1) := by decide +kernel
theorem dX3_copyFrom_33 : decode cX3_copyFrom 33 = .ok (.getfield 31, 3) := by decide +kernel
theorem dX3_copyFrom_36 : decode cX3_copyFrom 36 = .ok (.putfield 31, 3) := by decide +kernel
theorem dX3_copyFrom_39 : decode cX3_copyFrom 39 = .ok (.aload_n 0, 1) := by decide +kernel
theorem dX3_copyFrom_40 : decode cX3_copyFrom 40 = .ok (.aload_n 1, 1) := by decide +kernel
theorem dX3_copyFrom_41 : decode cX3_copyFrom 41 = .ok (.getfield 34, 3) := by decide +kernel
theorem dX3_copyFrom_44 : decode cX3_copyFrom 44 = .ok (.putfield 34, 3) := by decide +kernel
theorem dX3_copyFrom_47 : decode cX3_copyFrom 47 = .ok (.aload_n 0, 1) := by decide +kernel
theorem dX3_copyFrom_48 : decode cX3_copyFrom 48 = .ok (.aload_n 1, 1) := by decide +kernel
theorem dX3_copyFrom_49 : decode cX3_copyFrom 49 = .ok (.getfield 18, 3) := by decide +kernel
theorem dX3_copyFrom_52 : decode cX3_copyFrom 52 = .ok (.putfield 18, 3) := by decide +kernel
theorem dX3_copyFrom_55 : decode cX3_copyFrom 55 = .ok (.aload_n 0, 1) := by decide +kernel
theorem dX3_copyFrom_56 : decode cX3_copyFrom 56 = .ok (.aload_n 1, 1) := by decide +kernel
theorem dX3_copyFrom_57 : decode cX3_copyFrom 57 = .ok (.getfield 22, 3) := by decide +kernel
theorem dX3_copyFrom_60 : decode cX3_copyFrom 60 = .ok (.putfield 22, 3) := by decide +kernel
theorem dX3_copyFrom_63 : decode cX3_copyFrom 63 = .ok (.return_, 1) := by decide +kernel
set_option maxRecDepth 20000 in
theorem ggX4_init_X5_init : GoodIn wsX4_init wsX5_init := goodIn_r _ [10, 11, 2, 3, 12, 13, 14, 15, 16, 17, 18, 19, 20, 21, 22, 23, 24, 25, 26, 27, 28, 29, 30, 31, 32, 33, 34, 35, 36, 37, 38, 39, 40, 41, 42, 6, 43, 44, 45, 46, 47, 48, 49, 50, 51, 52, 53, 54, 55, 56, 57, 58, 59, 60, 61, 62, 63, 64, 65, 66, 67, 68, 69, 70, 71, 72, 73, 74, 75, 76, 77, 78, 79, 80, 81, 82, 83, 84, 85, 88, 89, 90, 91, 92, 93, 94, 95, 96, 97, 98, 99, 100] (by decide +kernel) (by decide +kernel)
set_option maxRecDepth 20000 in
theorem gX4_init_X5_init : GoodIn wsX4_init (wsX5_init) := ggX4_init_X5_init
theorem dX4_init_0 : decode cX4_init 0 = .ok (.aload_n 0, 1) := by decide +kernel
theorem dX4_init_1 : decode cX4_init 1 = .ok (.invokespecial 1, 3) := by decide +kernel
theorem dX4_init_4 : decode cX4_init 4 = .ok (.aload_n 0, 1) := by decide +kernel
theorem dX4_init_5 : decode cX4_init 5 = .ok (.new 7, 3) := by decide +kernel
theorem dX4_init_8 : decode cX4_init 8 = .ok (.dup, 1) := by decide +kernel
theorem dX4_init_9 : decode cX4_init 9 = .ok (.invokespecial 9, 3) := by decide +kernel
theorem dX4_init_12 : decode cX4_init 12 = .ok (.putfield 10, 3) := by decide +kernel
theorem dX4_init_15 : decode cX4_init 15 = .ok (.return_, 1) := by decide +kernel
set_option maxRecDepth 20000 in
theorem ggX5_init_X0_init : GoodIn wsX5_init wsX0_init := goodIn_r _ [20, 21, 2, 3, 4, 22, 79, 80, 81, 82] (by decide +kernel) (by decide +kernel)
set_option maxRecDepth 20000 in
theorem gX5_init_X0_init_n17 : GoodIn wsX5_init (wsX0_init) := ggX5_init_X0_init
set_option maxRecDepth 20000 in
theorem ggX5_init_X1_init : GoodIn wsX5_init wsX1_init := goodIn_r _ [25, 26, 2, 3, 27, 83, 84] (by decide +kernel) (by decide +kernel)
set_option maxRecDepth 20000 in
theorem gX5_init_X1_init : GoodIn wsX5_init (wsX1_init) := ggX5_init_X1_init
set_option maxRecDepth 20000 in
theorem ggX5_init_X3_init : GoodIn wsX5_init wsX3_init := goodIn_r _ [29, 30, 2, 3, 4, 31, 85, 86, 87, 88, 89, 90, 91] (by decide +kernel) (by decide +kernel)
set_option maxRecDepth 20000 in
theorem gX5_init_X3_init_n36 : GoodIn wsX5_init (wsX3_init) := ggX5_init_X3_init
set_option maxRecDepth 20000 in
theorem ggX5_init_X5_begin : GoodIn wsX5_init wsX5_begin := goodIn_r _ [36, 5, 37, 38, 39, 40, 9, 13, 14, 18, 41, 42, 43, 44, 45, 46, 47, 48, 49, 8, 50, 22, 51, 52, 53, 54, 55, 56, 17, 57, 58, 59, 60, 61, 62, 63, 64, 65, 66, 67, 68, 69, 70, 71, 72, 73, 74, 75, 76, 77, 78, 83, 84, 79, 80, 81, 82, 85, 86, 87, 88, 89, 90, 91] (by decide +kernel) (by decide +kernel)
set_option maxRecDepth 20000 in
theorem gX5_init_X5_begin : GoodIn wsX5_init (wsV RX5 41 RX5 yX5_begin wsX5_begin) := goodIn_app (goodIn_of _ (by decide +kernel)) ggX5_init_X5_begin
theorem dX5_init_0 : decode cX5_init 0 = .ok (.aload_n 0, 1) := by decide +kernel
theorem dX5_init_1 : decode cX5_init 1 = .ok (.invokespecial 3, 3) := by decide +kernel
theorem dX5_init_4 : decode cX5_init 4 = .ok (.aload_n 0, 1) := by decide +kernel
theorem dX5_init_5 : decode cX5_init 5 = .ok (.iconst 3, 1) := by decide +kernel
theorem dX5_init_6 : decode cX5_init 6 = .ok (.newarray .int, 2) := by decide +kernel
theorem dX5_init_8 : decode cX5_init 8 = .ok (.putfield 9, 3) := by decide +kernel
theorem dX5_init_11 : decode cX5_init 11 = .ok (.aload_n 0, 1) := by decide +kernel
theorem dX5_init_12 : decode cX5_init 12 = .ok (.new 15, 3) := by decide +kernel
theorem dX5_init_15 : decode cX5_init 15 = .ok (.dup, 1) := by decide +kernel
theorem dX5_init_16 : decode cX5_init 16 = .ok (.invokespecial 17, 3) := by decide +kernel
theorem dX5_init_19 : decode cX5_init 19 = .ok (.putfield 18, 3) := by decide +kernel
theorem dX5_init_22 : decode cX5_init 22 = .ok (.aload_n 0, 1) := by decide +kernel
theorem dX5_init_23 : decode cX5_init 23 = .ok (.new 22, 3) := by decide +kernel
theorem dX5_init_26 : decode cX5_init 26 = .ok (.dup, 1) := by decide +kernel
theorem dX5_init_27 : decode cX5_init 27 = .ok (.sipush 336, 3) := by decide +kernel
theorem dX5_init_30 : decode cX5_init 30 = .ok (.newarray .int, 2) := by decide +kernel
theorem dX5_init_32 : decode cX5_init 32 = .ok (.invokespecial 24, 3) := by decide +kernel
theorem dX5_init_35 : decode cX5_init 35 = .ok (.putfield 27, 3) := by decide +kernel
theorem dX5_init_38 : decode cX5_init 38 = .ok (.aload_n 0, 1) := by decide +kernel
theorem dX5_init_39 : decode cX5_init 39 = .ok (.new 22, 3) := by decide +kernel
theorem dX5_init_42 : decode cX5_init 42 = .ok (.dup, 1) := by decide +kernel
theorem dX5_init_43 : decode cX5_init 43 = .ok (.bipush 28, 2) := by decide +kernel
theorem dX5_init_45 : decode cX5_init 45 = .ok (.newarray .int, 2) := by decide +kernel
theorem dX5_init_47 : decode cX5_init 47 = .ok (.invokespecial 24, 3) := by decide +kernel
theorem dX5_init_50 : decode cX5_init 50 = .ok (.putfield 31, 3) := by decide +kernel
theorem dX5_init_53 : decode cX5_init 53 = .ok (.aload_n 0, 1) := by decide +kernel
theorem dX5_init_54 : decode cX5_init 54 = .ok (.new 34, 3) := by decide +kernel
theorem dX5_init_57 : decode cX5_init 57 = .ok (.dup, 1) := by decide +kernel
theorem dX5_init_58 : decode cX5_init 58 = .ok (.invokespecial 36, 3) := by decide +kernel
theorem dX5_init_61 : decode cX5_init 61 = .ok (.putfield 37, 3) := by decide +kernel
theorem dX5_init_64 : decode cX5_init 64 = .ok (.aload_n 0, 1) := by decide +kernel
theorem dX5_init_65 : decode cX5_init 65 = .ok (.bipush 24, 2) := by decide +kernel
theorem dX5_init_67 : decode cX5_init 67 = .ok (.invokevirtual 41, 3) := by decide +kernel
theorem dX5_init_70 : decode cX5_init 70 = .ok (.return_, 1) := by decide +kernel
set_option maxRecDepth 20000 in
theorem ggX5_begin_X0_begin : GoodIn wsX5_begin wsX0_begin := goodIn_r _ [20, 21, 22, 23, 24, 53, 54, 55, 56] (by decide +kernel) (by decide +kernel)
set_option maxRecDepth 20000 in
theorem gX5_begin_X0_begin : GoodIn wsX5_begin (wsV RX5 54 RX0 yX0_begin wsX0_begin) := goodIn_app (goodIn_of _ (by decide +kernel)) ggX5_begin_X0_begin
set_option maxRecDepth 20000 in
theorem ggX5_begin_X3_begin : GoodIn wsX5_begin wsX3_begin := goodIn_r _ [29, 30, 31, 32, 33, 34, 28, 35, 36, 37, 38, 39, 57, 58, 59, 60, 61, 62, 63] (by decide +kernel) (by decide +kernel)
set_option maxRecDepth 20000 in
theorem gX5_begin_X3_begin : GoodIn wsX5_begin (wsV RX5 59 RX3 yX3_begin wsX3_begin) := goodIn_app (goodIn_of _ (by decide +kernel)) ggX5_begin_X3_begin
theorem dX5_begin_0 : decode cX5_begin 0 = .ok (.getstatic 45, 3) := by decide +kernel
theorem dX5_begin_3 : decode cX5_begin 3 = .ok (.iconst 0, 1) := by decide +kernel
theorem dX5_begin_4 : decode cX5_begin 4 = .ok (.aload_n 0, 1) := by decide +kernel
theorem dX5_begin_5 : decode cX5_begin 5 = .ok (.getfield 9, 3) := by decide +kernel
theorem dX5_begin_8 : decode cX5_begin 8 = .ok (.iconst 0, 1) := by decide +kernel
theorem dX5_begin_9 : decode cX5_begin 9 = .ok (.iconst 3, 1) := by decide +kernel
theorem dX5_begin_10 : decode cX5_begin 10 = .ok (.invokestatic 48, 3) := by decide +kernel
theorem dX5_begin_13 : decode cX5_begin 13 = .ok (.aload_n 0, 1) := by decide +kernel
theorem dX5_begin_14 : decode cX5_begin 14 = .ok (.getfield 18, 3) := by decide +kernel
theorem dX5_begin_17 : decode cX5_begin 17 = .ok (.iload_n 1, 1) := by decide +kernel
theorem dX5_begin_18 : decode cX5_begin 18 = .ok (.invokevirtual 54, 3) := by decide +kernel
theorem dX5_begin_21 : decode cX5_begin 21 = .ok (.aload_n 0, 1) := by decide +kernel
theorem dX5_begin_22 : decode cX5_begin 22 = .ok (.getfield 27, 3) := by decide +kernel
theorem dX5_begin_25 : decode cX5_begin 25 = .ok (.iconst 0, 1) := by decide +kernel
theorem dX5_begin_26 : decode cX5_begin 26 = .ok (.putfield 55, 3) := by decide +kernel
theorem dX5_begin_29 : decode cX5_begin 29 = .ok (.aload_n 0, 1) := by decide +kernel
theorem dX5_begin_30 : decode cX5_begin 30 = .ok (.getfield 31, 3) := by decide +kernel
theorem dX5_begin_33 : decode cX5_begin 33 = .ok (.iconst 0, 1) := by decide +kernel
theorem dX5_begin_34 : decode cX5_begin 34 = .ok (.putfield 55, 3) := by decide +kernel
theorem dX5_begin_37 : decode cX5_begin 37 = .ok (.aload_n 0, 1) := by decide +kernel
theorem dX5_begin_38 : decode cX5_begin 38 = .ok (.getfield 37, 3) := by decide +kernel
theorem dX5_begin_41 : decode cX5_begin 41 = .ok (.invokevirtual 59, 3) := by decide +kernel
theorem dX5_begin_44 : decode cX5_begin 44 = .ok (.aload_n 0, 1) := by decide +kernel
theorem dX5_begin_45 : decode cX5_begin 45 = .ok (.iconst 0, 1) := by decide +kernel
theorem dX5_begin_46 : decode cX5_begin 46 = .ok (.putfield 61, 3) := by decide +kernel
theorem dX5_begin_49 : decode cX5_begin 49 = .ok (.aload_n 0, 1) := by decide +kernel
theorem dX5_begin_50 : decode cX5_begin 50 = .ok (.iconst 0, 1) := by decide +kernel
theorem dX5_begin_51 : decode cX5_begin 51 = .ok (.putfield 64, 3) := by decide +kernel
theorem dX5_begin_54 : decode cX5_begin 54 = .ok (.aload_n 0, 1) := by decide +kernel
theorem dX5_begin_55 : decode cX5_begin 55 = .ok (.iconst 0, 1) := by decide +kernel
theorem dX5_begin_56 : decode cX5_begin 56 = .ok (.putfield 67, 3) := by decide +kernel
theorem dX5_begin_59 : decode cX5_begin 59 = .ok (.aload_n 0, 1) := by decide +kernel
theorem dX5_begin_60 : decode cX5_begin 60 = .ok (.iconst 0, 1) := by decide +kernel
theorem dX5_begin_61 : decode cX5_begin 61 = .ok (.putfield 70, 3) := by decide +kernel
theorem dX5_begin_64 : decode cX5_begin 64 = .ok (.aload_n 0, 1) := by decide +kernel
theorem dX5_begin_65 : decode cX5_begin 65 = .ok (.iconst 0, 1) := by decide +kernel
theorem dX5_begin_66 : decode cX5_begin 66 = .ok (.putfield 73, 3) := by decide +kernel
theorem dX5_begin_69 : decode cX5_begin 69 = .ok (.aload_n 0, 1) := by decide +kernel
theorem dX5_begin_70 : decode cX5_begin 70 = .ok (.iconst (-1), 1) := by decide +kernel
theorem dX5_begin_71 : decode cX5_begin 71 = .ok (.putfield 76, 3) := by decide +kernel
theorem dX5_begin_74 : decode cX5_begin 74 = .ok (.return_, 1) := by decide +kernel
set_option maxRecDepth 20000 in
theorem ggX5_receive_X7_difference : GoodIn wsX5_receive wsX7_difference := goodIn_r _ [9] (by decide +kernel) (by decide +kernel)
set_option maxRecDepth 20000 in
theorem gX5_receive_X7_difference_n79 : GoodIn wsX5_receive (wsX7_difference) := ggX5_receive_X7_difference
set_option maxRecDepth 20000 in
theorem ggX5_receive_X1_add : GoodIn wsX5_receive wsX1_add := goodIn_r _ [14, 15, 16, 17, 18, 13, 19, 20, 39, 40] (by decide +kernel) (by decide +kernel)
set_option maxRecDepth 20000 in
theorem gX5_receive_X1_add : GoodIn wsX5_receive (wsV RX5 85 RX1 yX1_add wsX1_add) := goodIn_app (goodIn_of _ (by decide +kernel)) ggX5_receive_X1_add
theorem dX5_receive_0 : decode cX5_receive 0 = .ok (.aload_n 0, 1) := by decide +kernel
theorem dX5_receive_1 : decode cX5_receive 1 = .ok (.getfield 76, 3) := by decide +kernel
theorem dX5_receive_4 : decode cX5_receive 4 = .ok (.iconst (-1), 1) := by decide +kernel
theorem dX5_receive_5 : decode cX5_receive 5 = .ok (.if_icmp .ne 8, 3) := by decide +kernel
theorem dX5_receive_8 : decode cX5_receive 8 = .ok (.bipush 7, 2) := by decide +kernel
theorem dX5_receive_10 : decode cX5_receive 10 = .ok (.goto 16, 3) := by decide +kernel
theorem dX5_receive_13 : decode cX5_receive 13 = .ok (.iconst 1, 1) := by decide +kernel
theorem dX5_receive_14 : decode cX5_receive 14 = .ok (.aload_n 0, 1) := by decide +kernel
theorem dX5_receive_15 : decode cX5_receive 15 = .ok (.getfield 76, 3) := by decide +kernel
theorem dX5_receive_18 : decode cX5_receive 18 = .ok (.iload_n 1, 1) := by decide +kernel
theorem dX5_receive_19 : decode cX5_receive 19 = .ok (.invokestatic 79, 3) := by decide +kernel
theorem dX5_receive_22 : decode cX5_receive 22 = .ok (.bipush 9, 2) := by decide +kernel
theorem dX5_receive_24 : decode cX5_receive 24 = .ok (.idiv, 1) := by decide +kernel
theorem dX5_receive_25 : decode cX5_receive 25 = .ok (.iadd, 1) := by decide +kernel
theorem dX5_receive_26 : decode cX5_receive 26 = .ok (.istore_n 2, 1) := by decide +kernel
theorem dX5_receive_27 : decode cX5_receive 27 = .ok (.aload_n 0, 1) := by decide +kernel
theorem dX5_receive_28 : decode cX5_receive 28 = .ok (.getfield 64, 3) := by decide +kernel
theorem dX5_receive_31 : decode cX5_receive 31 = .ok (.istore_n 3, 1) := by decide +kernel
theorem dX5_receive_32 : decode cX5_receive 32 = .ok (.aload_n 0, 1) := by decide +kernel
theorem dX5_receive_33 : decode cX5_receive 33 = .ok (.dup, 1) := by decide +kernel
theorem dX5_receive_34 : decode cX5_receive 34 = .ok (.getfield 64, 3) := by decide +kernel
theorem dX5_receive_37 : decode cX5_receive 37 = .ok (.iconst 1, 1) := by decide +kernel
theorem dX5_receive_38 : decode cX5_receive 38 = .ok (.iadd, 1) := by decide +kernel
theorem dX5_receive_39 : decode cX5_receive 39 = .ok (.putfield 64, 3) := by decide +kernel
theorem dX5_receive_42 : decode cX5_receive 42 = .ok (.aload_n 0, 1) := by decide +kernel
theorem dX5_receive_43 : decode cX5_receive 43 = .ok (.getfield 37, 3) := by decide +kernel
theorem dX5_receive_46 : decode cX5_receive 46 = .ok (.dup, 1) := by decide +kernel
theorem dX5_receive_47 : decode cX5_receive 47 = .ok (.getfield 83, 3) := by decide +kernel
theorem dX5_receive_50 : decode cX5_receive 50 = .ok (.iconst 1, 1) := by decide +kernel
theorem dX5_receive_51 : decode cX5_receive 51 = .ok (.iadd, 1) := by decide +kernel
theorem dX5_receive_52 : decode cX5_receive 52 = .ok (.putfield 83, 3) := by decide +kernel
theorem dX5_receive_55 : decode cX5_receive 55 = .ok (.aload_n 0, 1) := by decide +kernel
theorem dX5_receive_56 : decode cX5_receive 56 = .ok (.iload_n 1, 1) := by decide +kernel
theorem dX5_receive_57 : decode cX5_receive 57 = .ok (.putfield 76, 3) := by decide +kernel
theorem dX5_receive_60 : decode cX5_receive 60 = .ok (.aload_n 0, 1) := by decide +kernel
theorem dX5_receive_61 : decode cX5_receive 61 = .ok (.getfield 31, 3) := by decide +kernel
theorem dX5_receive_64 : decode cX5_receive 64 = .ok (.getfield 55, 3) := by decide +kernel
theorem dX5_receive_67 : decode cX5_receive 67 = .ok (.iconst 4, 1) := by decide +kernel
theorem dX5_receive_68 : decode cX5_receive 68 = .ok (.if_icmp .lt 28, 3) := by decide +kernel
theorem dX5_receive_71 : decode cX5_receive 71 = .ok (.aload_n 0, 1) := by decide +kernel
theorem dX5_receive_72 : decode cX5_receive 72 = .ok (.dup, 1) := by decide +kernel
theorem dX5_receive_73 : decode cX5_receive 73 = .ok (.getfield 70, 3) := by decide +kernel
theorem dX5_receive_76 : decode cX5_receive 76 = .ok (.iconst 1, 1) := by decide +kernel
theorem dX5_receive_77 : decode cX5_receive 77 = .ok (.iadd, 1) := by decide +kernel
theorem dX5_receive_78 : decode cX5_receive 78 = .ok (.putfield 70, 3) := by decide +kernel
theorem dX5_receive_81 : decode cX5_receive 81 = .ok (.aload_n 0, 1) := by decide +kernel
theorem dX5_receive_82 : decode cX5_receive 82 = .ok (.getfield 37, 3) := by decide +kernel
theorem dX5_receive_85 : decode cX5_receive 85 = .ok (.dup, 1) := by decide +kernel
theorem dX5_receive_86 : decode cX5_receive 86 = .ok (.getfield 84, 3) := by decide +kernel
theorem dX5_receive_89 : decode cX5_receive 89 = .ok (.iconst 1, 1) := by decide +kernel
theorem dX5_receive_90 : decode cX5_receive 90 = .ok (.iadd, 1) := by decide +kernel
theorem dX5_receive_91 : decode cX5_receive 91 = .ok (.putfield 84, 3) := by decide +kernel
theorem dX5_receive_94 : decode cX5_receive 94 = .ok (.iconst (-1), 1) := by decide +kernel
theorem dX5_receive_95 : decode cX5_receive 95 = .ok (.ireturn, 1) := by decide +kernel
theorem dX5_receive_96 : decode cX5_receive 96 = .ok (.aload_n 0, 1) := by decide +kernel
theorem dX5_receive_97 : decode cX5_receive 97 = .ok (.getfield 31, 3) := by decide +kernel
theorem dX5_receive_100 : decode cX5_receive 100 = .ok (.iload_n 3, 1) := by decide +kernel
theorem dX5_receive_101 : decode cX5_receive 101 = .ok (.iload_n 1, 1) := by decide +kernel
theorem dX5_receive_102 : decode cX5_receive 102 = .ok (.iload_n 2, 1) := by decide +kernel
theorem dX5_receive_103 : decode cX5_receive 103 = .ok (.aload_n 0, 1) := by decide +kernel
theorem dX5_receive_104 : decode cX5_receive 104 = .ok (.getfield 61, 3) := by decide +kernel
theorem dX5_receive_107 : decode cX5_receive 107 = .ok (.invokevirtual 85, 3) := by decide +kernel
theorem dX5_receive_110 : decode cX5_receive 110 = .ok (.iload_n 3, 1) := by decide +kernel
theorem dX5_receive_111 : decode cX5_receive 111 = .ok (.ireturn, 1) := by decide +kernel
set_option maxRecDepth 20000 in
theorem ggX5_pass_X0_clean : GoodIn wsX5_pass wsX0_clean := goodIn_r _ [7, 8, 9, 10, 126, 127, 128, 129] (by decide +kernel) (by decide +kernel)
set_option maxRecDepth 20000 in
theorem gX5_pass_X0_clean : GoodIn wsX5_pass (wsV RX5 89 RX0 yX0_clean wsX0_clean) := goodIn_app (goodIn_of _ (by decide +kernel)) ggX5_pass_X0_clean
set_option maxRecDepth 20000 in
theorem ggX5_pass_X5_storeWaiting : GoodIn wsX5_pass wsX5_storeWaiting := goodIn_r _ [15, 16, 1, 17, 18, 19, 20, 21, 22, 23, 24, 25, 26, 14, 27, 28, 29, 30, 31, 32, 33, 34, 35, 36, 37, 38, 39, 40, 41, 42, 43, 44, 45, 46, 47, 48, 49, 50, 51, 52, 53, 54, 55, 6, 56, 57, 9, 10, 58, 59, 60, 61, 62, 63, 64, 65, 115, 116, 117, 118, 119, 120, 121, 122, 123, 124, 125, 130, 131, 126, 127, 128, 129, 132, 133, 134, 135, 136, 137, 138] (by decide +kernel) (by decide +kernel)
set_option maxRecDepth 20000 in
theorem gX5_pass_X5_storeWaiting : GoodIn wsX5_pass (wsV RX5 92 RX5 yX5_storeWaiting wsX5_storeWaiting) := goodIn_app (goodIn_of _ (by decide +kernel)) ggX5_pass_X5_storeWaiting
set_option maxRecDepth 20000 in
theorem ggX5_pass_X5_makeRoomForFirst : GoodIn wsX5_pass wsX5_makeRoomForFirst := goodIn_r _ [69, 28, 70, 71, 72, 14, 73, 16, 1, 17, 18, 19, 20, 21, 22, 23, 74, 75, 76, 77, 78, 79, 80, 81, 82, 83, 84, 85, 6, 86, 57, 9, 8, 58, 59, 60, 61, 62, 63, 64, 65, 44, 45, 46, 47, 40, 41, 42, 43, 36, 37, 38, 39, 48, 49, 50, 51, 115, 116, 117, 118, 119, 120, 121, 122, 123, 124, 125, 130, 131, 126, 127, 128, 129] (by decide +kernel) (by decide +kernel)
set_option maxRecDepth 20000 in
theorem gX5_pass_X5_makeRoomForFirst : GoodIn wsX5_pass (wsV RX5 96 RX5 yX5_makeRoomForFirst wsX5_makeRoomForFirst) := goodIn_app (goodIn_of _ (by decide +kernel)) ggX5_pass_X5_makeRoomForFirst
set_option maxRecDepth 20000 in
theorem ggX5_pass_X5_endTick : GoodIn wsX5_pass wsX5_endTick := goodIn_r _ [90, 29, 30, 2, 16, 91, 92, 93, 94, 95, 96, 97, 98, 99, 100, 101, 102, 103, 104, 105, 106, 107, 108, 109, 110, 111, 112, 113, 114, 115, 116, 117, 118, 119, 120, 121, 122, 123, 124, 125, 132, 133, 134, 135, 136, 137, 138, 130, 131] (by decide +kernel) (by decide +kernel)
set_option maxRecDepth 20000 in
theorem gX5_pass_X5_endTick : GoodIn wsX5_pass (wsV RX5 99 RX5 yX5_endTick wsX5_endTick) := goodIn_app (goodIn_of _ (by decide +kernel)) ggX5_pass_X5_endTick
theorem dX5_pass_0 : decode cX5_pass 0 = .ok (.iconst 0, 1) := by decide +kernel
theorem dX5_pass_1 : decode cX5_pass 1 = .ok (.istore_n 2, 1) := by decide +kernel
theorem dX5_pass_2 : decode cX5_pass 2 = .ok (.iconst 0, 1) := by decide +kernel
theorem dX5_pass_3 : decode cX5_pass 3 = .ok (.istore_n 3, 1) := by decide +kernel
theorem dX5_pass_4 : decode cX5_pass 4 = .ok (.iload_n 3, 1) := by decide +kernel
theorem dX5_pass_5 : decode cX5_pass 5 = .ok (.iload_n 1, 1) := by decide +kernel
theorem dX5_pass_6 : decode cX5_pass 6 = .ok (.if_icmp .ge 37, 3) := by decide +kernel
theorem dX5_pass_9 : decode cX5_pass 9 = .ok (.aload_n 0, 1) := by decide +kernel
theorem dX5_pass_10 : decode cX5_pass 10 = .ok (.getfield 18, 3) := by decide +kernel
theorem dX5_pass_13 : decode cX5_pass 13 = .ok (.aload_n 0, 1) := by decide +kernel
theorem dX5_pass_14 : decode cX5_pass 14 = .ok (.getfield 9, 3) := by decide +kernel
theorem dX5_pass_17 : decode cX5_pass 17 = .ok (.iconst 0, 1) := by decide +kernel
theorem dX5_pass_18 : decode cX5_pass 18 = .ok (.iaload, 1) := by decide +kernel
theorem dX5_pass_19 : decode cX5_pass 19 = .ok (.invokevirtual 89, 3) := by decide +kernel
theorem dX5_pass_22 : decode cX5_pass 22 = .ok (.iload_n 2, 1) := by decide +kernel
theorem dX5_pass_23 : decode cX5_pass 23 = .ok (.aload_n 0, 1) := by decide +kernel
theorem dX5_pass_24 : decode cX5_pass 24 = .ok (.invokevirtual 92, 3) := by decide +kernel
theorem dX5_pass_27 : decode cX5_pass 27 = .ok (.iadd, 1) := by decide +kernel
theorem dX5_pass_28 : decode cX5_pass 28 = .ok (.istore_n 2, 1) := by decide +kernel
theorem dX5_pass_29 : decode cX5_pass 29 = .ok (.aload_n 0, 1) := by decide +kernel
theorem dX5_pass_30 : decode cX5_pass 30 = .ok (.invokevirtual 96, 3) := by decide +kernel
theorem dX5_pass_33 : decode cX5_pass 33 = .ok (.aload_n 0, 1) := by decide +kernel
theorem dX5_pass_34 : decode cX5_pass 34 = .ok (.invokevirtual 99, 3) := by decide +kernel
theorem dX5_pass_37 : decode cX5_pass 37 = .ok (.iinc 3 1, 3) := by decide +kernel
theorem dX5_pass_40 : decode cX5_pass 40 = .ok (.goto (-36), 3) := by decide +kernel
theorem dX5_pass_43 : decode cX5_pass 43 = .ok (.iload_n 2, 1) := by decide +kernel
theorem dX5_pass_44 : decode cX5_pass 44 = .ok (.ireturn, 1) := by decide +kernel
set_option maxRecDepth 20000 in
theorem ggX5_storeWaiting_X1_get : GoodIn wsX5_storeWaiting wsX1_get := goodIn_r _ [7, 8, 9, 67, 68] (by decide +kernel) (by decide +kernel)
set_option maxRecDepth 20000 in
theorem gX5_storeWaiting_X1_get : GoodIn wsX5_storeWaiting (wsV RX5 105 RX1 yX1_get wsX1_get) := goodIn_app (goodIn_of _ (by decide +kernel)) ggX5_storeWaiting_X1_get
set_option maxRecDepth 20000 in
theorem ggX5_storeWaiting_X5_storeFirst : GoodIn wsX5_storeWaiting wsX5_storeFirst := goodIn_r _ [14, 1, 15, 16, 2, 17, 18, 3, 4, 5, 6, 7, 8, 9, 19, 20, 21, 22, 23, 24, 25, 26, 27, 28, 29, 30, 31, 32, 33, 34, 35, 36, 37, 38, 39, 40, 41, 42, 43, 44, 45, 46, 47, 48, 49, 50, 51, 52, 53, 54, 55, 56, 57, 58, 59, 60, 61, 62, 63, 64, 65, 66, 67, 68, 73, 74, 75, 76, 77, 78, 79, 69, 70, 71, 72] (by decide +kernel) (by decide +kernel)
set_option maxRecDepth 20000 in
theorem gX5_storeWaiting_X5_storeFirst : GoodIn wsX5_storeWaiting (wsV RX5 108 RX5 yX5_storeFirst wsX5_storeFirst) := goodIn_app (goodIn_of _ (by decide +kernel)) ggX5_storeWaiting_X5_storeFirst
theorem dX5_storeWaiting_0 : decode cX5_storeWaiting 0 = .ok (.iconst 0, 1) := by decide +kernel
theorem dX5_storeWaiting_1 : decode cX5_storeWaiting 1 = .ok (.istore_n 1, 1) := by decide +kernel
theorem dX5_storeWaiting_2 : decode cX5_storeWaiting 2 = .ok (.iload_n 1, 1) := by decide +kernel
theorem dX5_storeWaiting_3 : decode cX5_storeWaiting 3 = .ok (.iconst 4, 1) := by decide +kernel
theorem dX5_storeWaiting_4 : decode cX5_storeWaiting 4 = .ok (.if_icmp .ge 42, 3) := by decide +kernel
theorem dX5_storeWaiting_7 : decode cX5_storeWaiting 7 = .ok (.aload_n 0, 1) := by decide +kernel
theorem dX5_storeWaiting_8 : decode cX5_storeWaiting 8 = .ok (.getfield 31, 3) := by decide +kernel
theorem dX5_storeWaiting_11 : decode cX5_storeWaiting 11 = .ok (.getfield 55, 3) := by decide +kernel
theorem dX5_storeWaiting_14 : decode cX5_storeWaiting 14 = .ok (.ifCond .le 32, 3) := by decide +kernel
theorem dX5_storeWaiting_17 : decode cX5_storeWaiting 17 = .ok (.aload_n 0, 1) := by decide +kernel
theorem dX5_storeWaiting_18 : decode cX5_storeWaiting 18 = .ok (.getfield 18, 3) := by decide +kernel
theorem dX5_storeWaiting_21 : decode cX5_storeWaiting 21 = .ok (.getfield 102, 3) := by decide +kernel
theorem dX5_storeWaiting_24 : decode cX5_storeWaiting 24 = .ok (.aload_n 0, 1) := by decide +kernel
theorem dX5_storeWaiting_25 : decode cX5_storeWaiting 25 = .ok (.getfield 31, 3) := by decide +kernel
theorem dX5_storeWaiting_28 : decode cX5_storeWaiting 28 = .ok (.iconst 0, 1) := by decide +kernel
theorem dX5_storeWaiting_29 : decode cX5_storeWaiting 29 = .ok (.iconst 2, 1) := by decide +kernel
theorem dX5_storeWaiting_30 : decode cX5_storeWaiting 30 = .ok (.invokevirtual 105, 3) := by decide +kernel
theorem dX5_storeWaiting_33 : decode cX5_storeWaiting 33 = .ok (.if_icmp .lt 13, 3) := by decide +kernel
theorem dX5_storeWaiting_36 : decode cX5_storeWaiting 36 = .ok (.aload_n 0, 1) := by decide +kernel
theorem dX5_storeWaiting_37 : decode cX5_storeWaiting 37 = .ok (.invokevirtual 108, 3) := by decide +kernel
theorem dX5_storeWaiting_40 : decode cX5_storeWaiting 40 = .ok (.iinc 1 1, 3) := by decide +kernel
theorem dX5_storeWaiting_43 : decode cX5_storeWaiting 43 = .ok (.goto (-41), 3) := by decide +kernel
theorem dX5_storeWaiting_46 : decode cX5_storeWaiting 46 = .ok (.iload_n 1, 1) := by decide +kernel
theorem dX5_storeWaiting_47 : decode cX5_storeWaiting 47 = .ok (.ireturn, 1) := by decide +kernel
set_option maxRecDepth 20000 in
theorem ggX5_storeFirst_X1_get : GoodIn wsX5_storeFirst wsX1_get := goodIn_r _ [11, 12, 13, 62, 63] (by decide +kernel) (by decide +kernel)
set_option maxRecDepth 20000 in
theorem gX5_storeFirst_X1_get : GoodIn wsX5_storeFirst (wsV RX5 105 RX1 yX1_get wsX1_get) := goodIn_app (goodIn_of _ (by decide +kernel)) ggX5_storeFirst_X1_get
set_option maxRecDepth 20000 in
theorem ggX5_storeFirst_X1_add : GoodIn wsX5_storeFirst wsX1_add := goodIn_r _ [17, 12, 18, 19, 20, 10, 21, 13, 62, 63] (by decide +kernel) (by decide +kernel)
set_option maxRecDepth 20000 in
theorem gX5_storeFirst_X1_add : GoodIn wsX5_storeFirst (wsV RX5 85 RX1 yX1_add wsX1_add) := goodIn_app (goodIn_of _ (by decide +kernel)) ggX5_storeFirst_X1_add
set_option maxRecDepth 20000 in
theorem ggX5_storeFirst_X1_measureChange : GoodIn wsX5_storeFirst wsX1_measureChange := goodIn_r _ [25, 18, 19, 20, 10, 21, 12, 13, 26, 27, 28, 29, 30, 8, 9, 11, 31, 32, 33, 62, 63] (by decide +kernel) (by decide +kernel)
set_option maxRecDepth 20000 in
theorem gX5_storeFirst_X1_measureChange : GoodIn wsX5_storeFirst (wsV RX5 111 RX1 yX1_measureChange wsX1_measureChange) := goodIn_app (goodIn_of _ (by decide +kernel)) ggX5_storeFirst_X1_measureChange
set_option maxRecDepth 20000 in
theorem ggX5_storeFirst_X1_put : GoodIn wsX5_storeFirst wsX1_put := goodIn_r _ [21, 12, 13, 62, 63] (by decide +kernel) (by decide +kernel)
set_option maxRecDepth 20000 in
theorem gX5_storeFirst_X1_put : GoodIn wsX5_storeFirst (wsV RX5 114 RX1 yX1_put wsX1_put) := goodIn_app (goodIn_of _ (by decide +kernel)) ggX5_storeFirst_X1_put
set_option maxRecDepth 20000 in
theorem ggX5_storeFirst_X0_take : GoodIn wsX5_storeFirst wsX0_take := goodIn_r _ [39, 40, 41, 42, 71, 72, 73, 74] (by decide +kernel) (by decide +kernel)
set_option maxRecDepth 20000 in
theorem gX5_storeFirst_X0_take : GoodIn wsX5_storeFirst (wsV RX5 118 RX0 yX0_take wsX0_take) := goodIn_app (goodIn_of _ (by decide +kernel)) ggX5_storeFirst_X0_take
set_option maxRecDepth 20000 in
theorem ggX5_storeFirst_X1_remove : GoodIn wsX5_storeFirst wsX1_remove := goodIn_r _ [46, 12, 13, 47, 48, 49, 50, 26, 27, 28, 10, 29, 62, 63] (by decide +kernel) (by decide +kernel)
set_option maxRecDepth 20000 in
theorem gX5_storeFirst_X1_remove : GoodIn wsX5_storeFirst (wsV RX5 121 RX1 yX1_remove wsX1_remove) := goodIn_app (goodIn_of _ (by decide +kernel)) ggX5_storeFirst_X1_remove
theorem dX5_storeFirst_0 : decode cX5_storeFirst 0 = .ok (.aload_n 0, 1) := by decide +kernel
theorem dX5_storeFirst_1 : decode cX5_storeFirst 1 = .ok (.getfield 31, 3) := by decide +kernel
theorem dX5_storeFirst_4 : decode cX5_storeFirst 4 = .ok (.iconst 0, 1) := by decide +kernel
theorem dX5_storeFirst_5 : decode cX5_storeFirst 5 = .ok (.iconst 0, 1) := by decide +kernel
theorem dX5_storeFirst_6 : decode cX5_storeFirst 6 = .ok (.invokevirtual 105, 3) := by decide +kernel
theorem dX5_storeFirst_9 : decode cX5_storeFirst 9 = .ok (.istore_n 1, 1) := by decide +kernel
theorem dX5_storeFirst_10 : decode cX5_storeFirst 10 = .ok (.aload_n 0, 1) := by decide +kernel
theorem dX5_storeFirst_11 : decode cX5_storeFirst 11 = .ok (.getfield 31, 3) := by decide +kernel
theorem dX5_storeFirst_14 : decode cX5_storeFirst 14 = .ok (.iconst 0, 1) := by decide +kernel
theorem dX5_storeFirst_15 : decode cX5_storeFirst 15 = .ok (.iconst 2, 1) := by decide +kernel
theorem dX5_storeFirst_16 : decode cX5_storeFirst 16 = .ok (.invokevirtual 105, 3) := by decide +kernel
theorem dX5_storeFirst_19 : decode cX5_storeFirst 19 = .ok (.istore_n 2, 1) := by decide +kernel
theorem dX5_storeFirst_20 : decode cX5_storeFirst 20 = .ok (.aload_n 0, 1) := by decide +kernel
theorem dX5_storeFirst_21 : decode cX5_storeFirst 21 = .ok (.getfield 31, 3) := by decide +kernel
theorem dX5_storeFirst_24 : decode cX5_storeFirst 24 = .ok (.iconst 0, 1) := by decide +kernel
theorem dX5_storeFirst_25 : decode cX5_storeFirst 25 = .ok (.iconst 3, 1) := by decide +kernel
theorem dX5_storeFirst_26 : decode cX5_storeFirst 26 = .ok (.invokevirtual 105, 3) := by decide +kernel
theorem dX5_storeFirst_29 : decode cX5_storeFirst 29 = .ok (.istore_n 3, 1) := by decide +kernel
theorem dX5_storeFirst_30 : decode cX5_storeFirst 30 = .ok (.aload_n 0, 1) := by decide +kernel
theorem dX5_storeFirst_31 : decode cX5_storeFirst 31 = .ok (.getfield 27, 3) := by decide +kernel
theorem dX5_storeFirst_34 : decode cX5_storeFirst 34 = .ok (.getfield 55, 3) := by decide +kernel
theorem dX5_storeFirst_37 : decode cX5_storeFirst 37 = .ok (.istore 4, 2) := by decide +kernel
theorem dX5_storeFirst_39 : decode cX5_storeFirst 39 = .ok (.aload_n 0, 1) := by decide +kernel
theorem dX5_storeFirst_40 : decode cX5_storeFirst 40 = .ok (.getfield 27, 3) := by decide +kernel
theorem dX5_storeFirst_43 : decode cX5_storeFirst 43 = .ok (.iload_n 1, 1) := by decide +kernel
theorem dX5_storeFirst_44 : decode cX5_storeFirst 44 = .ok (.aload_n 0, 1) := by decide +kernel
theorem dX5_storeFirst_45 : decode cX5_storeFirst 45 = .ok (.getfield 31, 3) := by decide +kernel
theorem dX5_storeFirst_48 : decode cX5_storeFirst 48 = .ok (.iconst 0, 1) := by decide +kernel
theorem dX5_storeFirst_49 : decode cX5_storeFirst 49 = .ok (.iconst 1, 1) := by decide +kernel
theorem dX5_storeFirst_50 : decode cX5_storeFirst 50 = .ok (.invokevirtual 105, 3) := by decide +kernel
theorem dX5_storeFirst_53 : decode cX5_storeFirst 53 = .ok (.iload_n 2, 1) := by decide +kernel
theorem dX5_storeFirst_54 : decode cX5_storeFirst 54 = .ok (.iload_n 3, 1) := by decide +kernel
theorem dX5_storeFirst_55 : decode cX5_storeFirst 55 = .ok (.invokevirtual 85, 3) := by decide +kernel
theorem dX5_storeFirst_58 : decode cX5_storeFirst 58 = .ok (.aload_n 0, 1) := by decide +kernel
theorem dX5_storeFirst_59 : decode cX5_storeFirst 59 = .ok (.getfield 27, 3) := by decide +kernel
theorem dX5_storeFirst_62 : decode cX5_storeFirst 62 = .ok (.iload 4, 2) := by decide +kernel
theorem dX5_storeFirst_64 : decode cX5_storeFirst 64 = .ok (.invokevirtual 111, 3) := by decide +kernel
theorem dX5_storeFirst_67 : decode cX5_storeFirst 67 = .ok (.aload_n 0, 1) := by decide +kernel
theorem dX5_storeFirst_68 : decode cX5_storeFirst 68 = .ok (.getfield 27, 3) := by decide +kernel
theorem dX5_storeFirst_71 : decode cX5_storeFirst 71 = .ok (.iload 4, 2) := by decide +kernel
theorem dX5_storeFirst_73 : decode cX5_storeFirst 73 = .ok (.iconst 5, 1) := by decide +kernel
theorem dX5_storeFirst_74 : decode cX5_storeFirst 74 = .ok (.aload_n 0, 1) := by decide +kernel
theorem dX5_storeFirst_75 : decode cX5_storeFirst 75 = .ok (.getfield 61, 3) := by decide +kernel
theorem dX5_storeFirst_78 : decode cX5_storeFirst 78 = .ok (.iload_n 3, 1) := by decide +kernel
theorem dX5_storeFirst_79 : decode cX5_storeFirst 79 = .ok (.isub, 1) := by decide +kernel
theorem dX5_storeFirst_80 : decode cX5_storeFirst 80 = .ok (.invokevirtual 114, 3) := by decide +kernel
theorem dX5_storeFirst_83 : decode cX5_storeFirst 83 = .ok (.aload_n 0, 1) := by decide +kernel
theorem dX5_storeFirst_84 : decode cX5_storeFirst 84 = .ok (.getfield 27, 3) := by decide +kernel
theorem dX5_storeFirst_87 : decode cX5_storeFirst 87 = .ok (.iload 4, 2) := by decide +kernel
theorem dX5_storeFirst_89 : decode cX5_storeFirst 89 = .ok (.bipush 6, 2) := by decide +kernel
theorem dX5_storeFirst_91 : decode cX5_storeFirst 91 = .ok (.aload_n 0, 1) := by decide +kernel
theorem dX5_storeFirst_92 : decode cX5_storeFirst 92 = .ok (.getfield 18, 3) := by decide +kernel
theorem dX5_storeFirst_95 : decode cX5_storeFirst 95 = .ok (.iload_n 1, 1) := by decide +kernel
theorem dX5_storeFirst_96 : decode cX5_storeFirst 96 = .ok (.iload_n 2, 1) := by decide +kernel
theorem dX5_storeFirst_97 : decode cX5_storeFirst 97 = .ok (.invokevirtual 118, 3) := by decide +kernel
theorem dX5_storeFirst_100 : decode cX5_storeFirst 100 = .ok (.invokevirtual 114, 3) := by decide +kernel
theorem dX5_storeFirst_103 : decode cX5_storeFirst 103 = .ok (.aload_n 0, 1) := by decide +kernel
theorem dX5_storeFirst_104 : decode cX5_storeFirst 104 = .ok (.getfield 31, 3) := by decide +kernel
theorem dX5_storeFirst_107 : decode cX5_storeFirst 107 = .ok (.iconst 0, 1) := by decide +kernel
theorem dX5_storeFirst_108 : decode cX5_storeFirst 108 = .ok (.invokevirtual 121, 3) := by decide +kernel
theorem dX5_storeFirst_111 : decode cX5_storeFirst 111 = .ok (.aload_n 0, 1) := by decide +kernel
theorem dX5_storeFirst_112 : decode cX5_storeFirst 112 = .ok (.getfield 37, 3) := by decide +kernel
theorem dX5_storeFirst_115 : decode cX5_storeFirst 115 = .ok (.dup, 1) := by decide +kernel
theorem dX5_storeFirst_116 : decode cX5_storeFirst 116 = .ok (.getfield 124, 3) := by decide +kernel
theorem dX5_storeFirst_119 : decode cX5_storeFirst 119 = .ok (.iconst 1, 1) := by decide +kernel
theorem dX5_storeFirst_120 : decode cX5_storeFirst 120 = .ok (.iadd, 1) := by decide +kernel
theorem dX5_storeFirst_121 : decode cX5_storeFirst 121 = .ok (.putfield 124, 3) := by decide +kernel
theorem dX5_storeFirst_124 : decode cX5_storeFirst 124 = .ok (.aload_n 0, 1) := by decide +kernel
theorem dX5_storeFirst_125 : decode cX5_storeFirst 125 = .ok (.getfield 61, 3) := by decide +kernel
theorem dX5_storeFirst_128 : decode cX5_storeFirst 128 = .ok (.iload_n 3, 1) := by decide +kernel
theorem dX5_storeFirst_129 : decode cX5_storeFirst 129 = .ok (.if_icmp .le 13, 3) := by decide +kernel
theorem dX5_storeFirst_132 : decode cX5_storeFirst 132 = .ok (.aload_n 0, 1) := by decide +kernel
theorem dX5_storeFirst_133 : decode cX5_storeFirst 133 = .ok (.dup, 1) := by decide +kernel
theorem dX5_storeFirst_134 : decode cX5_storeFirst 134 = .ok (.getfield 73, 3) := by decide +kernel
theorem dX5_storeFirst_137 : decode cX5_storeFirst 137 = .ok (.iconst 1, 1) := by decide +kernel
theorem dX5_storeFirst_138 : decode cX5_storeFirst 138 = .ok (.iadd, 1) := by decide +kernel
theorem dX5_storeFirst_139 : decode cX5_storeFirst 139 = .ok (.putfield 73, 3) := by decide +kernel
theorem dX5_storeFirst_142 : decode cX5_storeFirst 142 = .ok (.return_, 1) := by decide +kernel
set_option maxRecDepth 20000 in
theorem ggX5_makeRoomForFirst_X5_firstLacksBlocks : GoodIn wsX5_makeRoomForFirst wsX5_firstLacksBlocks := goodIn_r _ [6, 7, 8, 9, 10, 11, 12, 13, 14, 15, 57, 58, 59, 60, 61, 62, 63, 64, 65, 66, 67, 68, 69, 70, 71, 72, 73] (by decide +kernel) (by decide +kernel)
set_option maxRecDepth 20000 in
theorem gX5_makeRoomForFirst_X5_firstLacksBlocks : GoodIn wsX5_makeRoomForFirst (wsV RX5 127 RX5 yX5_firstLacksBlocks wsX5_firstLacksBlocks) := goodIn_app (goodIn_of _ (by decide +kernel)) ggX5_makeRoomForFirst_X5_firstLacksBlocks
set_option maxRecDepth 20000 in
theorem ggX5_makeRoomForFirst_X5_leastChanged : GoodIn wsX5_makeRoomForFirst wsX5_leastChanged := goodIn_r _ [19, 1, 9, 10, 11, 12, 13, 14, 15, 57, 58, 59, 60, 61, 62, 63, 64, 65, 66, 67, 68, 69] (by decide +kernel) (by decide +kernel)
set_option maxRecDepth 20000 in
theorem gX5_makeRoomForFirst_X5_leastChanged : GoodIn wsX5_makeRoomForFirst (wsV RX5 131 RX5 yX5_leastChanged wsX5_leastChanged) := goodIn_app (goodIn_of _ (by decide +kernel)) ggX5_makeRoomForFirst_X5_leastChanged
set_option maxRecDepth 20000 in
theorem ggX5_makeRoomForFirst_X5_dropKept : GoodIn wsX5_makeRoomForFirst wsX5_dropKept := goodIn_r _ [23, 8, 1, 24, 9, 10, 11, 12, 13, 14, 15, 25, 26, 27, 28, 29, 30, 31, 32, 33, 34, 35, 36, 37, 38, 39, 40, 41, 42, 43, 44, 45, 46, 47, 48, 49, 50, 51, 52, 53, 54, 55, 56, 57, 58, 59, 60, 61, 62, 63, 64, 65, 66, 67, 68, 69, 70, 71, 72, 73] (by decide +kernel) (by decide +kernel)
set_option maxRecDepth 20000 in
theorem gX5_makeRoomForFirst_X5_dropKept : GoodIn wsX5_makeRoomForFirst (wsV RX5 134 RX5 yX5_dropKept wsX5_dropKept) := goodIn_app (goodIn_of _ (by decide +kernel)) ggX5_makeRoomForFirst_X5_dropKept
theorem dX5_makeRoomForFirst_0 : decode cX5_makeRoomForFirst 0 = .ok (.iconst 0, 1) := by decide +kernel
theorem dX5_makeRoomForFirst_1 : decode cX5_makeRoomForFirst 1 = .ok (.istore_n 1, 1) := by decide +kernel
theorem dX5_makeRoomForFirst_2 : decode cX5_makeRoomForFirst 2 = .ok (.iload_n 1, 1) := by decide +kernel
theorem dX5_makeRoomForFirst_3 : decode cX5_makeRoomForFirst 3 = .ok (.bipush 48, 2) := by decide +kernel
theorem dX5_makeRoomForFirst_5 : decode cX5_makeRoomForFirst 5 = .ok (.if_icmp .ge 35, 3) := by decide +kernel
theorem dX5_makeRoomForFirst_8 : decode cX5_makeRoomForFirst 8 = .ok (.aload_n 0, 1) := by decide +kernel
theorem dX5_makeRoomForFirst_9 : decode cX5_makeRoomForFirst 9 = .ok (.getfield 27, 3) := by decide +kernel
theorem dX5_makeRoomForFirst_12 : decode cX5_makeRoomForFirst 12 = .ok (.getfield 55, 3) := by decide +kernel
theorem dX5_makeRoomForFirst_15 : decode cX5_makeRoomForFirst 15 = .ok (.ifCond .le 25, 3) := by decide +kernel
theorem dX5_makeRoomForFirst_18 : decode cX5_makeRoomForFirst 18 = .ok (.aload_n 0, 1) := by decide +kernel
theorem dX5_makeRoomForFirst_19 : decode cX5_makeRoomForFirst 19 = .ok (.invokevirtual 127, 3) := by decide +kernel
theorem dX5_makeRoomForFirst_22 : decode cX5_makeRoomForFirst 22 = .ok (.ifCond .eq 18, 3) := by decide +kernel
theorem dX5_makeRoomForFirst_25 : decode cX5_makeRoomForFirst 25 = .ok (.aload_n 0, 1) := by decide +kernel
theorem dX5_makeRoomForFirst_26 : decode cX5_makeRoomForFirst 26 = .ok (.aload_n 0, 1) := by decide +kernel
theorem dX5_makeRoomForFirst_27 : decode cX5_makeRoomForFirst 27 = .ok (.invokevirtual 131, 3) := by decide +kernel
theorem dX5_makeRoomForFirst_30 : decode cX5_makeRoomForFirst 30 = .ok (.invokevirtual 134, 3) := by decide +kernel
theorem dX5_makeRoomForFirst_33 : decode cX5_makeRoomForFirst 33 = .ok (.pop, 1) := by decide +kernel
theorem dX5_makeRoomForFirst_34 : decode cX5_makeRoomForFirst 34 = .ok (.iinc 1 1, 3) := by decide +kernel
theorem dX5_makeRoomForFirst_37 : decode cX5_makeRoomForFirst 37 = .ok (.goto (-35), 3) := by decide +kernel
theorem dX5_makeRoomForFirst_40 : decode cX5_makeRoomForFirst 40 = .ok (.return_, 1) := by decide +kernel
set_option maxRecDepth 20000 in
theorem ggX5_firstLacksBlocks_X1_get : GoodIn wsX5_firstLacksBlocks wsX1_get := goodIn_r _ [7, 8, 9, 21, 22] (by decide +kernel) (by decide +kernel)
set_option maxRecDepth 20000 in
theorem gX5_firstLacksBlocks_X1_get : GoodIn wsX5_firstLacksBlocks (wsV RX5 105 RX1 yX1_get wsX1_get) := goodIn_app (goodIn_of _ (by decide +kernel)) ggX5_firstLacksBlocks_X1_get
theorem dX5_firstLacksBlocks_0 : decode cX5_firstLacksBlocks 0 = .ok (.aload_n 0, 1) := by decide +kernel
theorem dX5_firstLacksBlocks_1 : decode cX5_firstLacksBlocks 1 = .ok (.getfield 31, 3) := by decide +kernel
theorem dX5_firstLacksBlocks_4 : decode cX5_firstLacksBlocks 4 = .ok (.getfield 55, 3) := by decide +kernel
theorem dX5_firstLacksBlocks_7 : decode cX5_firstLacksBlocks 7 = .ok (.ifCond .le 34, 3) := by decide +kernel
theorem dX5_firstLacksBlocks_10 : decode cX5_firstLacksBlocks 10 = .ok (.aload_n 0, 1) := by decide +kernel
theorem dX5_firstLacksBlocks_11 : decode cX5_firstLacksBlocks 11 = .ok (.getfield 18, 3) := by decide +kernel
theorem dX5_firstLacksBlocks_14 : decode cX5_firstLacksBlocks 14 = .ok (.getfield 102, 3) := by decide +kernel
theorem dX5_firstLacksBlocks_17 : decode cX5_firstLacksBlocks 17 = .ok (.aload_n 0, 1) := by decide +kernel
theorem dX5_firstLacksBlocks_18 : decode cX5_firstLacksBlocks 18 = .ok (.getfield 18, 3) := by decide +kernel
theorem dX5_firstLacksBlocks_21 : decode cX5_firstLacksBlocks 21 = .ok (.getfield 138, 3) := by decide +kernel
theorem dX5_firstLacksBlocks_24 : decode cX5_firstLacksBlocks 24 = .ok (.iadd, 1) := by decide +kernel
theorem dX5_firstLacksBlocks_25 : decode cX5_firstLacksBlocks 25 = .ok (.aload_n 0, 1) := by decide +kernel
theorem dX5_firstLacksBlocks_26 : decode cX5_firstLacksBlocks 26 = .ok (.getfield 31, 3) := by decide +kernel
theorem dX5_firstLacksBlocks_29 : decode cX5_firstLacksBlocks 29 = .ok (.iconst 0, 1) := by decide +kernel
theorem dX5_firstLacksBlocks_30 : decode cX5_firstLacksBlocks 30 = .ok (.iconst 2, 1) := by decide +kernel
theorem dX5_firstLacksBlocks_31 : decode cX5_firstLacksBlocks 31 = .ok (.invokevirtual 105, 3) := by decide +kernel
theorem dX5_firstLacksBlocks_34 : decode cX5_firstLacksBlocks 34 = .ok (.if_icmp .ge 7, 3) := by decide +kernel
theorem dX5_firstLacksBlocks_37 : decode cX5_firstLacksBlocks 37 = .ok (.iconst 1, 1) := by decide +kernel
theorem dX5_firstLacksBlocks_38 : decode cX5_firstLacksBlocks 38 = .ok (.goto 4, 3) := by decide +kernel
theorem dX5_firstLacksBlocks_41 : decode cX5_firstLacksBlocks 41 = .ok (.iconst 0, 1) := by decide +kernel
theorem dX5_firstLacksBlocks_42 : decode cX5_firstLacksBlocks 42 = .ok (.ireturn, 1) := by decide +kernel
set_option maxRecDepth 20000 in
theorem ggX5_endTick_X3_end : GoodIn wsX5_endTick wsX3_end := goodIn_r _ [9, 10, 11, 12, 13, 14, 8, 15, 16, 17, 18, 19, 20, 21, 22, 23, 24, 25, 26, 27, 28, 40, 41, 42, 43, 44, 45, 46] (by decide +kernel) (by decide +kernel)
set_option maxRecDepth 20000 in
theorem gX5_endTick_X3_end : GoodIn wsX5_endTick (wsV RX5 142 RX3 yX3_end wsX3_end) := goodIn_app (goodIn_of _ (by decide +kernel)) ggX5_endTick_X3_end
theorem dX5_endTick_0 : decode cX5_endTick 0 = .ok (.aload_n 0, 1) := by decide +kernel
theorem dX5_endTick_1 : decode cX5_endTick 1 = .ok (.dup, 1) := by decide +kernel
theorem dX5_endTick_2 : decode cX5_endTick 2 = .ok (.getfield 61, 3) := by decide +kernel
theorem dX5_endTick_5 : decode cX5_endTick 5 = .ok (.iconst 1, 1) := by decide +kernel
theorem dX5_endTick_6 : decode cX5_endTick 6 = .ok (.iadd, 1) := by decide +kernel
theorem dX5_endTick_7 : decode cX5_endTick 7 = .ok (.putfield 61, 3) := by decide +kernel
theorem dX5_endTick_10 : decode cX5_endTick 10 = .ok (.aload_n 0, 1) := by decide +kernel
theorem dX5_endTick_11 : decode cX5_endTick 11 = .ok (.getfield 37, 3) := by decide +kernel
theorem dX5_endTick_14 : decode cX5_endTick 14 = .ok (.dup, 1) := by decide +kernel
theorem dX5_endTick_15 : decode cX5_endTick 15 = .ok (.getfield 141, 3) := by decide +kernel
theorem dX5_endTick_18 : decode cX5_endTick 18 = .ok (.iconst 1, 1) := by decide +kernel
theorem dX5_endTick_19 : decode cX5_endTick 19 = .ok (.iadd, 1) := by decide +kernel
theorem dX5_endTick_20 : decode cX5_endTick 20 = .ok (.putfield 141, 3) := by decide +kernel
theorem dX5_endTick_23 : decode cX5_endTick 23 = .ok (.aload_n 0, 1) := by decide +kernel
theorem dX5_endTick_24 : decode cX5_endTick 24 = .ok (.getfield 37, 3) := by decide +kernel
theorem dX5_endTick_27 : decode cX5_endTick 27 = .ok (.getfield 141, 3) := by decide +kernel
theorem dX5_endTick_30 : decode cX5_endTick 30 = .ok (.aload_n 0, 1) := by decide +kernel
theorem dX5_endTick_31 : decode cX5_endTick 31 = .ok (.getfield 9, 3) := by decide +kernel
theorem dX5_endTick_34 : decode cX5_endTick 34 = .ok (.iconst 2, 1) := by decide +kernel
theorem dX5_endTick_35 : decode cX5_endTick 35 = .ok (.iaload, 1) := by decide +kernel
theorem dX5_endTick_36 : decode cX5_endTick 36 = .ok (.if_icmp .lt 31, 3) := by decide +kernel
theorem dX5_endTick_39 : decode cX5_endTick 39 = .ok (.aload_n 0, 1) := by decide +kernel
theorem dX5_endTick_40 : decode cX5_endTick 40 = .ok (.getfield 37, 3) := by decide +kernel
theorem dX5_endTick_43 : decode cX5_endTick 43 = .ok (.aload_n 0, 1) := by decide +kernel
theorem dX5_endTick_44 : decode cX5_endTick 44 = .ok (.getfield 9, 3) := by decide +kernel
theorem dX5_endTick_47 : decode cX5_endTick 47 = .ok (.iconst 1, 1) := by decide +kernel
theorem dX5_endTick_48 : decode cX5_endTick 48 = .ok (.iaload, 1) := by decide +kernel
theorem dX5_endTick_49 : decode cX5_endTick 49 = .ok (.aload_n 0, 1) := by decide +kernel
theorem dX5_endTick_50 : decode cX5_endTick 50 = .ok (.getfield 31, 3) := by decide +kernel
theorem dX5_endTick_53 : decode cX5_endTick 53 = .ok (.getfield 55, 3) := by decide +kernel
theorem dX5_endTick_56 : decode cX5_endTick 56 = .ok (.ifCond .le 7, 3) := by decide +kernel
theorem dX5_endTick_59 : decode cX5_endTick 59 = .ok (.iconst 1, 1) := by decide +kernel
theorem dX5_endTick_60 : decode cX5_endTick 60 = .ok (.goto 4, 3) := by decide +kernel
theorem dX5_endTick_63 : decode cX5_endTick 63 = .ok (.iconst 0, 1) := by decide +kernel
theorem dX5_endTick_64 : decode cX5_endTick 64 = .ok (.invokevirtual 142, 3) := by decide +kernel
theorem dX5_endTick_67 : decode cX5_endTick 67 = .ok (.return_, 1) := by decide +kernel
set_option maxRecDepth 20000 in
theorem ggX5_leastChanged_X1_get : GoodIn wsX5_leastChanged wsX1_get := goodIn_r _ [6, 7, 8, 20, 21] (by decide +kernel) (by decide +kernel)
set_option maxRecDepth 20000 in
theorem gX5_leastChanged_X1_get : GoodIn wsX5_leastChanged (wsV RX5 105 RX1 yX1_get wsX1_get) := goodIn_app (goodIn_of _ (by decide +kernel)) ggX5_leastChanged_X1_get
theorem dX5_leastChanged_0 : decode cX5_leastChanged 0 = .ok (.aload_n 0, 1) := by decide +kernel
theorem dX5_leastChanged_1 : decode cX5_leastChanged 1 = .ok (.getfield 27, 3) := by decide +kernel
theorem dX5_leastChanged_4 : decode cX5_leastChanged 4 = .ok (.getfield 55, 3) := by decide +kernel
theorem dX5_leastChanged_7 : decode cX5_leastChanged 7 = .ok (.iconst 1, 1) := by decide +kernel
theorem dX5_leastChanged_8 : decode cX5_leastChanged 8 = .ok (.if_icmp .gt 13, 3) := by decide +kernel
theorem dX5_leastChanged_11 : decode cX5_leastChanged 11 = .ok (.aload_n 0, 1) := by decide +kernel
theorem dX5_leastChanged_12 : decode cX5_leastChanged 12 = .ok (.getfield 27, 3) := by decide +kernel
theorem dX5_leastChanged_15 : decode cX5_leastChanged 15 = .ok (.getfield 55, 3) := by decide +kernel
theorem dX5_leastChanged_18 : decode cX5_leastChanged 18 = .ok (.iconst 1, 1) := by decide +kernel
theorem dX5_leastChanged_19 : decode cX5_leastChanged 19 = .ok (.isub, 1) := by decide +kernel
theorem dX5_leastChanged_20 : decode cX5_leastChanged 20 = .ok (.ireturn, 1) := by decide +kernel
theorem dX5_leastChanged_21 : decode cX5_leastChanged 21 = .ok (.iconst 1, 1) := by decide +kernel
theorem dX5_leastChanged_22 : decode cX5_leastChanged 22 = .ok (.istore_n 1, 1) := by decide +kernel
theorem dX5_leastChanged_23 : decode cX5_leastChanged 23 = .ok (.iconst 2, 1) := by decide +kernel
theorem dX5_leastChanged_24 : decode cX5_leastChanged 24 = .ok (.istore_n 2, 1) := by decide +kernel
theorem dX5_leastChanged_25 : decode cX5_leastChanged 25 = .ok (.iload_n 2, 1) := by decide +kernel
theorem dX5_leastChanged_26 : decode cX5_leastChanged 26 = .ok (.bipush 48, 2) := by decide +kernel
theorem dX5_leastChanged_28 : decode cX5_leastChanged 28 = .ok (.if_icmp .ge 43, 3) := by decide +kernel
theorem dX5_leastChanged_31 : decode cX5_leastChanged 31 = .ok (.iload_n 2, 1) := by decide +kernel
theorem dX5_leastChanged_32 : decode cX5_leastChanged 32 = .ok (.aload_n 0, 1) := by decide +kernel
theorem dX5_leastChanged_33 : decode cX5_leastChanged 33 = .ok (.getfield 27, 3) := by decide +kernel
theorem dX5_leastChanged_36 : decode cX5_leastChanged 36 = .ok (.getfield 55, 3) := by decide +kernel
theorem dX5_leastChanged_39 : decode cX5_leastChanged 39 = .ok (.if_icmp .ge 32, 3) := by decide +kernel
theorem dX5_leastChanged_42 : decode cX5_leastChanged 42 = .ok (.aload_n 0, 1) := by decide +kernel
theorem dX5_leastChanged_43 : decode cX5_leastChanged 43 = .ok (.getfield 27, 3) := by decide +kernel
theorem dX5_leastChanged_46 : decode cX5_leastChanged 46 = .ok (.iload_n 2, 1) := by decide +kernel
theorem dX5_leastChanged_47 : decode cX5_leastChanged 47 = .ok (.iconst 4, 1) := by decide +kernel
theorem dX5_leastChanged_48 : decode cX5_leastChanged 48 = .ok (.invokevirtual 105, 3) := by decide +kernel
theorem dX5_leastChanged_51 : decode cX5_leastChanged 51 = .ok (.aload_n 0, 1) := by decide +kernel
theorem dX5_leastChanged_52 : decode cX5_leastChanged 52 = .ok (.getfield 27, 3) := by decide +kernel
theorem dX5_leastChanged_55 : decode cX5_leastChanged 55 = .ok (.iload_n 1, 1) := by decide +kernel
theorem dX5_leastChanged_56 : decode cX5_leastChanged 56 = .ok (.iconst 4, 1) := by decide +kernel
theorem dX5_leastChanged_57 : decode cX5_leastChanged 57 = .ok (.invokevirtual 105, 3) := by decide +kernel
theorem dX5_leastChanged_60 : decode cX5_leastChanged 60 = .ok (.if_icmp .ge 5, 3) := by decide +kernel
theorem dX5_leastChanged_63 : decode cX5_leastChanged 63 = .ok (.iload_n 2, 1) := by decide +kernel
theorem dX5_leastChanged_64 : decode cX5_leastChanged 64 = .ok (.istore_n 1, 1) := by decide +kernel
theorem dX5_leastChanged_65 : decode cX5_leastChanged 65 = .ok (.iinc 2 1, 3) := by decide +kernel
theorem dX5_leastChanged_68 : decode cX5_leastChanged 68 = .ok (.goto (-43), 3) := by decide +kernel
theorem dX5_leastChanged_71 : decode cX5_leastChanged 71 = .ok (.iload_n 1, 1) := by decide +kernel
theorem dX5_leastChanged_72 : decode cX5_leastChanged 72 = .ok (.ireturn, 1) := by decide +kernel
set_option maxRecDepth 20000 in
theorem ggX5_dropKept_X1_get : GoodIn wsX5_dropKept wsX1_get := goodIn_r _ [8, 9, 10, 54, 55] (by decide +kernel) (by decide +kernel)
set_option maxRecDepth 20000 in
theorem gX5_dropKept_X1_get : GoodIn wsX5_dropKept (wsV RX5 105 RX1 yX1_get wsX1_get) := goodIn_app (goodIn_of _ (by decide +kernel)) ggX5_dropKept_X1_get
set_option maxRecDepth 20000 in
theorem ggX5_dropKept_X0_soil : GoodIn wsX5_dropKept wsX0_soil := goodIn_r _ [15, 16, 17, 18, 56, 57, 58, 59] (by decide +kernel) (by decide +kernel)
set_option maxRecDepth 20000 in
theorem gX5_dropKept_X0_soil : GoodIn wsX5_dropKept (wsV RX5 146 RX0 yX0_soil wsX0_soil) := goodIn_app (goodIn_of _ (by decide +kernel)) ggX5_dropKept_X0_soil
set_option maxRecDepth 20000 in
theorem ggX5_dropKept_X1_remove : GoodIn wsX5_dropKept wsX1_remove := goodIn_r _ [22, 9, 10, 23, 24, 25, 26, 27, 28, 29, 7, 30, 54, 55] (by decide +kernel) (by decide +kernel)
set_option maxRecDepth 20000 in
theorem gX5_dropKept_X1_remove : GoodIn wsX5_dropKept (wsV RX5 121 RX1 yX1_remove wsX1_remove) := goodIn_app (goodIn_of _ (by decide +kernel)) ggX5_dropKept_X1_remove
set_option maxRecDepth 20000 in
theorem ggX5_dropKept_X1_measureChange : GoodIn wsX5_dropKept wsX1_measureChange := goodIn_r _ [34, 35, 36, 37, 7, 38, 9, 10, 27, 28, 29, 30, 39, 5, 6, 8, 40, 41, 42, 54, 55] (by decide +kernel) (by decide +kernel)
set_option maxRecDepth 20000 in
theorem gX5_dropKept_X1_measureChange : GoodIn wsX5_dropKept (wsV RX5 111 RX1 yX1_measureChange wsX1_measureChange) := goodIn_app (goodIn_of _ (by decide +kernel)) ggX5_dropKept_X1_measureChange
theorem dX5_dropKept_0 : decode cX5_dropKept 0 = .ok (.aload_n 0, 1) := by decide +kernel
theorem dX5_dropKept_1 : decode cX5_dropKept 1 = .ok (.getfield 18, 3) := by decide +kernel
theorem dX5_dropKept_4 : decode cX5_dropKept 4 = .ok (.aload_n 0, 1) := by decide +kernel
theorem dX5_dropKept_5 : decode cX5_dropKept 5 = .ok (.getfield 27, 3) := by decide +kernel
theorem dX5_dropKept_8 : decode cX5_dropKept 8 = .ok (.iload_n 1, 1) := by decide +kernel
theorem dX5_dropKept_9 : decode cX5_dropKept 9 = .ok (.iconst 0, 1) := by decide +kernel
theorem dX5_dropKept_10 : decode cX5_dropKept 10 = .ok (.invokevirtual 105, 3) := by decide +kernel
theorem dX5_dropKept_13 : decode cX5_dropKept 13 = .ok (.invokevirtual 146, 3) := by decide +kernel
theorem dX5_dropKept_16 : decode cX5_dropKept 16 = .ok (.istore_n 2, 1) := by decide +kernel
theorem dX5_dropKept_17 : decode cX5_dropKept 17 = .ok (.aload_n 0, 1) := by decide +kernel
theorem dX5_dropKept_18 : decode cX5_dropKept 18 = .ok (.getfield 27, 3) := by decide +kernel
theorem dX5_dropKept_21 : decode cX5_dropKept 21 = .ok (.iload_n 1, 1) := by decide +kernel
theorem dX5_dropKept_22 : decode cX5_dropKept 22 = .ok (.invokevirtual 121, 3) := by decide +kernel
theorem dX5_dropKept_25 : decode cX5_dropKept 25 = .ok (.aload_n 0, 1) := by decide +kernel
theorem dX5_dropKept_26 : decode cX5_dropKept 26 = .ok (.getfield 27, 3) := by decide +kernel
theorem dX5_dropKept_29 : decode cX5_dropKept 29 = .ok (.iload_n 1, 1) := by decide +kernel
theorem dX5_dropKept_30 : decode cX5_dropKept 30 = .ok (.invokevirtual 111, 3) := by decide +kernel
theorem dX5_dropKept_33 : decode cX5_dropKept 33 = .ok (.aload_n 0, 1) := by decide +kernel
theorem dX5_dropKept_34 : decode cX5_dropKept 34 = .ok (.dup, 1) := by decide +kernel
theorem dX5_dropKept_35 : decode cX5_dropKept 35 = .ok (.getfield 67, 3) := by decide +kernel
theorem dX5_dropKept_38 : decode cX5_dropKept 38 = .ok (.iconst 1, 1) := by decide +kernel
theorem dX5_dropKept_39 : decode cX5_dropKept 39 = .ok (.iadd, 1) := by decide +kernel
theorem dX5_dropKept_40 : decode cX5_dropKept 40 = .ok (.putfield 67, 3) := by decide +kernel
theorem dX5_dropKept_43 : decode cX5_dropKept 43 = .ok (.iload_n 2, 1) := by decide +kernel
theorem dX5_dropKept_44 : decode cX5_dropKept 44 = .ok (.ireturn, 1) := by decide +kernel
set_option maxRecDepth 20000 in
theorem ggX5_dropAll_X0_begin : GoodIn wsX5_dropAll wsX0_begin := goodIn_r _ [9, 10, 11, 12, 13, 27, 28, 29, 30] (by decide +kernel) (by decide +kernel)
set_option maxRecDepth 20000 in
theorem gX5_dropAll_X0_begin : GoodIn wsX5_dropAll (wsV RX5 54 RX0 yX0_begin wsX0_begin) := goodIn_app (goodIn_of _ (by decide +kernel)) ggX5_dropAll_X0_begin
theorem dX5_dropAll_0 : decode cX5_dropAll 0 = .ok (.aload_n 0, 1) := by decide +kernel
theorem dX5_dropAll_1 : decode cX5_dropAll 1 = .ok (.getfield 27, 3) := by decide +kernel
theorem dX5_dropAll_4 : decode cX5_dropAll 4 = .ok (.getfield 55, 3) := by decide +kernel
theorem dX5_dropAll_7 : decode cX5_dropAll 7 = .ok (.aload_n 0, 1) := by decide +kernel
theorem dX5_dropAll_8 : decode cX5_dropAll 8 = .ok (.getfield 31, 3) := by decide +kernel
theorem dX5_dropAll_11 : decode cX5_dropAll 11 = .ok (.getfield 55, 3) := by decide +kernel
theorem dX5_dropAll_14 : decode cX5_dropAll 14 = .ok (.iadd, 1) := by decide +kernel
theorem dX5_dropAll_15 : decode cX5_dropAll 15 = .ok (.istore_n 2, 1) := by decide +kernel
theorem dX5_dropAll_16 : decode cX5_dropAll 16 = .ok (.aload_n 0, 1) := by decide +kernel
theorem dX5_dropAll_17 : decode cX5_dropAll 17 = .ok (.aload_n 0, 1) := by decide +kernel
theorem dX5_dropAll_18 : decode cX5_dropAll 18 = .ok (.getfield 67, 3) := by decide +kernel
theorem dX5_dropAll_21 : decode cX5_dropAll 21 = .ok (.iload_n 2, 1) := by decide +kernel
theorem dX5_dropAll_22 : decode cX5_dropAll 22 = .ok (.iadd, 1) := by decide +kernel
theorem dX5_dropAll_23 : decode cX5_dropAll 23 = .ok (.putfield 67, 3) := by decide +kernel
theorem dX5_dropAll_26 : decode cX5_dropAll 26 = .ok (.aload_n 0, 1) := by decide +kernel
theorem dX5_dropAll_27 : decode cX5_dropAll 27 = .ok (.getfield 27, 3) := by decide +kernel
theorem dX5_dropAll_30 : decode cX5_dropAll 30 = .ok (.iconst 0, 1) := by decide +kernel
theorem dX5_dropAll_31 : decode cX5_dropAll 31 = .ok (.putfield 55, 3) := by decide +kernel
theorem dX5_dropAll_34 : decode cX5_dropAll 34 = .ok (.aload_n 0, 1) := by decide +kernel
theorem dX5_dropAll_35 : decode cX5_dropAll 35 = .ok (.getfield 31, 3) := by decide +kernel
theorem dX5_dropAll_38 : decode cX5_dropAll 38 = .ok (.iconst 0, 1) := by decide +kernel
theorem dX5_dropAll_39 : decode cX5_dropAll 39 = .ok (.putfield 55, 3) := by decide +kernel
theorem dX5_dropAll_42 : decode cX5_dropAll 42 = .ok (.aload_n 0, 1) := by decide +kernel
theorem dX5_dropAll_43 : decode cX5_dropAll 43 = .ok (.getfield 18, 3) := by decide +kernel
theorem dX5_dropAll_46 : decode cX5_dropAll 46 = .ok (.iload_n 1, 1) := by decide +kernel
theorem dX5_dropAll_47 : decode cX5_dropAll 47 = .ok (.invokevirtual 54, 3) := by decide +kernel
theorem dX5_dropAll_50 : decode cX5_dropAll 50 = .ok (.iload_n 2, 1) := by decide +kernel
theorem dX5_dropAll_51 : decode cX5_dropAll 51 = .ok (.ireturn, 1) := by decide +kernel
theorem dX5_change_0 : decode cX5_change 0 = .ok (.iload_n 1, 1) := by decide +kernel
theorem dX5_change_1 : decode cX5_change 1 = .ok (.ifCond .lt 8, 3) := by decide +kernel
theorem dX5_change_4 : decode cX5_change 4 = .ok (.iload_n 1, 1) := by decide +kernel
theorem dX5_change_5 : decode cX5_change 5 = .ok (.iconst 3, 1) := by decide +kernel
theorem dX5_change_6 : decode cX5_change 6 = .ok (.if_icmp .lt 5, 3) := by decide +kernel
theorem dX5_change_9 : decode cX5_change 9 = .ok (.iconst (-1), 1) := by decide +kernel
theorem dX5_change_10 : decode cX5_change 10 = .ok (.ireturn, 1) := by decide +kernel
theorem dX5_change_11 : decode cX5_change 11 = .ok (.aload_n 0, 1) := by decide +kernel
theorem dX5_change_12 : decode cX5_change 12 = .ok (.getfield 9, 3) := by decide +kernel
theorem dX5_change_15 : decode cX5_change 15 = .ok (.iload_n 1, 1) := by decide +kernel
theorem dX5_change_16 : decode cX5_change 16 = .ok (.iaload, 1) := by decide +kernel
theorem dX5_change_17 : decode cX5_change 17 = .ok (.istore_n 3, 1) := by decide +kernel
theorem dX5_change_18 : decode cX5_change 18 = .ok (.aload_n 0, 1) := by decide +kernel
theorem dX5_change_19 : decode cX5_change 19 = .ok (.getfield 9, 3) := by decide +kernel
theorem dX5_change_22 : decode cX5_change 22 = .ok (.iload_n 1, 1) := by decide +kernel
theorem dX5_change_23 : decode cX5_change 23 = .ok (.iload_n 2, 1) := by decide +kernel
theorem dX5_change_24 : decode cX5_change 24 = .ok (.iastore, 1) := by decide +kernel
theorem dX5_change_25 : decode cX5_change 25 = .ok (.iload_n 3, 1) := by decide +kernel
theorem dX5_change_26 : decode cX5_change 26 = .ok (.ireturn, 1) := by decide +kernel
set_option maxRecDepth 20000 in
theorem ggX5_keeps_X1_get : GoodIn wsX5_keeps wsX1_get := goodIn_r _ [6, 7, 8, 20, 21] (by decide +kernel) (by decide +kernel)
set_option maxRecDepth 20000 in
theorem gX5_keeps_X1_get : GoodIn wsX5_keeps (wsV RX5 105 RX1 yX1_get wsX1_get) := goodIn_app (goodIn_of _ (by decide +kernel)) ggX5_keeps_X1_get
theorem dX5_keeps_0 : decode cX5_keeps 0 = .ok (.iconst 0, 1) := by decide +kernel
theorem dX5_keeps_1 : decode cX5_keeps 1 = .ok (.istore_n 2, 1) := by decide +kernel
theorem dX5_keeps_2 : decode cX5_keeps 2 = .ok (.iload_n 2, 1) := by decide +kernel
theorem dX5_keeps_3 : decode cX5_keeps 3 = .ok (.bipush 48, 2) := by decide +kernel
theorem dX5_keeps_5 : decode cX5_keeps 5 = .ok (.if_icmp .ge 35, 3) := by decide +kernel
theorem dX5_keeps_8 : decode cX5_keeps 8 = .ok (.iload_n 2, 1) := by decide +kernel
theorem dX5_keeps_9 : decode cX5_keeps 9 = .ok (.aload_n 0, 1) := by decide +kernel
theorem dX5_keeps_10 : decode cX5_keeps 10 = .ok (.getfield 27, 3) := by decide +kernel
theorem dX5_keeps_13 : decode cX5_keeps 13 = .ok (.getfield 55, 3) := by decide +kernel
theorem dX5_keeps_16 : decode cX5_keeps 16 = .ok (.if_icmp .ge 24, 3) := by decide +kernel
theorem dX5_keeps_19 : decode cX5_keeps 19 = .ok (.aload_n 0, 1) := by decide +kernel
theorem dX5_keeps_20 : decode cX5_keeps 20 = .ok (.getfield 27, 3) := by decide +kernel
theorem dX5_keeps_23 : decode cX5_keeps 23 = .ok (.iload_n 2, 1) := by decide +kernel
theorem dX5_keeps_24 : decode cX5_keeps 24 = .ok (.iconst 0, 1) := by decide +kernel
theorem dX5_keeps_25 : decode cX5_keeps 25 = .ok (.invokevirtual 105, 3) := by decide +kernel
theorem dX5_keeps_28 : decode cX5_keeps 28 = .ok (.iload_n 1, 1) := by decide +kernel
theorem dX5_keeps_29 : decode cX5_keeps 29 = .ok (.if_icmp .ne 5, 3) := by decide +kernel
theorem dX5_keeps_32 : decode cX5_keeps 32 = .ok (.iconst 1, 1) := by decide +kernel
theorem dX5_keeps_33 : decode cX5_keeps 33 = .ok (.ireturn, 1) := by decide +kernel
theorem dX5_keeps_34 : decode cX5_keeps 34 = .ok (.iinc 2 1, 3) := by decide +kernel
theorem dX5_keeps_37 : decode cX5_keeps 37 = .ok (.goto (-35), 3) := by decide +kernel
theorem dX5_keeps_40 : decode cX5_keeps 40 = .ok (.iconst 0, 1) := by decide +kernel
theorem dX5_keeps_41 : decode cX5_keeps 41 = .ok (.ireturn, 1) := by decide +kernel
set_option maxRecDepth 20000 in
theorem ggX5_copyFrom_X0_copyFrom : GoodIn wsX5_copyFrom wsX0_copyFrom := goodIn_r _ [20, 21, 22, 3, 4, 5, 23, 24, 25, 58, 59, 60, 61] (by decide +kernel) (by decide +kernel)
set_option maxRecDepth 20000 in
theorem gX5_copyFrom_X0_copyFrom : GoodIn wsX5_copyFrom (wsV RX5 149 RX0 yX0_copyFrom wsX0_copyFrom) := goodIn_app (goodIn_of _ (by decide +kernel)) ggX5_copyFrom_X0_copyFrom
set_option maxRecDepth 20000 in
theorem ggX5_copyFrom_X1_copyFrom : GoodIn wsX5_copyFrom wsX1_copyFrom := goodIn_r _ [30, 31, 32, 33, 3, 4, 5, 62, 63] (by decide +kernel) (by decide +kernel)
set_option maxRecDepth 20000 in
theorem gX5_copyFrom_X1_copyFrom : GoodIn wsX5_copyFrom (wsV RX5 153 RX1 yX1_copyFrom wsX1_copyFrom) := goodIn_app (goodIn_of _ (by decide +kernel)) ggX5_copyFrom_X1_copyFrom
set_option maxRecDepth 20000 in
theorem ggX5_copyFrom_X3_copyFrom : GoodIn wsX5_copyFrom wsX3_copyFrom := goodIn_r _ [38, 39, 40, 3, 4, 5, 41, 42, 43, 44, 45, 46, 64, 65, 66, 67, 68, 69, 70] (by decide +kernel) (by decide +kernel)
set_option maxRecDepth 20000 in
theorem gX5_copyFrom_X3_copyFrom : GoodIn wsX5_copyFrom (wsV RX5 156 RX3 yX3_copyFrom wsX3_copyFrom) := goodIn_app (goodIn_of _ (by decide +kernel)) ggX5_copyFrom_X3_copyFrom
theorem dX5_copyFrom_0 : decode cX5_copyFrom 0 = .ok (.aload_n 1, 1) := by decide +kernel
theorem dX5_copyFrom_1 : decode cX5_copyFrom 1 = .ok (.getfield 9, 3) := by decide +kernel
theorem dX5_copyFrom_4 : decode cX5_copyFrom 4 = .ok (.iconst 0, 1) := by decide +kernel
theorem dX5_copyFrom_5 : decode cX5_copyFrom 5 = .ok (.aload_n 0, 1) := by decide +kernel
theorem dX5_copyFrom_6 : decode cX5_copyFrom 6 = .ok (.getfield 9, 3) := by decide +kernel
theorem dX5_copyFrom_9 : decode cX5_copyFrom 9 = .ok (.iconst 0, 1) := by decide +kernel
theorem dX5_copyFrom_10 : decode cX5_copyFrom 10 = .ok (.iconst 3, 1) := by decide +kernel
theorem dX5_copyFrom_11 : decode cX5_copyFrom 11 = .ok (.invokestatic 48, 3) := by decide +kernel
theorem dX5_copyFrom_14 : decode cX5_copyFrom 14 = .ok (.aload_n 0, 1) := by decide +kernel
theorem dX5_copyFrom_15 : decode cX5_copyFrom 15 = .ok (.getfield 18, 3) := by decide +kernel
theorem dX5_copyFrom_18 : decode cX5_copyFrom 18 = .ok (.aload_n 1, 1) := by decide +kernel
theorem dX5_copyFrom_19 : decode cX5_copyFrom 19 = .ok (.getfield 18, 3) := by decide +kernel
theorem dX5_copyFrom_22 : decode cX5_copyFrom 22 = .ok (.invokevirtual 149, 3) := by decide +kernel
theorem dX5_copyFrom_25 : decode cX5_copyFrom 25 = .ok (.aload_n 0, 1) := by decide +kernel
theorem dX5_copyFrom_26 : decode cX5_copyFrom 26 = .ok (.getfield 27, 3) := by decide +kernel
theorem dX5_copyFrom_29 : decode cX5_copyFrom 29 = .ok (.aload_n 1, 1) := by decide +kernel
theorem dX5_copyFrom_30 : decode cX5_copyFrom 30 = .ok (.getfield 27, 3) := by decide +kernel
theorem dX5_copyFrom_33 : decode cX5_copyFrom 33 = .ok (.invokevirtual 153, 3) := by decide +kernel
theorem dX5_copyFrom_36 : decode cX5_copyFrom 36 = .ok (.aload_n 0, 1) := by decide +kernel
theorem dX5_copyFrom_37 : decode cX5_copyFrom 37 = .ok (.getfield 31, 3) := by decide +kernel
theorem dX5_copyFrom_40 : decode cX5_copyFrom 40 = .ok (.aload_n 1, 1) := by decide +kernel
theorem dX5_copyFrom_41 : decode cX5_copyFrom 41 = .ok (.getfield 31, 3) := by decide +kernel
theorem dX5_copyFrom_44 : decode cX5_copyFrom 44 = .ok (.invokevirtual 153, 3) := by decide +kernel
theorem dX5_copyFrom_47 : decode cX5_copyFrom 47 = .ok (.aload_n 0, 1) := by decide +kernel
theorem dX5_copyFrom_48 : decode cX5_copyFrom 48 = .ok (.getfield 37, 3) := by decide +kernel
theorem dX5_copyFrom_51 : decode cX5_copyFrom 51 = .ok (.aload_n 1, 1) := by decide +kernel
theorem dX5_copyFrom_52 : decode cX5_copyFrom 52 = .ok (.getfield 37, 3) := by decide +kernel
theorem dX5_copyFrom_55 : decode cX5_copyFrom 55 = .ok (.invokevirtual 156, 3) := by decide +kernel
theorem dX5_copyFrom_58 : decode cX5_copyFrom 58 = .ok (.aload_n 0, 1) := by decide +kernel
theorem dX5_copyFrom_59 : decode cX5_copyFrom 59 = .ok (.aload_n 1, 1) := by decide +kernel
theorem dX5_copyFrom_60 : decode cX5_copyFrom 60 = .ok (.getfield 61, 3) := by decide +kernel
theorem dX5_copyFrom_63 : decode cX5_copyFrom 63 = .ok (.putfield 61, 3) := by decide +kernel
theorem dX5_copyFrom_66 : decode cX5_copyFrom 66 = .ok (.aload_n 0, 1) := by decide +kernel
theorem dX5_copyFrom_67 : decode cX5_copyFrom 67 = .ok (.aload_n 1, 1) := by decide +kernel
theorem dX5_copyFrom_68 : decode cX5_copyFrom 68 = .ok (.getfield 64, 3) := by decide +kernel
theorem dX5_copyFrom_71 : decode cX5_copyFrom 71 = .ok (.putfield 64, 3) := by decide +kernel
theorem dX5_copyFrom_74 : decode cX5_copyFrom 74 = .ok (.aload_n 0, 1) := by decide +kernel
theorem dX5_copyFrom_75 : decode cX5_copyFrom 75 = .ok (.aload_n 1, 1) := by decide +kernel
theorem dX5_copyFrom_76 : decode cX5_copyFrom 76 = .ok (.getfield 67, 3) := by decide +kernel
theorem dX5_copyFrom_79 : decode cX5_copyFrom 79 = .ok (.putfield 67, 3) := by decide +kernel
theorem dX5_copyFrom_82 : decode cX5_copyFrom 82 = .ok (.aload_n 0, 1) := by decide +kernel
theorem dX5_copyFrom_83 : decode cX5_copyFrom 83 = .ok (.aload_n 1, 1) := by decide +kernel
theorem dX5_copyFrom_84 : decode cX5_copyFrom 84 = .ok (.getfield 70, 3) := by decide +kernel
theorem dX5_copyFrom_87 : decode cX5_copyFrom 87 = .ok (.putfield 70, 3) := by decide +kernel
theorem dX5_copyFrom_90 : decode cX5_copyFrom 90 = .ok (.aload_n 0, 1) := by decide +kernel
theorem dX5_copyFrom_91 : decode cX5_copyFrom 91 = .ok (.aload_n 1, 1) := by decide +kernel
theorem dX5_copyFrom_92 : decode cX5_copyFrom 92 = .ok (.getfield 73, 3) := by decide +kernel
theorem dX5_copyFrom_95 : decode cX5_copyFrom 95 = .ok (.putfield 73, 3) := by decide +kernel
theorem dX5_copyFrom_98 : decode cX5_copyFrom 98 = .ok (.aload_n 0, 1) := by decide +kernel
theorem dX5_copyFrom_99 : decode cX5_copyFrom 99 = .ok (.aload_n 1, 1) := by decide +kernel
theorem dX5_copyFrom_100 : decode cX5_copyFrom 100 = .ok (.getfield 76, 3) := by decide +kernel
theorem dX5_copyFrom_103 : decode cX5_copyFrom 103 = .ok (.putfield 76, 3) := by decide +kernel
theorem dX5_copyFrom_106 : decode cX5_copyFrom 106 = .ok (.return_, 1) := by decide +kernel
theorem dX6_init_0 : decode cX6_init 0 = .ok (.aload_n 0, 1) := by decide +kernel
theorem dX6_init_1 : decode cX6_init 1 = .ok (.invokespecial 3, 3) := by decide +kernel
theorem dX6_init_4 : decode cX6_init 4 = .ok (.aload_n 0, 1) := by decide +kernel
theorem dX6_init_5 : decode cX6_init 5 = .ok (.bipush 120, 2) := by decide +kernel
theorem dX6_init_7 : decode cX6_init 7 = .ok (.newarray .char, 2) := by decide +kernel
theorem dX6_init_9 : decode cX6_init 9 = .ok (.putfield 9, 3) := by decide +kernel
theorem dX6_init_12 : decode cX6_init 12 = .ok (.return_, 1) := by decide +kernel
theorem dX6_add_0 : decode cX6_add 0 = .ok (.aload_n 0, 1) := by decide +kernel
theorem dX6_add_1 : decode cX6_add 1 = .ok (.getfield 15, 3) := by decide +kernel
theorem dX6_add_4 : decode cX6_add 4 = .ok (.ifCond .lt 33, 3) := by decide +kernel
theorem dX6_add_7 : decode cX6_add 7 = .ok (.aload_n 0, 1) := by decide +kernel
theorem dX6_add_8 : decode cX6_add 8 = .ok (.getfield 15, 3) := by decide +kernel
theorem dX6_add_11 : decode cX6_add 11 = .ok (.bipush 120, 2) := by decide +kernel
theorem dX6_add_13 : decode cX6_add 13 = .ok (.if_icmp .ge 24, 3) := by decide +kernel
theorem dX6_add_16 : decode cX6_add 16 = .ok (.aload_n 0, 1) := by decide +kernel
theorem dX6_add_17 : decode cX6_add 17 = .ok (.getfield 9, 3) := by decide +kernel
theorem dX6_add_20 : decode cX6_add 20 = .ok (.aload_n 0, 1) := by decide +kernel
theorem dX6_add_21 : decode cX6_add 21 = .ok (.getfield 15, 3) := by decide +kernel
theorem dX6_add_24 : decode cX6_add 24 = .ok (.iload_n 1, 1) := by decide +kernel
theorem dX6_add_25 : decode cX6_add 25 = .ok (.i2c, 1) := by decide +kernel
theorem dX6_add_26 : decode cX6_add 26 = .ok (.castore, 1) := by decide +kernel
theorem dX6_add_27 : decode cX6_add 27 = .ok (.aload_n 0, 1) := by decide +kernel
theorem dX6_add_28 : decode cX6_add 28 = .ok (.dup, 1) := by decide +kernel
theorem dX6_add_29 : decode cX6_add 29 = .ok (.getfield 15, 3) := by decide +kernel
theorem dX6_add_32 : decode cX6_add 32 = .ok (.iconst 1, 1) := by decide +kernel
theorem dX6_add_33 : decode cX6_add 33 = .ok (.iadd, 1) := by decide +kernel
theorem dX6_add_34 : decode cX6_add 34 = .ok (.putfield 15, 3) := by decide +kernel
theorem dX6_add_37 : decode cX6_add 37 = .ok (.return_, 1) := by decide +kernel
theorem dX6_signAt_0 : decode cX6_signAt 0 = .ok (.iload_n 1, 1) := by decide +kernel
theorem dX6_signAt_1 : decode cX6_signAt 1 = .ok (.ifCond .lt 26, 3) := by decide +kernel
theorem dX6_signAt_4 : decode cX6_signAt 4 = .ok (.iload_n 1, 1) := by decide +kernel
theorem dX6_signAt_5 : decode cX6_signAt 5 = .ok (.aload_n 0, 1) := by decide +kernel
theorem dX6_signAt_6 : decode cX6_signAt 6 = .ok (.getfield 15, 3) := by decide +kernel
theorem dX6_signAt_9 : decode cX6_signAt 9 = .ok (.if_icmp .ge 18, 3) := by decide +kernel
theorem dX6_signAt_12 : decode cX6_signAt 12 = .ok (.iload_n 1, 1) := by decide +kernel
theorem dX6_signAt_13 : decode cX6_signAt 13 = .ok (.bipush 120, 2) := by decide +kernel
theorem dX6_signAt_15 : decode cX6_signAt 15 = .ok (.if_icmp .ge 12, 3) := by decide +kernel
theorem dX6_signAt_18 : decode cX6_signAt 18 = .ok (.aload_n 0, 1) := by decide +kernel
theorem dX6_signAt_19 : decode cX6_signAt 19 = .ok (.getfield 9, 3) := by decide +kernel
theorem dX6_signAt_22 : decode cX6_signAt 22 = .ok (.iload_n 1, 1) := by decide +kernel
theorem dX6_signAt_23 : decode cX6_signAt 23 = .ok (.caload, 1) := by decide +kernel
theorem dX6_signAt_24 : decode cX6_signAt 24 = .ok (.goto 4, 3) := by decide +kernel
theorem dX6_signAt_27 : decode cX6_signAt 27 = .ok (.iconst (-1), 1) := by decide +kernel
theorem dX6_signAt_28 : decode cX6_signAt 28 = .ok (.ireturn, 1) := by decide +kernel
set_option maxRecDepth 20000 in
theorem ggX6_digitAt_X6_signAt : GoodIn wsX6_digitAt wsX6_signAt := goodIn_r _ [5, 6, 7, 8, 9] (by decide +kernel) (by decide +kernel)
set_option maxRecDepth 20000 in
theorem gX6_digitAt_X6_signAt : GoodIn wsX6_digitAt (wsV RX6 19 RX6 yX6_signAt wsX6_signAt) := goodIn_app (goodIn_of _ (by decide +kernel)) ggX6_digitAt_X6_signAt
theorem dX6_digitAt_0 : decode cX6_digitAt 0 = .ok (.aload_n 0, 1) := by decide +kernel
theorem dX6_digitAt_1 : decode cX6_digitAt 1 = .ok (.iload_n 1, 1) := by decide +kernel
theorem dX6_digitAt_2 : decode cX6_digitAt 2 = .ok (.invokevirtual 19, 3) := by decide +kernel
theorem dX6_digitAt_5 : decode cX6_digitAt 5 = .ok (.istore_n 2, 1) := by decide +kernel
theorem dX6_digitAt_6 : decode cX6_digitAt 6 = .ok (.iload_n 2, 1) := by decide +kernel
theorem dX6_digitAt_7 : decode cX6_digitAt 7 = .ok (.bipush 48, 2) := by decide +kernel
theorem dX6_digitAt_9 : decode cX6_digitAt 9 = .ok (.if_icmp .lt 16, 3) := by decide +kernel
theorem dX6_digitAt_12 : decode cX6_digitAt 12 = .ok (.iload_n 2, 1) := by decide +kernel
theorem dX6_digitAt_13 : decode cX6_digitAt 13 = .ok (.bipush 57, 2) := by decide +kernel
theorem dX6_digitAt_15 : decode cX6_digitAt 15 = .ok (.if_icmp .gt 10, 3) := by decide +kernel
theorem dX6_digitAt_18 : decode cX6_digitAt 18 = .ok (.iload_n 2, 1) := by decide +kernel
theorem dX6_digitAt_19 : decode cX6_digitAt 19 = .ok (.bipush 48, 2) := by decide +kernel
theorem dX6_digitAt_21 : decode cX6_digitAt 21 = .ok (.isub, 1) := by decide +kernel
theorem dX6_digitAt_22 : decode cX6_digitAt 22 = .ok (.goto 4, 3) := by decide +kernel
theorem dX6_digitAt_25 : decode cX6_digitAt 25 = .ok (.iconst (-1), 1) := by decide +kernel
theorem dX6_digitAt_26 : decode cX6_digitAt 26 = .ok (.ireturn, 1) := by decide +kernel
set_option maxRecDepth 20000 in
theorem ggX6_number_X6_digitAt : GoodIn wsX6_number wsX6_digitAt := goodIn_r _ [5, 6, 7, 8, 4, 9, 10, 11, 12, 13] (by decide +kernel) (by decide +kernel)
set_option maxRecDepth 20000 in
theorem gX6_number_X6_digitAt : GoodIn wsX6_number (wsV RX6 23 RX6 yX6_digitAt wsX6_digitAt) := goodIn_app (goodIn_of _ (by decide +kernel)) ggX6_number_X6_digitAt
theorem dX6_number_0 : decode cX6_number 0 = .ok (.iconst 0, 1) := by decide +kernel
theorem dX6_number_1 : decode cX6_number 1 = .ok (.istore_n 3, 1) := by decide +kernel
theorem dX6_number_2 : decode cX6_number 2 = .ok (.iconst 0, 1) := by decide +kernel
theorem dX6_number_3 : decode cX6_number 3 = .ok (.istore 4, 2) := by decide +kernel
theorem dX6_number_5 : decode cX6_number 5 = .ok (.iload 4, 2) := by decide +kernel
theorem dX6_number_7 : decode cX6_number 7 = .ok (.iload_n 2, 1) := by decide +kernel
theorem dX6_number_8 : decode cX6_number 8 = .ok (.if_icmp .ge 23, 3) := by decide +kernel
theorem dX6_number_11 : decode cX6_number 11 = .ok (.iload_n 3, 1) := by decide +kernel
theorem dX6_number_12 : decode cX6_number 12 = .ok (.bipush 10, 2) := by decide +kernel
theorem dX6_number_14 : decode cX6_number 14 = .ok (.imul, 1) := by decide +kernel
theorem dX6_number_15 : decode cX6_number 15 = .ok (.aload_n 0, 1) := by decide +kernel
theorem dX6_number_16 : decode cX6_number 16 = .ok (.iload_n 1, 1) := by decide +kernel
theorem dX6_number_17 : decode cX6_number 17 = .ok (.iload 4, 2) := by decide +kernel
theorem dX6_number_19 : decode cX6_number 19 = .ok (.iadd, 1) := by decide +kernel
theorem dX6_number_20 : decode cX6_number 20 = .ok (.invokevirtual 23, 3) := by decide +kernel
theorem dX6_number_23 : decode cX6_number 23 = .ok (.iadd, 1) := by decide +kernel
theorem dX6_number_24 : decode cX6_number 24 = .ok (.istore_n 3, 1) := by decide +kernel
theorem dX6_number_25 : decode cX6_number 25 = .ok (.iinc 4 1, 3) := by decide +kernel
theorem dX6_number_28 : decode cX6_number 28 = .ok (.goto (-23), 3) := by decide +kernel
theorem dX6_number_31 : decode cX6_number 31 = .ok (.iload_n 3, 1) := by decide +kernel
theorem dX6_number_32 : decode cX6_number 32 = .ok (.ireturn, 1) := by decide +kernel
set_option maxRecDepth 20000 in
theorem ggX6_firstError_X6_errorInHead : GoodIn wsX6_firstError wsX6_errorInHead := goodIn_r _ [6, 7, 8, 9, 5, 10, 1, 11, 12, 13, 14, 15, 16, 17, 18, 19, 28, 29] (by decide +kernel) (by decide +kernel)
set_option maxRecDepth 20000 in
theorem gX6_firstError_X6_errorInHead : GoodIn wsX6_firstError (wsV RX6 26 RX6 yX6_errorInHead wsX6_errorInHead) := goodIn_app (goodIn_of _ (by decide +kernel)) ggX6_firstError_X6_errorInHead
set_option maxRecDepth 20000 in
theorem ggX6_firstError_X6_errorInCommand : GoodIn wsX6_firstError wsX6_errorInCommand := goodIn_r _ [23, 24, 7, 8, 9, 5, 10, 1, 11, 12, 13, 14, 15, 16, 17, 18, 19, 28, 29] (by decide +kernel) (by decide +kernel)
set_option maxRecDepth 20000 in
theorem gX6_firstError_X6_errorInCommand : GoodIn wsX6_firstError (wsV RX6 30 RX6 yX6_errorInCommand wsX6_errorInCommand) := goodIn_app (goodIn_of _ (by decide +kernel)) ggX6_firstError_X6_errorInCommand
set_option maxRecDepth 20000 in
theorem ggX6_firstError_X6_signAt : GoodIn wsX6_firstError wsX6_signAt := goodIn_r _ [10, 1, 11, 28, 29] (by decide +kernel) (by decide +kernel)
set_option maxRecDepth 20000 in
theorem gX6_firstError_X6_signAt : GoodIn wsX6_firstError (wsV RX6 19 RX6 yX6_signAt wsX6_signAt) := goodIn_app (goodIn_of _ (by decide +kernel)) ggX6_firstError_X6_signAt
set_option maxRecDepth 20000 in
theorem ggX6_firstError_X7_digitsBehind : GoodIn wsX6_firstError wsX7_digitsBehind := goodIn_r _ [27] (by decide +kernel) (by decide +kernel)
set_option maxRecDepth 20000 in
theorem gX6_firstError_X7_digitsBehind_n33 : GoodIn wsX6_firstError (wsX7_digitsBehind) := ggX6_firstError_X7_digitsBehind
theorem dX6_firstError_0 : decode cX6_firstError 0 = .ok (.aload_n 0, 1) := by decide +kernel
theorem dX6_firstError_1 : decode cX6_firstError 1 = .ok (.invokevirtual 26, 3) := by decide +kernel
theorem dX6_firstError_4 : decode cX6_firstError 4 = .ok (.istore_n 1, 1) := by decide +kernel
theorem dX6_firstError_5 : decode cX6_firstError 5 = .ok (.bipush 7, 2) := by decide +kernel
theorem dX6_firstError_7 : decode cX6_firstError 7 = .ok (.istore_n 2, 1) := by decide +kernel
theorem dX6_firstError_8 : decode cX6_firstError 8 = .ok (.iconst 0, 1) := by decide +kernel
theorem dX6_firstError_9 : decode cX6_firstError 9 = .ok (.istore_n 3, 1) := by decide +kernel
theorem dX6_firstError_10 : decode cX6_firstError 10 = .ok (.iload_n 3, 1) := by decide +kernel
theorem dX6_firstError_11 : decode cX6_firstError 11 = .ok (.bipush 120, 2) := by decide +kernel
theorem dX6_firstError_13 : decode cX6_firstError 13 = .ok (.if_icmp .ge 41, 3) := by decide +kernel
theorem dX6_firstError_16 : decode cX6_firstError 16 = .ok (.iload_n 1, 1) := by decide +kernel
theorem dX6_firstError_17 : decode cX6_firstError 17 = .ok (.iconst (-1), 1) := by decide +kernel
theorem dX6_firstError_18 : decode cX6_firstError 18 = .ok (.if_icmp .ne 36, 3) := by decide +kernel
theorem dX6_firstError_21 : decode cX6_firstError 21 = .ok (.iload_n 2, 1) := by decide +kernel
theorem dX6_firstError_22 : decode cX6_firstError 22 = .ok (.aload_n 0, 1) := by decide +kernel
theorem dX6_firstError_23 : decode cX6_firstError 23 = .ok (.getfield 15, 3) := by decide +kernel
theorem dX6_firstError_26 : decode cX6_firstError 26 = .ok (.if_icmp .ge 28, 3) := by decide +kernel
theorem dX6_firstError_29 : decode cX6_firstError 29 = .ok (.aload_n 0, 1) := by decide +kernel
theorem dX6_firstError_30 : decode cX6_firstError 30 = .ok (.iload_n 2, 1) := by decide +kernel
theorem dX6_firstError_31 : decode cX6_firstError 31 = .ok (.invokevirtual 30, 3) := by decide +kernel
theorem dX6_firstError_34 : decode cX6_firstError 34 = .ok (.istore_n 1, 1) := by decide +kernel
theorem dX6_firstError_35 : decode cX6_firstError 35 = .ok (.iload_n 2, 1) := by decide +kernel
theorem dX6_firstError_36 : decode cX6_firstError 36 = .ok (.iconst 1, 1) := by decide +kernel
theorem dX6_firstError_37 : decode cX6_firstError 37 = .ok (.iadd, 1) := by decide +kernel
theorem dX6_firstError_38 : decode cX6_firstError 38 = .ok (.aload_n 0, 1) := by decide +kernel
theorem dX6_firstError_39 : decode cX6_firstError 39 = .ok (.iload_n 2, 1) := by decide +kernel
theorem dX6_firstError_40 : decode cX6_firstError 40 = .ok (.invokevirtual 19, 3) := by decide +kernel
theorem dX6_firstError_43 : decode cX6_firstError 43 = .ok (.invokestatic 33, 3) := by decide +kernel
theorem dX6_firstError_46 : decode cX6_firstError 46 = .ok (.iadd, 1) := by decide +kernel
theorem dX6_firstError_47 : decode cX6_firstError 47 = .ok (.istore_n 2, 1) := by decide +kernel
theorem dX6_firstError_48 : decode cX6_firstError 48 = .ok (.iinc 3 1, 3) := by decide +kernel
theorem dX6_firstError_51 : decode cX6_firstError 51 = .ok (.goto (-41), 3) := by decide +kernel
theorem dX6_firstError_54 : decode cX6_firstError 54 = .ok (.iload_n 1, 1) := by decide +kernel
theorem dX6_firstError_55 : decode cX6_firstError 55 = .ok (.ireturn, 1) := by decide +kernel
set_option maxRecDepth 20000 in
theorem ggX6_errorInHead_X6_signAt : GoodIn wsX6_errorInHead wsX6_signAt := goodIn_r _ [5, 6, 7, 16, 17] (by decide +kernel) (by decide +kernel)
set_option maxRecDepth 20000 in
theorem gX6_errorInHead_X6_signAt : GoodIn wsX6_errorInHead (wsV RX6 19 RX6 yX6_signAt wsX6_signAt) := goodIn_app (goodIn_of _ (by decide +kernel)) ggX6_errorInHead_X6_signAt
set_option maxRecDepth 20000 in
theorem ggX6_errorInHead_X6_errorInNumber : GoodIn wsX6_errorInHead wsX6_errorInNumber := goodIn_r _ [11, 12, 13, 14, 4, 15, 1, 2, 3, 5, 6, 7, 16, 17] (by decide +kernel) (by decide +kernel)
set_option maxRecDepth 20000 in
theorem gX6_errorInHead_X6_errorInNumber : GoodIn wsX6_errorInHead (wsV RX6 36 RX6 yX6_errorInNumber wsX6_errorInNumber) := goodIn_app (goodIn_of _ (by decide +kernel)) ggX6_errorInHead_X6_errorInNumber
theorem dX6_errorInHead_0 : decode cX6_errorInHead 0 = .ok (.aload_n 0, 1) := by decide +kernel
theorem dX6_errorInHead_1 : decode cX6_errorInHead 1 = .ok (.iconst 0, 1) := by decide +kernel
theorem dX6_errorInHead_2 : decode cX6_errorInHead 2 = .ok (.invokevirtual 19, 3) := by decide +kernel
theorem dX6_errorInHead_5 : decode cX6_errorInHead 5 = .ok (.bipush 67, 2) := by decide +kernel
theorem dX6_errorInHead_7 : decode cX6_errorInHead 7 = .ok (.if_icmp .ne 7, 3) := by decide +kernel
theorem dX6_errorInHead_10 : decode cX6_errorInHead 10 = .ok (.iconst (-1), 1) := by decide +kernel
theorem dX6_errorInHead_11 : decode cX6_errorInHead 11 = .ok (.goto 4, 3) := by decide +kernel
theorem dX6_errorInHead_14 : decode cX6_errorInHead 14 = .ok (.iconst 0, 1) := by decide +kernel
theorem dX6_errorInHead_15 : decode cX6_errorInHead 15 = .ok (.istore_n 1, 1) := by decide +kernel
theorem dX6_errorInHead_16 : decode cX6_errorInHead 16 = .ok (.iload_n 1, 1) := by decide +kernel
theorem dX6_errorInHead_17 : decode cX6_errorInHead 17 = .ok (.iconst (-1), 1) := by decide +kernel
theorem dX6_errorInHead_18 : decode cX6_errorInHead 18 = .ok (.if_icmp .ne 14, 3) := by decide +kernel
theorem dX6_errorInHead_21 : decode cX6_errorInHead 21 = .ok (.aload_n 0, 1) := by decide +kernel
theorem dX6_errorInHead_22 : decode cX6_errorInHead 22 = .ok (.iconst 1, 1) := by decide +kernel
theorem dX6_errorInHead_23 : decode cX6_errorInHead 23 = .ok (.iconst 2, 1) := by decide +kernel
theorem dX6_errorInHead_24 : decode cX6_errorInHead 24 = .ok (.bipush 8, 2) := by decide +kernel
theorem dX6_errorInHead_26 : decode cX6_errorInHead 26 = .ok (.bipush 48, 2) := by decide +kernel
theorem dX6_errorInHead_28 : decode cX6_errorInHead 28 = .ok (.invokevirtual 36, 3) := by decide +kernel
theorem dX6_errorInHead_31 : decode cX6_errorInHead 31 = .ok (.istore_n 1, 1) := by decide +kernel
theorem dX6_errorInHead_32 : decode cX6_errorInHead 32 = .ok (.iload_n 1, 1) := by decide +kernel
theorem dX6_errorInHead_33 : decode cX6_errorInHead 33 = .ok (.iconst (-1), 1) := by decide +kernel
theorem dX6_errorInHead_34 : decode cX6_errorInHead 34 = .ok (.if_icmp .ne 20, 3) := by decide +kernel
theorem dX6_errorInHead_37 : decode cX6_errorInHead 37 = .ok (.aload_n 0, 1) := by decide +kernel
theorem dX6_errorInHead_38 : decode cX6_errorInHead 38 = .ok (.iconst 3, 1) := by decide +kernel
theorem dX6_errorInHead_39 : decode cX6_errorInHead 39 = .ok (.iconst 1, 1) := by decide +kernel
theorem dX6_errorInHead_40 : decode cX6_errorInHead 40 = .ok (.getstatic 40, 3) := by decide +kernel
theorem dX6_errorInHead_43 : decode cX6_errorInHead 43 = .ok (.iconst 0, 1) := by decide +kernel
theorem dX6_errorInHead_44 : decode cX6_errorInHead 44 = .ok (.iaload, 1) := by decide +kernel
theorem dX6_errorInHead_45 : decode cX6_errorInHead 45 = .ok (.getstatic 44, 3) := by decide +kernel
theorem dX6_errorInHead_48 : decode cX6_errorInHead 48 = .ok (.iconst 0, 1) := by decide +kernel
theorem dX6_errorInHead_49 : decode cX6_errorInHead 49 = .ok (.iaload, 1) := by decide +kernel
theorem dX6_errorInHead_50 : decode cX6_errorInHead 50 = .ok (.invokevirtual 36, 3) := by decide +kernel
theorem dX6_errorInHead_53 : decode cX6_errorInHead 53 = .ok (.istore_n 1, 1) := by decide +kernel
theorem dX6_errorInHead_54 : decode cX6_errorInHead 54 = .ok (.iload_n 1, 1) := by decide +kernel
theorem dX6_errorInHead_55 : decode cX6_errorInHead 55 = .ok (.iconst (-1), 1) := by decide +kernel
theorem dX6_errorInHead_56 : decode cX6_errorInHead 56 = .ok (.if_icmp .ne 20, 3) := by decide +kernel
theorem dX6_errorInHead_59 : decode cX6_errorInHead 59 = .ok (.aload_n 0, 1) := by decide +kernel
theorem dX6_errorInHead_60 : decode cX6_errorInHead 60 = .ok (.iconst 4, 1) := by decide +kernel
theorem dX6_errorInHead_61 : decode cX6_errorInHead 61 = .ok (.iconst 1, 1) := by decide +kernel
theorem dX6_errorInHead_62 : decode cX6_errorInHead 62 = .ok (.getstatic 40, 3) := by decide +kernel
theorem dX6_errorInHead_65 : decode cX6_errorInHead 65 = .ok (.iconst 1, 1) := by decide +kernel
theorem dX6_errorInHead_66 : decode cX6_errorInHead 66 = .ok (.iaload, 1) := by decide +kernel
theorem dX6_errorInHead_67 : decode cX6_errorInHead 67 = .ok (.getstatic 44, 3) := by decide +kernel
theorem dX6_errorInHead_70 : decode cX6_errorInHead 70 = .ok (.iconst 1, 1) := by decide +kernel
theorem dX6_errorInHead_71 : decode cX6_errorInHead 71 = .ok (.iaload, 1) := by decide +kernel
theorem dX6_errorInHead_72 : decode cX6_errorInHead 72 = .ok (.invokevirtual 36, 3) := by decide +kernel
theorem dX6_errorInHead_75 : decode cX6_errorInHead 75 = .ok (.istore_n 1, 1) := by decide +kernel
theorem dX6_errorInHead_76 : decode cX6_errorInHead 76 = .ok (.iload_n 1, 1) := by decide +kernel
theorem dX6_errorInHead_77 : decode cX6_errorInHead 77 = .ok (.iconst (-1), 1) := by decide +kernel
theorem dX6_errorInHead_78 : decode cX6_errorInHead 78 = .ok (.if_icmp .ne 20, 3) := by decide +kernel
theorem dX6_errorInHead_81 : decode cX6_errorInHead 81 = .ok (.aload_n 0, 1) := by decide +kernel
theorem dX6_errorInHead_82 : decode cX6_errorInHead 82 = .ok (.iconst 5, 1) := by decide +kernel
theorem dX6_errorInHead_83 : decode cX6_errorInHead 83 = .ok (.iconst 2, 1) := by decide +kernel
theorem dX6_errorInHead_84 : decode cX6_errorInHead 84 = .ok (.getstatic 40, 3) := by decide +kernel
theorem dX6_errorInHead_87 : decode cX6_errorInHead 87 = .ok (.iconst 2, 1) := by decide +kernel
theorem dX6_errorInHead_88 : decode cX6_errorInHead 88 = .ok (.iaload, 1) := by decide +kernel
theorem dX6_errorInHead_89 : decode cX6_errorInHead 89 = .ok (.getstatic 44, 3) := by decide +kernel
theorem dX6_errorInHead_92 : decode cX6_errorInHead 92 = .ok (.iconst 2, 1) := by decide +kernel
theorem dX6_errorInHead_93 : decode cX6_errorInHead 93 = .ok (.iaload, 1) := by decide +kernel
theorem dX6_errorInHead_94 : decode cX6_errorInHead 94 = .ok (.invokevirtual 36, 3) := by decide +kernel
theorem dX6_errorInHead_97 : decode cX6_errorInHead 97 = .ok (.istore_n 1, 1) := by decide +kernel
theorem dX6_errorInHead_98 : decode cX6_errorInHead 98 = .ok (.iload_n 1, 1) := by decide +kernel
theorem dX6_errorInHead_99 : decode cX6_errorInHead 99 = .ok (.ireturn, 1) := by decide +kernel
set_option maxRecDepth 20000 in
theorem ggX6_errorInCommand_X6_signAt : GoodIn wsX6_errorInCommand wsX6_signAt := goodIn_r _ [6, 7, 8, 17, 18] (by decide +kernel) (by decide +kernel)
set_option maxRecDepth 20000 in
theorem gX6_errorInCommand_X6_signAt : GoodIn wsX6_errorInCommand (wsV RX6 19 RX6 yX6_signAt wsX6_signAt) := goodIn_app (goodIn_of _ (by decide +kernel)) ggX6_errorInCommand_X6_signAt
set_option maxRecDepth 20000 in
theorem ggX6_errorInCommand_X6_errorInNumber : GoodIn wsX6_errorInCommand wsX6_errorInNumber := goodIn_r _ [12, 13, 14, 15, 5, 16, 2, 3, 4, 6, 7, 8, 17, 18] (by decide +kernel) (by decide +kernel)
set_option maxRecDepth 20000 in
theorem gX6_errorInCommand_X6_errorInNumber : GoodIn wsX6_errorInCommand (wsV RX6 36 RX6 yX6_errorInNumber wsX6_errorInNumber) := goodIn_app (goodIn_of _ (by decide +kernel)) ggX6_errorInCommand_X6_errorInNumber
theorem dX6_errorInCommand_0 : decode cX6_errorInCommand 0 = .ok (.aload_n 0, 1) := by decide +kernel
theorem dX6_errorInCommand_1 : decode cX6_errorInCommand 1 = .ok (.iload_n 1, 1) := by decide +kernel
theorem dX6_errorInCommand_2 : decode cX6_errorInCommand 2 = .ok (.invokevirtual 19, 3) := by decide +kernel
theorem dX6_errorInCommand_5 : decode cX6_errorInCommand 5 = .ok (.lookupswitch 72 #[(100, 60), (110, 48), (115, 35)], 35) := by decide +kernel
theorem dX6_errorInCommand_40 : decode cX6_errorInCommand 40 = .ok (.aload_n 0, 1) := by decide +kernel
theorem dX6_errorInCommand_41 : decode cX6_errorInCommand 41 = .ok (.iload_n 1, 1) := by decide +kernel
theorem dX6_errorInCommand_42 : decode cX6_errorInCommand 42 = .ok (.iconst 1, 1) := by decide +kernel
theorem dX6_errorInCommand_43 : decode cX6_errorInCommand 43 = .ok (.iadd, 1) := by decide +kernel
theorem dX6_errorInCommand_44 : decode cX6_errorInCommand 44 = .ok (.bipush 6, 2) := by decide +kernel
theorem dX6_errorInCommand_46 : decode cX6_errorInCommand 46 = .ok (.iconst 0, 1) := by decide +kernel
theorem dX6_errorInCommand_47 : decode cX6_errorInCommand 47 = .ok (.ldc 47, 2) := by decide +kernel
theorem dX6_errorInCommand_49 : decode cX6_errorInCommand 49 = .ok (.invokevirtual 36, 3) := by decide +kernel
theorem dX6_errorInCommand_52 : decode cX6_errorInCommand 52 = .ok (.ireturn, 1) := by decide +kernel
theorem dX6_errorInCommand_53 : decode cX6_errorInCommand 53 = .ok (.aload_n 0, 1) := by decide +kernel
theorem dX6_errorInCommand_54 : decode cX6_errorInCommand 54 = .ok (.iload_n 1, 1) := by decide +kernel
theorem dX6_errorInCommand_55 : decode cX6_errorInCommand 55 = .ok (.iconst 1, 1) := by decide +kernel
theorem dX6_errorInCommand_56 : decode cX6_errorInCommand 56 = .ok (.iadd, 1) := by decide +kernel
theorem dX6_errorInCommand_57 : decode cX6_errorInCommand 57 = .ok (.iconst 1, 1) := by decide +kernel
theorem dX6_errorInCommand_58 : decode cX6_errorInCommand 58 = .ok (.iconst 1, 1) := by decide +kernel
theorem dX6_errorInCommand_59 : decode cX6_errorInCommand 59 = .ok (.bipush 9, 2) := by decide +kernel
theorem dX6_errorInCommand_61 : decode cX6_errorInCommand 61 = .ok (.invokevirtual 36, 3) := by decide +kernel
theorem dX6_errorInCommand_64 : decode cX6_errorInCommand 64 = .ok (.ireturn, 1) := by decide +kernel
theorem dX6_errorInCommand_65 : decode cX6_errorInCommand 65 = .ok (.aload_n 0, 1) := by decide +kernel
theorem dX6_errorInCommand_66 : decode cX6_errorInCommand 66 = .ok (.iload_n 1, 1) := by decide +kernel
theorem dX6_errorInCommand_67 : decode cX6_errorInCommand 67 = .ok (.iconst 1, 1) := by decide +kernel
theorem dX6_errorInCommand_68 : decode cX6_errorInCommand 68 = .ok (.iadd, 1) := by decide +kernel
theorem dX6_errorInCommand_69 : decode cX6_errorInCommand 69 = .ok (.iconst 2, 1) := by decide +kernel
theorem dX6_errorInCommand_70 : decode cX6_errorInCommand 70 = .ok (.iconst 0, 1) := by decide +kernel
theorem dX6_errorInCommand_71 : decode cX6_errorInCommand 71 = .ok (.bipush 47, 2) := by decide +kernel
theorem dX6_errorInCommand_73 : decode cX6_errorInCommand 73 = .ok (.invokevirtual 36, 3) := by decide +kernel
theorem dX6_errorInCommand_76 : decode cX6_errorInCommand 76 = .ok (.ireturn, 1) := by decide +kernel
theorem dX6_errorInCommand_77 : decode cX6_errorInCommand 77 = .ok (.iload_n 1, 1) := by decide +kernel
theorem dX6_errorInCommand_78 : decode cX6_errorInCommand 78 = .ok (.ireturn, 1) := by decide +kernel
set_option maxRecDepth 20000 in
theorem ggX6_errorInNumber_X6_digitAt : GoodIn wsX6_errorInNumber wsX6_digitAt := goodIn_r _ [5, 6, 7, 8, 4, 9, 10, 11, 12, 13] (by decide +kernel) (by decide +kernel)
set_option maxRecDepth 20000 in
theorem gX6_errorInNumber_X6_digitAt : GoodIn wsX6_errorInNumber (wsV RX6 23 RX6 yX6_digitAt wsX6_digitAt) := goodIn_app (goodIn_of _ (by decide +kernel)) ggX6_errorInNumber_X6_digitAt
theorem dX6_errorInNumber_0 : decode cX6_errorInNumber 0 = .ok (.iconst 1, 1) := by decide +kernel
theorem dX6_errorInNumber_1 : decode cX6_errorInNumber 1 = .ok (.istore 5, 2) := by decide +kernel
theorem dX6_errorInNumber_3 : decode cX6_errorInNumber 3 = .ok (.iconst 0, 1) := by decide +kernel
theorem dX6_errorInNumber_4 : decode cX6_errorInNumber 4 = .ok (.istore 6, 2) := by decide +kernel
theorem dX6_errorInNumber_6 : decode cX6_errorInNumber 6 = .ok (.iload 6, 2) := by decide +kernel
theorem dX6_errorInNumber_8 : decode cX6_errorInNumber 8 = .ok (.iload_n 2, 1) := by decide +kernel
theorem dX6_errorInNumber_9 : decode cX6_errorInNumber 9 = .ok (.if_icmp .ge 16, 3) := by decide +kernel
theorem dX6_errorInNumber_12 : decode cX6_errorInNumber 12 = .ok (.iload 5, 2) := by decide +kernel
theorem dX6_errorInNumber_14 : decode cX6_errorInNumber 14 = .ok (.bipush 10, 2) := by decide +kernel
theorem dX6_errorInNumber_16 : decode cX6_errorInNumber 16 = .ok (.imul, 1) := by decide +kernel
theorem dX6_errorInNumber_17 : decode cX6_errorInNumber 17 = .ok (.istore 5, 2) := by decide +kernel
theorem dX6_errorInNumber_19 : decode cX6_errorInNumber 19 = .ok (.iinc 6 1, 3) := by decide +kernel
theorem dX6_errorInNumber_22 : decode cX6_errorInNumber 22 = .ok (.goto (-16), 3) := by decide +kernel
theorem dX6_errorInNumber_25 : decode cX6_errorInNumber 25 = .ok (.iconst 0, 1) := by decide +kernel
theorem dX6_errorInNumber_26 : decode cX6_errorInNumber 26 = .ok (.istore 6, 2) := by decide +kernel
theorem dX6_errorInNumber_28 : decode cX6_errorInNumber 28 = .ok (.iconst 0, 1) := by decide +kernel
theorem dX6_errorInNumber_29 : decode cX6_errorInNumber 29 = .ok (.istore 7, 2) := by decide +kernel
theorem dX6_errorInNumber_31 : decode cX6_errorInNumber 31 = .ok (.iload 7, 2) := by decide +kernel
theorem dX6_errorInNumber_33 : decode cX6_errorInNumber 33 = .ok (.iload_n 2, 1) := by decide +kernel
theorem dX6_errorInNumber_34 : decode cX6_errorInNumber 34 = .ok (.if_icmp .ge 65, 3) := by decide +kernel
theorem dX6_errorInNumber_37 : decode cX6_errorInNumber 37 = .ok (.aload_n 0, 1) := by decide +kernel
theorem dX6_errorInNumber_38 : decode cX6_errorInNumber 38 = .ok (.iload_n 1, 1) := by decide +kernel
theorem dX6_errorInNumber_39 : decode cX6_errorInNumber 39 = .ok (.iload 7, 2) := by decide +kernel
theorem dX6_errorInNumber_41 : decode cX6_errorInNumber 41 = .ok (.iadd, 1) := by decide +kernel
theorem dX6_errorInNumber_42 : decode cX6_errorInNumber 42 = .ok (.invokevirtual 23, 3) := by decide +kernel
theorem dX6_errorInNumber_45 : decode cX6_errorInNumber 45 = .ok (.istore 8, 2) := by decide +kernel
theorem dX6_errorInNumber_47 : decode cX6_errorInNumber 47 = .ok (.iload 5, 2) := by decide +kernel
theorem dX6_errorInNumber_49 : decode cX6_errorInNumber 49 = .ok (.bipush 10, 2) := by decide +kernel
theorem dX6_errorInNumber_51 : decode cX6_errorInNumber 51 = .ok (.idiv, 1) := by decide +kernel
theorem dX6_errorInNumber_52 : decode cX6_errorInNumber 52 = .ok (.istore 5, 2) := by decide +kernel
theorem dX6_errorInNumber_54 : decode cX6_errorInNumber 54 = .ok (.iload 6, 2) := by decide +kernel
theorem dX6_errorInNumber_56 : decode cX6_errorInNumber 56 = .ok (.iload 8, 2) := by decide +kernel
theorem dX6_errorInNumber_58 : decode cX6_errorInNumber 58 = .ok (.iload 5, 2) := by decide +kernel
theorem dX6_errorInNumber_60 : decode cX6_errorInNumber 60 = .ok (.imul, 1) := by decide +kernel
theorem dX6_errorInNumber_61 : decode cX6_errorInNumber 61 = .ok (.iadd, 1) := by decide +kernel
theorem dX6_errorInNumber_62 : decode cX6_errorInNumber 62 = .ok (.istore 6, 2) := by decide +kernel
theorem dX6_errorInNumber_64 : decode cX6_errorInNumber 64 = .ok (.iload 8, 2) := by decide +kernel
theorem dX6_errorInNumber_66 : decode cX6_errorInNumber 66 = .ok (.iconst (-1), 1) := by decide +kernel
theorem dX6_errorInNumber_67 : decode cX6_errorInNumber 67 = .ok (.if_icmp .eq 21, 3) := by decide +kernel
theorem dX6_errorInNumber_70 : decode cX6_errorInNumber 70 = .ok (.iload 6, 2) := by decide +kernel
theorem dX6_errorInNumber_72 : decode cX6_errorInNumber 72 = .ok (.iload 4, 2) := by decide +kernel
theorem dX6_errorInNumber_74 : decode cX6_errorInNumber 74 = .ok (.if_icmp .gt 14, 3) := by decide +kernel
theorem dX6_errorInNumber_77 : decode cX6_errorInNumber 77 = .ok (.iload 6, 2) := by decide +kernel
theorem dX6_errorInNumber_79 : decode cX6_errorInNumber 79 = .ok (.iload 5, 2) := by decide +kernel
theorem dX6_errorInNumber_81 : decode cX6_errorInNumber 81 = .ok (.iadd, 1) := by decide +kernel
theorem dX6_errorInNumber_82 : decode cX6_errorInNumber 82 = .ok (.iconst 1, 1) := by decide +kernel
theorem dX6_errorInNumber_83 : decode cX6_errorInNumber 83 = .ok (.isub, 1) := by decide +kernel
theorem dX6_errorInNumber_84 : decode cX6_errorInNumber 84 = .ok (.iload_n 3, 1) := by decide +kernel
theorem dX6_errorInNumber_85 : decode cX6_errorInNumber 85 = .ok (.if_icmp .ge 8, 3) := by decide +kernel
theorem dX6_errorInNumber_88 : decode cX6_errorInNumber 88 = .ok (.iload_n 1, 1) := by decide +kernel
theorem dX6_errorInNumber_89 : decode cX6_errorInNumber 89 = .ok (.iload 7, 2) := by decide +kernel
theorem dX6_errorInNumber_91 : decode cX6_errorInNumber 91 = .ok (.iadd, 1) := by decide +kernel
theorem dX6_errorInNumber_92 : decode cX6_errorInNumber 92 = .ok (.ireturn, 1) := by decide +kernel
theorem dX6_errorInNumber_93 : decode cX6_errorInNumber 93 = .ok (.iinc 7 1, 3) := by decide +kernel
theorem dX6_errorInNumber_96 : decode cX6_errorInNumber 96 = .ok (.goto (-65), 3) := by decide +kernel
theorem dX6_errorInNumber_99 : decode cX6_errorInNumber 99 = .ok (.iconst (-1), 1) := by decide +kernel
theorem dX6_errorInNumber_100 : decode cX6_errorInNumber 100 = .ok (.ireturn, 1) := by decide +kernel
theorem dX7_difference_0 : decode cX7_difference 0 = .ok (.iconst 0, 1) := by decide +kernel
theorem dX7_difference_1 : decode cX7_difference 1 = .ok (.istore_n 2, 1) := by decide +kernel
theorem dX7_difference_2 : decode cX7_difference 2 = .ok (.iload_n 0, 1) := by decide +kernel
theorem dX7_difference_3 : decode cX7_difference 3 = .ok (.istore_n 3, 1) := by decide +kernel
theorem dX7_difference_4 : decode cX7_difference 4 = .ok (.iload_n 1, 1) := by decide +kernel
theorem dX7_difference_5 : decode cX7_difference 5 = .ok (.istore 4, 2) := by decide +kernel
theorem dX7_difference_7 : decode cX7_difference 7 = .ok (.iconst 0, 1) := by decide +kernel
theorem dX7_difference_8 : decode cX7_difference 8 = .ok (.istore 5, 2) := by decide +kernel
theorem dX7_difference_10 : decode cX7_difference 10 = .ok (.iload 5, 2) := by decide +kernel
theorem dX7_difference_12 : decode cX7_difference 12 = .ok (.bipush 6, 2) := by decide +kernel
theorem dX7_difference_14 : decode cX7_difference 14 = .ok (.if_icmp .ge 49, 3) := by decide +kernel
theorem dX7_difference_17 : decode cX7_difference 17 = .ok (.iload_n 3, 1) := by decide +kernel
theorem dX7_difference_18 : decode cX7_difference 18 = .ok (.bipush 10, 2) := by decide +kernel
theorem dX7_difference_20 : decode cX7_difference 20 = .ok (.irem, 1) := by decide +kernel
theorem dX7_difference_21 : decode cX7_difference 21 = .ok (.iload 4, 2) := by decide +kernel
theorem dX7_difference_23 : decode cX7_difference 23 = .ok (.bipush 10, 2) := by decide +kernel
theorem dX7_difference_25 : decode cX7_difference 25 = .ok (.irem, 1) := by decide +kernel
theorem dX7_difference_26 : decode cX7_difference 26 = .ok (.isub, 1) := by decide +kernel
theorem dX7_difference_27 : decode cX7_difference 27 = .ok (.istore 6, 2) := by decide +kernel
theorem dX7_difference_29 : decode cX7_difference 29 = .ok (.iload_n 2, 1) := by decide +kernel
theorem dX7_difference_30 : decode cX7_difference 30 = .ok (.iload 6, 2) := by decide +kernel
theorem dX7_difference_32 : decode cX7_difference 32 = .ok (.ifCond .ge 9, 3) := by decide +kernel
theorem dX7_difference_35 : decode cX7_difference 35 = .ok (.iload 6, 2) := by decide +kernel
theorem dX7_difference_37 : decode cX7_difference 37 = .ok (.ineg, 1) := by decide +kernel
theorem dX7_difference_38 : decode cX7_difference 38 = .ok (.goto 5, 3) := by decide +kernel
theorem dX7_difference_41 : decode cX7_difference 41 = .ok (.iload 6, 2) := by decide +kernel
theorem dX7_difference_43 : decode cX7_difference 43 = .ok (.iadd, 1) := by decide +kernel
theorem dX7_difference_44 : decode cX7_difference 44 = .ok (.istore_n 2, 1) := by decide +kernel
theorem dX7_difference_45 : decode cX7_difference 45 = .ok (.iload_n 3, 1) := by decide +kernel
theorem dX7_difference_46 : decode cX7_difference 46 = .ok (.bipush 10, 2) := by decide +kernel
theorem dX7_difference_48 : decode cX7_difference 48 = .ok (.idiv, 1) := by decide +kernel
theorem dX7_difference_49 : decode cX7_difference 49 = .ok (.istore_n 3, 1) := by decide +kernel
theorem dX7_difference_50 : decode cX7_difference 50 = .ok (.iload 4, 2) := by decide +kernel
theorem dX7_difference_52 : decode cX7_difference 52 = .ok (.bipush 10, 2) := by decide +kernel
theorem dX7_difference_54 : decode cX7_difference 54 = .ok (.idiv, 1) := by decide +kernel
theorem dX7_difference_55 : decode cX7_difference 55 = .ok (.istore 4, 2) := by decide +kernel
theorem dX7_difference_57 : decode cX7_difference 57 = .ok (.iinc 5 1, 3) := by decide +kernel
theorem dX7_difference_60 : decode cX7_difference 60 = .ok (.goto (-50), 3) := by decide +kernel
theorem dX7_difference_63 : decode cX7_difference 63 = .ok (.iload_n 2, 1) := by decide +kernel
theorem dX7_difference_64 : decode cX7_difference 64 = .ok (.ireturn, 1) := by decide +kernel
theorem dX7_digitsBehind_0 : decode cX7_digitsBehind 0 = .ok (.iload_n 0, 1) := by decide +kernel
theorem dX7_digitsBehind_1 : decode cX7_digitsBehind 1 = .ok (.lookupswitch 32 #[(100, 30), (115, 27)], 27) := by decide +kernel
theorem dX7_digitsBehind_28 : decode cX7_digitsBehind 28 = .ok (.bipush 6, 2) := by decide +kernel
theorem dX7_digitsBehind_30 : decode cX7_digitsBehind 30 = .ok (.ireturn, 1) := by decide +kernel
theorem dX7_digitsBehind_31 : decode cX7_digitsBehind 31 = .ok (.iconst 2, 1) := by decide +kernel
theorem dX7_digitsBehind_32 : decode cX7_digitsBehind 32 = .ok (.ireturn, 1) := by decide +kernel
theorem dX7_digitsBehind_33 : decode cX7_digitsBehind 33 = .ok (.iconst 1, 1) := by decide +kernel
theorem dX7_digitsBehind_34 : decode cX7_digitsBehind 34 = .ok (.ireturn, 1) := by decide +kernel
