set_option maxRecDepth 20000 in
theorem ggX8_init_X8_clean : GoodIn wsX8_init wsX8_clean := goodIn_r _ [16] (by decide +kernel) (by decide +kernel)
set_option maxRecDepth 20000 in
theorem gX8_init_X8_clean : GoodIn wsX8_init (va_wsS RX8 32 yX8_clean wsX8_clean) := goodIn_app (goodIn_of _ (by decide +kernel)) ggX8_init_X8_clean
theorem dX8_init_0 : decode cX8_init 0 = .ok (.aload_n 0, 1) := by decide +kernel
theorem dX8_init_1 : decode cX8_init 1 = .ok (.invokespecial 1, 3) := by decide +kernel
theorem dX8_init_4 : decode cX8_init 4 = .ok (.aload_n 0, 1) := by decide +kernel
theorem dX8_init_5 : decode cX8_init 5 = .ok (.bipush 120, 2) := by decide +kernel
theorem dX8_init_7 : decode cX8_init 7 = .ok (.newarray .int, 2) := by decide +kernel
theorem dX8_init_9 : decode cX8_init 9 = .ok (.putfield 7, 3) := by decide +kernel
theorem dX8_init_12 : decode cX8_init 12 = .ok (.aload_n 0, 1) := by decide +kernel
theorem dX8_init_13 : decode cX8_init 13 = .ok (.sipush 357, 3) := by decide +kernel
theorem dX8_init_16 : decode cX8_init 16 = .ok (.newarray .int, 2) := by decide +kernel
theorem dX8_init_18 : decode cX8_init 18 = .ok (.putfield 13, 3) := by decide +kernel
theorem dX8_init_21 : decode cX8_init 21 = .ok (.aload_n 0, 1) := by decide +kernel
theorem dX8_init_22 : decode cX8_init 22 = .ok (.sipush 357, 3) := by decide +kernel
theorem dX8_init_25 : decode cX8_init 25 = .ok (.newarray .int, 2) := by decide +kernel
theorem dX8_init_27 : decode cX8_init 27 = .ok (.putfield 16, 3) := by decide +kernel
theorem dX8_init_30 : decode cX8_init 30 = .ok (.aload_n 0, 1) := by decide +kernel
theorem dX8_init_31 : decode cX8_init 31 = .ok (.sipush 357, 3) := by decide +kernel
theorem dX8_init_34 : decode cX8_init 34 = .ok (.newarray .int, 2) := by decide +kernel
theorem dX8_init_36 : decode cX8_init 36 = .ok (.putfield 19, 3) := by decide +kernel
theorem dX8_init_39 : decode cX8_init 39 = .ok (.aload_n 0, 1) := by decide +kernel
theorem dX8_init_40 : decode cX8_init 40 = .ok (.sipush 4998, 3) := by decide +kernel
theorem dX8_init_43 : decode cX8_init 43 = .ok (.newarray .int, 2) := by decide +kernel
theorem dX8_init_45 : decode cX8_init 45 = .ok (.putfield 22, 3) := by decide +kernel
theorem dX8_init_48 : decode cX8_init 48 = .ok (.aload_n 0, 1) := by decide +kernel
theorem dX8_init_49 : decode cX8_init 49 = .ok (.sipush 714, 3) := by decide +kernel
theorem dX8_init_52 : decode cX8_init 52 = .ok (.newarray .int, 2) := by decide +kernel
theorem dX8_init_54 : decode cX8_init 54 = .ok (.putfield 25, 3) := by decide +kernel
theorem dX8_init_57 : decode cX8_init 57 = .ok (.aload_n 0, 1) := by decide +kernel
theorem dX8_init_58 : decode cX8_init 58 = .ok (.iconst 2, 1) := by decide +kernel
theorem dX8_init_59 : decode cX8_init 59 = .ok (.newarray .boolean, 2) := by decide +kernel
theorem dX8_init_61 : decode cX8_init 61 = .ok (.putfield 28, 3) := by decide +kernel
theorem dX8_init_64 : decode cX8_init 64 = .ok (.aload_n 0, 1) := by decide +kernel
theorem dX8_init_65 : decode cX8_init 65 = .ok (.getfield 16, 3) := by decide +kernel
theorem dX8_init_68 : decode cX8_init 68 = .ok (.bipush 24, 2) := by decide +kernel
theorem dX8_init_70 : decode cX8_init 70 = .ok (.iconst 2, 1) := by decide +kernel
theorem dX8_init_71 : decode cX8_init 71 = .ok (.iconst 2, 1) := by decide +kernel
theorem dX8_init_72 : decode cX8_init 72 = .ok (.iconst 4, 1) := by decide +kernel
theorem dX8_init_73 : decode cX8_init 73 = .ok (.invokestatic 32, 3) := by decide +kernel
theorem dX8_init_76 : decode cX8_init 76 = .ok (.return_, 1) := by decide +kernel
theorem dX8_thrown_0 : decode cX8_thrown 0 = .ok (.aload_n 0, 1) := by decide +kernel
theorem dX8_thrown_1 : decode cX8_thrown 1 = .ok (.getfield 36, 3) := by decide +kernel
theorem dX8_thrown_4 : decode cX8_thrown 4 = .ok (.ireturn, 1) := by decide +kernel
theorem dX8_refused_0 : decode cX8_refused 0 = .ok (.aload_n 0, 1) := by decide +kernel
theorem dX8_refused_1 : decode cX8_refused 1 = .ok (.iload_n 1, 1) := by decide +kernel
theorem dX8_refused_2 : decode cX8_refused 2 = .ok (.putfield 36, 3) := by decide +kernel
theorem dX8_refused_5 : decode cX8_refused 5 = .ok (.iload_n 1, 1) := by decide +kernel
theorem dX8_refused_6 : decode cX8_refused 6 = .ok (.ifCond .le 7, 3) := by decide +kernel
theorem dX8_refused_9 : decode cX8_refused 9 = .ok (.iconst 1, 1) := by decide +kernel
theorem dX8_refused_10 : decode cX8_refused 10 = .ok (.goto 4, 3) := by decide +kernel
theorem dX8_refused_13 : decode cX8_refused 13 = .ok (.iconst 0, 1) := by decide +kernel
theorem dX8_refused_14 : decode cX8_refused 14 = .ok (.ireturn, 1) := by decide +kernel
theorem dX8_in_0 : decode cX8_in 0 = .ok (.lload_n 0, 1) := by decide +kernel
theorem dX8_in_1 : decode cX8_in 1 = .ok (.lload_n 2, 1) := by decide +kernel
theorem dX8_in_2 : decode cX8_in 2 = .ok (.lcmp, 1) := by decide +kernel
theorem dX8_in_3 : decode cX8_in 3 = .ok (.ifCond .lt 14, 3) := by decide +kernel
theorem dX8_in_6 : decode cX8_in 6 = .ok (.lload_n 0, 1) := by decide +kernel
theorem dX8_in_7 : decode cX8_in 7 = .ok (.lload 4, 2) := by decide +kernel
theorem dX8_in_9 : decode cX8_in 9 = .ok (.lcmp, 1) := by decide +kernel
theorem dX8_in_10 : decode cX8_in 10 = .ok (.ifCond .gt 7, 3) := by decide +kernel
theorem dX8_in_13 : decode cX8_in 13 = .ok (.iconst 1, 1) := by decide +kernel
theorem dX8_in_14 : decode cX8_in 14 = .ok (.goto 4, 3) := by decide +kernel
theorem dX8_in_17 : decode cX8_in 17 = .ok (.iconst 0, 1) := by decide +kernel
theorem dX8_in_18 : decode cX8_in 18 = .ok (.ireturn, 1) := by decide +kernel
theorem dX8_copy_0 : decode cX8_copy 0 = .ok (.iconst 0, 1) := by decide +kernel
theorem dX8_copy_1 : decode cX8_copy 1 = .ok (.istore 5, 2) := by decide +kernel
theorem dX8_copy_3 : decode cX8_copy 3 = .ok (.iload 5, 2) := by decide +kernel
theorem dX8_copy_5 : decode cX8_copy 5 = .ok (.iload 4, 2) := by decide +kernel
theorem dX8_copy_7 : decode cX8_copy 7 = .ok (.if_icmp .ge 21, 3) := by decide +kernel
theorem dX8_copy_10 : decode cX8_copy 10 = .ok (.aload_n 2, 1) := by decide +kernel
theorem dX8_copy_11 : decode cX8_copy 11 = .ok (.iload_n 3, 1) := by decide +kernel
theorem dX8_copy_12 : decode cX8_copy 12 = .ok (.iload 5, 2) := by decide +kernel
theorem dX8_copy_14 : decode cX8_copy 14 = .ok (.iadd, 1) := by decide +kernel
theorem dX8_copy_15 : decode cX8_copy 15 = .ok (.aload_n 0, 1) := by decide +kernel
theorem dX8_copy_16 : decode cX8_copy 16 = .ok (.iload_n 1, 1) := by decide +kernel
theorem dX8_copy_17 : decode cX8_copy 17 = .ok (.iload 5, 2) := by decide +kernel
theorem dX8_copy_19 : decode cX8_copy 19 = .ok (.iadd, 1) := by decide +kernel
theorem dX8_copy_20 : decode cX8_copy 20 = .ok (.iaload, 1) := by decide +kernel
theorem dX8_copy_21 : decode cX8_copy 21 = .ok (.iastore, 1) := by decide +kernel
theorem dX8_copy_22 : decode cX8_copy 22 = .ok (.iinc 5 1, 3) := by decide +kernel
theorem dX8_copy_25 : decode cX8_copy 25 = .ok (.goto (-22), 3) := by decide +kernel
theorem dX8_copy_28 : decode cX8_copy 28 = .ok (.return_, 1) := by decide +kernel
theorem dX8_tenTo_0 : decode cX8_tenTo 0 = .ok (.lconst 1, 1) := by decide +kernel
theorem dX8_tenTo_1 : decode cX8_tenTo 1 = .ok (.lstore_n 1, 1) := by decide +kernel
theorem dX8_tenTo_2 : decode cX8_tenTo 2 = .ok (.iconst 0, 1) := by decide +kernel
theorem dX8_tenTo_3 : decode cX8_tenTo 3 = .ok (.istore_n 3, 1) := by decide +kernel
theorem dX8_tenTo_4 : decode cX8_tenTo 4 = .ok (.iload_n 3, 1) := by decide +kernel
theorem dX8_tenTo_5 : decode cX8_tenTo 5 = .ok (.iload_n 0, 1) := by decide +kernel
theorem dX8_tenTo_6 : decode cX8_tenTo 6 = .ok (.if_icmp .ge 15, 3) := by decide +kernel
theorem dX8_tenTo_9 : decode cX8_tenTo 9 = .ok (.lload_n 1, 1) := by decide +kernel
theorem dX8_tenTo_10 : decode cX8_tenTo 10 = .ok (.ldc2_w 40, 3) := by decide +kernel
theorem dX8_tenTo_13 : decode cX8_tenTo 13 = .ok (.lmul, 1) := by decide +kernel
theorem dX8_tenTo_14 : decode cX8_tenTo 14 = .ok (.lstore_n 1, 1) := by decide +kernel
theorem dX8_tenTo_15 : decode cX8_tenTo 15 = .ok (.iinc 3 1, 3) := by decide +kernel
theorem dX8_tenTo_18 : decode cX8_tenTo 18 = .ok (.goto (-14), 3) := by decide +kernel
theorem dX8_tenTo_21 : decode cX8_tenTo 21 = .ok (.lload_n 1, 1) := by decide +kernel
theorem dX8_tenTo_22 : decode cX8_tenTo 22 = .ok (.lreturn, 1) := by decide +kernel
theorem dX8_clean_0 : decode cX8_clean 0 = .ok (.iconst 0, 1) := by decide +kernel
theorem dX8_clean_1 : decode cX8_clean 1 = .ok (.istore 5, 2) := by decide +kernel
theorem dX8_clean_3 : decode cX8_clean 3 = .ok (.iload 5, 2) := by decide +kernel
theorem dX8_clean_5 : decode cX8_clean 5 = .ok (.sipush 357, 3) := by decide +kernel
theorem dX8_clean_8 : decode cX8_clean 8 = .ok (.if_icmp .ge 14, 3) := by decide +kernel
theorem dX8_clean_11 : decode cX8_clean 11 = .ok (.aload_n 0, 1) := by decide +kernel
theorem dX8_clean_12 : decode cX8_clean 12 = .ok (.iload 5, 2) := by decide +kernel
theorem dX8_clean_14 : decode cX8_clean 14 = .ok (.iconst 0, 1) := by decide +kernel
theorem dX8_clean_15 : decode cX8_clean 15 = .ok (.iastore, 1) := by decide +kernel
theorem dX8_clean_16 : decode cX8_clean 16 = .ok (.iinc 5 1, 3) := by decide +kernel
theorem dX8_clean_19 : decode cX8_clean 19 = .ok (.goto (-16), 3) := by decide +kernel
theorem dX8_clean_22 : decode cX8_clean 22 = .ok (.aload_n 0, 1) := by decide +kernel
theorem dX8_clean_23 : decode cX8_clean 23 = .ok (.iconst 0, 1) := by decide +kernel
theorem dX8_clean_24 : decode cX8_clean 24 = .ok (.iload_n 2, 1) := by decide +kernel
theorem dX8_clean_25 : decode cX8_clean 25 = .ok (.iastore, 1) := by decide +kernel
theorem dX8_clean_26 : decode cX8_clean 26 = .ok (.aload_n 0, 1) := by decide +kernel
theorem dX8_clean_27 : decode cX8_clean 27 = .ok (.iconst 1, 1) := by decide +kernel
theorem dX8_clean_28 : decode cX8_clean 28 = .ok (.iload_n 3, 1) := by decide +kernel
theorem dX8_clean_29 : decode cX8_clean 29 = .ok (.iastore, 1) := by decide +kernel
theorem dX8_clean_30 : decode cX8_clean 30 = .ok (.aload_n 0, 1) := by decide +kernel
theorem dX8_clean_31 : decode cX8_clean 31 = .ok (.iconst 2, 1) := by decide +kernel
theorem dX8_clean_32 : decode cX8_clean 32 = .ok (.iload 4, 2) := by decide +kernel
theorem dX8_clean_34 : decode cX8_clean 34 = .ok (.iastore, 1) := by decide +kernel
theorem dX8_clean_35 : decode cX8_clean 35 = .ok (.aload_n 0, 1) := by decide +kernel
theorem dX8_clean_36 : decode cX8_clean 36 = .ok (.iconst 3, 1) := by decide +kernel
theorem dX8_clean_37 : decode cX8_clean 37 = .ok (.iload_n 1, 1) := by decide +kernel
theorem dX8_clean_38 : decode cX8_clean 38 = .ok (.iastore, 1) := by decide +kernel
theorem dX8_clean_39 : decode cX8_clean 39 = .ok (.aload_n 0, 1) := by decide +kernel
theorem dX8_clean_40 : decode cX8_clean 40 = .ok (.bipush 15, 2) := by decide +kernel
theorem dX8_clean_42 : decode cX8_clean 42 = .ok (.iconst (-1), 1) := by decide +kernel
theorem dX8_clean_43 : decode cX8_clean 43 = .ok (.iastore, 1) := by decide +kernel
theorem dX8_clean_44 : decode cX8_clean 44 = .ok (.iconst 0, 1) := by decide +kernel
theorem dX8_clean_45 : decode cX8_clean 45 = .ok (.istore 5, 2) := by decide +kernel
theorem dX8_clean_47 : decode cX8_clean 47 = .ok (.iload 5, 2) := by decide +kernel
theorem dX8_clean_49 : decode cX8_clean 49 = .ok (.bipush 48, 2) := by decide +kernel
theorem dX8_clean_51 : decode cX8_clean 51 = .ok (.if_icmp .ge 17, 3) := by decide +kernel
theorem dX8_clean_54 : decode cX8_clean 54 = .ok (.aload_n 0, 1) := by decide +kernel
theorem dX8_clean_55 : decode cX8_clean 55 = .ok (.bipush 19, 2) := by decide +kernel
theorem dX8_clean_57 : decode cX8_clean 57 = .ok (.iload 5, 2) := by decide +kernel
theorem dX8_clean_59 : decode cX8_clean 59 = .ok (.iadd, 1) := by decide +kernel
theorem dX8_clean_60 : decode cX8_clean 60 = .ok (.iconst (-1), 1) := by decide +kernel
theorem dX8_clean_61 : decode cX8_clean 61 = .ok (.iastore, 1) := by decide +kernel
theorem dX8_clean_62 : decode cX8_clean 62 = .ok (.iinc 5 1, 3) := by decide +kernel
theorem dX8_clean_65 : decode cX8_clean 65 = .ok (.goto (-18), 3) := by decide +kernel
theorem dX8_clean_68 : decode cX8_clean 68 = .ok (.return_, 1) := by decide +kernel
set_option maxRecDepth 20000 in
theorem ggX8_remember_X8_copy : GoodIn wsX8_remember wsX8_copy := goodIn_r _ [7] (by decide +kernel) (by decide +kernel)
set_option maxRecDepth 20000 in
theorem gX8_remember_X8_copy : GoodIn wsX8_remember (va_wsS RX8 45 yX8_copy wsX8_copy) := goodIn_app (goodIn_of _ (by decide +kernel)) ggX8_remember_X8_copy
theorem dX8_remember_0 : decode cX8_remember 0 = .ok (.aload_n 0, 1) := by decide +kernel
theorem dX8_remember_1 : decode cX8_remember 1 = .ok (.getfield 42, 3) := by decide +kernel
theorem dX8_remember_4 : decode cX8_remember 4 = .ok (.bipush 14, 2) := by decide +kernel
theorem dX8_remember_6 : decode cX8_remember 6 = .ok (.if_icmp .ne 31, 3) := by decide +kernel
theorem dX8_remember_9 : decode cX8_remember 9 = .ok (.aload_n 0, 1) := by decide +kernel
theorem dX8_remember_10 : decode cX8_remember 10 = .ok (.getfield 22, 3) := by decide +kernel
theorem dX8_remember_13 : decode cX8_remember 13 = .ok (.sipush 357, 3) := by decide +kernel
theorem dX8_remember_16 : decode cX8_remember 16 = .ok (.aload_n 0, 1) := by decide +kernel
theorem dX8_remember_17 : decode cX8_remember 17 = .ok (.getfield 22, 3) := by decide +kernel
theorem dX8_remember_20 : decode cX8_remember 20 = .ok (.iconst 0, 1) := by decide +kernel
theorem dX8_remember_21 : decode cX8_remember 21 = .ok (.sipush 4641, 3) := by decide +kernel
theorem dX8_remember_24 : decode cX8_remember 24 = .ok (.invokestatic 45, 3) := by decide +kernel
theorem dX8_remember_27 : decode cX8_remember 27 = .ok (.aload_n 0, 1) := by decide +kernel
theorem dX8_remember_28 : decode cX8_remember 28 = .ok (.dup, 1) := by decide +kernel
theorem dX8_remember_29 : decode cX8_remember 29 = .ok (.getfield 42, 3) := by decide +kernel
theorem dX8_remember_32 : decode cX8_remember 32 = .ok (.iconst 1, 1) := by decide +kernel
theorem dX8_remember_33 : decode cX8_remember 33 = .ok (.isub, 1) := by decide +kernel
theorem dX8_remember_34 : decode cX8_remember 34 = .ok (.putfield 42, 3) := by decide +kernel
theorem dX8_remember_37 : decode cX8_remember 37 = .ok (.aload_n 0, 1) := by decide +kernel
theorem dX8_remember_38 : decode cX8_remember 38 = .ok (.getfield 16, 3) := by decide +kernel
theorem dX8_remember_41 : decode cX8_remember 41 = .ok (.iconst 0, 1) := by decide +kernel
theorem dX8_remember_42 : decode cX8_remember 42 = .ok (.aload_n 0, 1) := by decide +kernel
theorem dX8_remember_43 : decode cX8_remember 43 = .ok (.getfield 22, 3) := by decide +kernel
theorem dX8_remember_46 : decode cX8_remember 46 = .ok (.sipush 357, 3) := by decide +kernel
theorem dX8_remember_49 : decode cX8_remember 49 = .ok (.aload_n 0, 1) := by decide +kernel
theorem dX8_remember_50 : decode cX8_remember 50 = .ok (.getfield 42, 3) := by decide +kernel
theorem dX8_remember_53 : decode cX8_remember 53 = .ok (.imul, 1) := by decide +kernel
theorem dX8_remember_54 : decode cX8_remember 54 = .ok (.sipush 357, 3) := by decide +kernel
theorem dX8_remember_57 : decode cX8_remember 57 = .ok (.invokestatic 45, 3) := by decide +kernel
theorem dX8_remember_60 : decode cX8_remember 60 = .ok (.aload_n 0, 1) := by decide +kernel
theorem dX8_remember_61 : decode cX8_remember 61 = .ok (.dup, 1) := by decide +kernel
theorem dX8_remember_62 : decode cX8_remember 62 = .ok (.getfield 42, 3) := by decide +kernel
theorem dX8_remember_65 : decode cX8_remember 65 = .ok (.iconst 1, 1) := by decide +kernel
theorem dX8_remember_66 : decode cX8_remember 66 = .ok (.iadd, 1) := by decide +kernel
theorem dX8_remember_67 : decode cX8_remember 67 = .ok (.putfield 42, 3) := by decide +kernel
theorem dX8_remember_70 : decode cX8_remember 70 = .ok (.return_, 1) := by decide +kernel
set_option maxRecDepth 20000 in
theorem ggX8_tryIt_X8_copy : GoodIn wsX8_tryIt wsX8_copy := goodIn_r _ [6] (by decide +kernel) (by decide +kernel)
set_option maxRecDepth 20000 in
theorem gX8_tryIt_X8_copy : GoodIn wsX8_tryIt (va_wsS RX8 45 yX8_copy wsX8_copy) := goodIn_app (goodIn_of _ (by decide +kernel)) ggX8_tryIt_X8_copy
theorem dX8_tryIt_0 : decode cX8_tryIt 0 = .ok (.aload_n 0, 1) := by decide +kernel
theorem dX8_tryIt_1 : decode cX8_tryIt 1 = .ok (.getfield 16, 3) := by decide +kernel
theorem dX8_tryIt_4 : decode cX8_tryIt 4 = .ok (.iconst 0, 1) := by decide +kernel
theorem dX8_tryIt_5 : decode cX8_tryIt 5 = .ok (.aload_n 0, 1) := by decide +kernel
theorem dX8_tryIt_6 : decode cX8_tryIt 6 = .ok (.getfield 19, 3) := by decide +kernel
theorem dX8_tryIt_9 : decode cX8_tryIt 9 = .ok (.iconst 0, 1) := by decide +kernel
theorem dX8_tryIt_10 : decode cX8_tryIt 10 = .ok (.sipush 357, 3) := by decide +kernel
theorem dX8_tryIt_13 : decode cX8_tryIt 13 = .ok (.invokestatic 45, 3) := by decide +kernel
theorem dX8_tryIt_16 : decode cX8_tryIt 16 = .ok (.return_, 1) := by decide +kernel
theorem dX8_keptAt_0 : decode cX8_keptAt 0 = .ok (.bipush 67, 2) := by decide +kernel
theorem dX8_keptAt_2 : decode cX8_keptAt 2 = .ok (.iconst 5, 1) := by decide +kernel
theorem dX8_keptAt_3 : decode cX8_keptAt 3 = .ok (.iload_n 0, 1) := by decide +kernel
theorem dX8_keptAt_4 : decode cX8_keptAt 4 = .ok (.imul, 1) := by decide +kernel
theorem dX8_keptAt_5 : decode cX8_keptAt 5 = .ok (.iadd, 1) := by decide +kernel
theorem dX8_keptAt_6 : decode cX8_keptAt 6 = .ok (.iload_n 1, 1) := by decide +kernel
theorem dX8_keptAt_7 : decode cX8_keptAt 7 = .ok (.iadd, 1) := by decide +kernel
theorem dX8_keptAt_8 : decode cX8_keptAt 8 = .ok (.ireturn, 1) := by decide +kernel
theorem dX8_waitAt_0 : decode cX8_waitAt 0 = .ok (.sipush 307, 3) := by decide +kernel
theorem dX8_waitAt_3 : decode cX8_waitAt 3 = .ok (.iconst 4, 1) := by decide +kernel
theorem dX8_waitAt_4 : decode cX8_waitAt 4 = .ok (.iload_n 0, 1) := by decide +kernel
theorem dX8_waitAt_5 : decode cX8_waitAt 5 = .ok (.imul, 1) := by decide +kernel
theorem dX8_waitAt_6 : decode cX8_waitAt 6 = .ok (.iadd, 1) := by decide +kernel
theorem dX8_waitAt_7 : decode cX8_waitAt 7 = .ok (.iload_n 1, 1) := by decide +kernel
theorem dX8_waitAt_8 : decode cX8_waitAt 8 = .ok (.iadd, 1) := by decide +kernel
theorem dX8_waitAt_9 : decode cX8_waitAt 9 = .ok (.ireturn, 1) := by decide +kernel
theorem dX8_difference_0 : decode cX8_difference 0 = .ok (.iconst 0, 1) := by decide +kernel
theorem dX8_difference_1 : decode cX8_difference 1 = .ok (.istore_n 2, 1) := by decide +kernel
theorem dX8_difference_2 : decode cX8_difference 2 = .ok (.iload_n 0, 1) := by decide +kernel
theorem dX8_difference_3 : decode cX8_difference 3 = .ok (.istore_n 3, 1) := by decide +kernel
theorem dX8_difference_4 : decode cX8_difference 4 = .ok (.iload_n 1, 1) := by decide +kernel
theorem dX8_difference_5 : decode cX8_difference 5 = .ok (.istore 4, 2) := by decide +kernel
theorem dX8_difference_7 : decode cX8_difference 7 = .ok (.iconst 0, 1) := by decide +kernel
theorem dX8_difference_8 : decode cX8_difference 8 = .ok (.istore 5, 2) := by decide +kernel
theorem dX8_difference_10 : decode cX8_difference 10 = .ok (.iload 5, 2) := by decide +kernel
theorem dX8_difference_12 : decode cX8_difference 12 = .ok (.bipush 6, 2) := by decide +kernel
theorem dX8_difference_14 : decode cX8_difference 14 = .ok (.if_icmp .ge 49, 3) := by decide +kernel
theorem dX8_difference_17 : decode cX8_difference 17 = .ok (.iload_n 3, 1) := by decide +kernel
theorem dX8_difference_18 : decode cX8_difference 18 = .ok (.bipush 10, 2) := by decide +kernel
theorem dX8_difference_20 : decode cX8_difference 20 = .ok (.irem, 1) := by decide +kernel
theorem dX8_difference_21 : decode cX8_difference 21 = .ok (.iload 4, 2) := by decide +kernel
theorem dX8_difference_23 : decode cX8_difference 23 = .ok (.bipush 10, 2) := by decide +kernel
theorem dX8_difference_25 : decode cX8_difference 25 = .ok (.irem, 1) := by decide +kernel
theorem dX8_difference_26 : decode cX8_difference 26 = .ok (.isub, 1) := by decide +kernel
theorem dX8_difference_27 : decode cX8_difference 27 = .ok (.istore 6, 2) := by decide +kernel
theorem dX8_difference_29 : decode cX8_difference 29 = .ok (.iload_n 2, 1) := by decide +kernel
theorem dX8_difference_30 : decode cX8_difference 30 = .ok (.iload 6, 2) := by decide +kernel
theorem dX8_difference_32 : decode cX8_difference 32 = .ok (.ifCond .ge 9, 3) := by decide +kernel
theorem dX8_difference_35 : decode cX8_difference 35 = .ok (.iload 6, 2) := by decide +kernel
theorem dX8_difference_37 : decode cX8_difference 37 = .ok (.ineg, 1) := by decide +kernel
theorem dX8_difference_38 : decode cX8_difference 38 = .ok (.goto 5, 3) := by decide +kernel
theorem dX8_difference_41 : decode cX8_difference 41 = .ok (.iload 6, 2) := by decide +kernel
theorem dX8_difference_43 : decode cX8_difference 43 = .ok (.iadd, 1) := by decide +kernel
theorem dX8_difference_44 : decode cX8_difference 44 = .ok (.istore_n 2, 1) := by decide +kernel
theorem dX8_difference_45 : decode cX8_difference 45 = .ok (.iload_n 3, 1) := by decide +kernel
theorem dX8_difference_46 : decode cX8_difference 46 = .ok (.bipush 10, 2) := by decide +kernel
theorem dX8_difference_48 : decode cX8_difference 48 = .ok (.idiv, 1) := by decide +kernel
theorem dX8_difference_49 : decode cX8_difference 49 = .ok (.istore_n 3, 1) := by decide +kernel
theorem dX8_difference_50 : decode cX8_difference 50 = .ok (.iload 4, 2) := by decide +kernel
theorem dX8_difference_52 : decode cX8_difference 52 = .ok (.bipush 10, 2) := by decide +kernel
theorem dX8_difference_54 : decode cX8_difference 54 = .ok (.idiv, 1) := by decide +kernel
theorem dX8_difference_55 : decode cX8_difference 55 = .ok (.istore 4, 2) := by decide +kernel
theorem dX8_difference_57 : decode cX8_difference 57 = .ok (.iinc 5 1, 3) := by decide +kernel
theorem dX8_difference_60 : decode cX8_difference 60 = .ok (.goto (-50), 3) := by decide +kernel
theorem dX8_difference_63 : decode cX8_difference 63 = .ok (.iload_n 2, 1) := by decide +kernel
theorem dX8_difference_64 : decode cX8_difference 64 = .ok (.ireturn, 1) := by decide +kernel
theorem dX8_sizeOf_0 : decode cX8_sizeOf 0 = .ok (.iconst 1, 1) := by decide +kernel
theorem dX8_sizeOf_1 : decode cX8_sizeOf 1 = .ok (.iload_n 0, 1) := by decide +kernel
theorem dX8_sizeOf_2 : decode cX8_sizeOf 2 = .ok (.bipush 9, 2) := by decide +kernel
theorem dX8_sizeOf_4 : decode cX8_sizeOf 4 = .ok (.idiv, 1) := by decide +kernel
theorem dX8_sizeOf_5 : decode cX8_sizeOf 5 = .ok (.iadd, 1) := by decide +kernel
theorem dX8_sizeOf_6 : decode cX8_sizeOf 6 = .ok (.ireturn, 1) := by decide +kernel
set_option maxRecDepth 20000 in
theorem ggX8_changeOf_X8_keptAt : GoodIn wsX8_changeOf wsX8_keptAt := goodIn_r _ [4] (by decide +kernel) (by decide +kernel)
set_option maxRecDepth 20000 in
theorem gX8_changeOf_X8_keptAt : GoodIn wsX8_changeOf (va_wsS RX8 49 yX8_keptAt wsX8_keptAt) := goodIn_app (goodIn_of _ (by decide +kernel)) ggX8_changeOf_X8_keptAt
set_option maxRecDepth 20000 in
theorem ggX8_changeOf_X8_difference : GoodIn wsX8_changeOf wsX8_difference := goodIn_r _ [7] (by decide +kernel) (by decide +kernel)
set_option maxRecDepth 20000 in
theorem gX8_changeOf_X8_difference : GoodIn wsX8_changeOf (va_wsS RX8 53 yX8_difference wsX8_difference) := goodIn_app (goodIn_of _ (by decide +kernel)) ggX8_changeOf_X8_difference
theorem dX8_changeOf_0 : decode cX8_changeOf 0 = .ok (.iload_n 1, 1) := by decide +kernel
theorem dX8_changeOf_1 : decode cX8_changeOf 1 = .ok (.ifCond .ne 7, 3) := by decide +kernel
theorem dX8_changeOf_4 : decode cX8_changeOf 4 = .ok (.iconst (-1), 1) := by decide +kernel
theorem dX8_changeOf_5 : decode cX8_changeOf 5 = .ok (.goto 22, 3) := by decide +kernel
theorem dX8_changeOf_8 : decode cX8_changeOf 8 = .ok (.aload_n 0, 1) := by decide +kernel
theorem dX8_changeOf_9 : decode cX8_changeOf 9 = .ok (.iload_n 1, 1) := by decide +kernel
theorem dX8_changeOf_10 : decode cX8_changeOf 10 = .ok (.iconst 1, 1) := by decide +kernel
theorem dX8_changeOf_11 : decode cX8_changeOf 11 = .ok (.invokestatic 49, 3) := by decide +kernel
theorem dX8_changeOf_14 : decode cX8_changeOf 14 = .ok (.iaload, 1) := by decide +kernel
theorem dX8_changeOf_15 : decode cX8_changeOf 15 = .ok (.aload_n 0, 1) := by decide +kernel
theorem dX8_changeOf_16 : decode cX8_changeOf 16 = .ok (.iload_n 1, 1) := by decide +kernel
theorem dX8_changeOf_17 : decode cX8_changeOf 17 = .ok (.iconst 1, 1) := by decide +kernel
theorem dX8_changeOf_18 : decode cX8_changeOf 18 = .ok (.isub, 1) := by decide +kernel
theorem dX8_changeOf_19 : decode cX8_changeOf 19 = .ok (.iconst 1, 1) := by decide +kernel
theorem dX8_changeOf_20 : decode cX8_changeOf 20 = .ok (.invokestatic 49, 3) := by decide +kernel
theorem dX8_changeOf_23 : decode cX8_changeOf 23 = .ok (.iaload, 1) := by decide +kernel
theorem dX8_changeOf_24 : decode cX8_changeOf 24 = .ok (.invokestatic 53, 3) := by decide +kernel
theorem dX8_changeOf_27 : decode cX8_changeOf 27 = .ok (.ireturn, 1) := by decide +kernel
theorem dX8_count_0 : decode cX8_count 0 = .ok (.iconst 0, 1) := by decide +kernel
theorem dX8_count_1 : decode cX8_count 1 = .ok (.istore_n 2, 1) := by decide +kernel
theorem dX8_count_2 : decode cX8_count 2 = .ok (.iconst 0, 1) := by decide +kernel
theorem dX8_count_3 : decode cX8_count 3 = .ok (.istore_n 3, 1) := by decide +kernel
theorem dX8_count_4 : decode cX8_count 4 = .ok (.iload_n 3, 1) := by decide +kernel
theorem dX8_count_5 : decode cX8_count 5 = .ok (.aload_n 0, 1) := by decide +kernel
theorem dX8_count_6 : decode cX8_count 6 = .ok (.iconst 3, 1) := by decide +kernel
theorem dX8_count_7 : decode cX8_count 7 = .ok (.iaload, 1) := by decide +kernel
theorem dX8_count_8 : decode cX8_count 8 = .ok (.if_icmp .ge 27, 3) := by decide +kernel
theorem dX8_count_11 : decode cX8_count 11 = .ok (.iload_n 2, 1) := by decide +kernel
theorem dX8_count_12 : decode cX8_count 12 = .ok (.aload_n 0, 1) := by decide +kernel
theorem dX8_count_13 : decode cX8_count 13 = .ok (.bipush 19, 2) := by decide +kernel
theorem dX8_count_15 : decode cX8_count 15 = .ok (.iload_n 3, 1) := by decide +kernel
theorem dX8_count_16 : decode cX8_count 16 = .ok (.iadd, 1) := by decide +kernel
theorem dX8_count_17 : decode cX8_count 17 = .ok (.iaload, 1) := by decide +kernel
theorem dX8_count_18 : decode cX8_count 18 = .ok (.iload_n 1, 1) := by decide +kernel
theorem dX8_count_19 : decode cX8_count 19 = .ok (.if_icmp .ne 7, 3) := by decide +kernel
theorem dX8_count_22 : decode cX8_count 22 = .ok (.iconst 1, 1) := by decide +kernel
theorem dX8_count_23 : decode cX8_count 23 = .ok (.goto 4, 3) := by decide +kernel
theorem dX8_count_26 : decode cX8_count 26 = .ok (.iconst 0, 1) := by decide +kernel
theorem dX8_count_27 : decode cX8_count 27 = .ok (.iadd, 1) := by decide +kernel
theorem dX8_count_28 : decode cX8_count 28 = .ok (.istore_n 2, 1) := by decide +kernel
theorem dX8_count_29 : decode cX8_count 29 = .ok (.iinc 3 1, 3) := by decide +kernel
theorem dX8_count_32 : decode cX8_count 32 = .ok (.goto (-28), 3) := by decide +kernel
theorem dX8_count_35 : decode cX8_count 35 = .ok (.iload_n 2, 1) := by decide +kernel
theorem dX8_count_36 : decode cX8_count 36 = .ok (.ireturn, 1) := by decide +kernel
set_option maxRecDepth 20000 in
theorem ggX8_shootIn_X8_difference : GoodIn wsX8_shootIn wsX8_difference := goodIn_r _ [4] (by decide +kernel) (by decide +kernel)
set_option maxRecDepth 20000 in
theorem gX8_shootIn_X8_difference : GoodIn wsX8_shootIn (va_wsS RX8 53 yX8_difference wsX8_difference) := goodIn_app (goodIn_of _ (by decide +kernel)) ggX8_shootIn_X8_difference
set_option maxRecDepth 20000 in
theorem ggX8_shootIn_X8_sizeOf : GoodIn wsX8_shootIn wsX8_sizeOf := goodIn_r _ [7] (by decide +kernel) (by decide +kernel)
set_option maxRecDepth 20000 in
theorem gX8_shootIn_X8_sizeOf : GoodIn wsX8_shootIn (va_wsS RX8 56 yX8_sizeOf wsX8_sizeOf) := goodIn_app (goodIn_of _ (by decide +kernel)) ggX8_shootIn_X8_sizeOf
set_option maxRecDepth 20000 in
theorem ggX8_shootIn_X8_waitAt : GoodIn wsX8_shootIn wsX8_waitAt := goodIn_r _ [10] (by decide +kernel) (by decide +kernel)
set_option maxRecDepth 20000 in
theorem gX8_shootIn_X8_waitAt : GoodIn wsX8_shootIn (va_wsS RX8 60 yX8_waitAt wsX8_waitAt) := goodIn_app (goodIn_of _ (by decide +kernel)) ggX8_shootIn_X8_waitAt
theorem dX8_shootIn_0 : decode cX8_shootIn 0 = .ok (.aload_n 0, 1) := by decide +kernel
theorem dX8_shootIn_1 : decode cX8_shootIn 1 = .ok (.iconst 5, 1) := by decide +kernel
theorem dX8_shootIn_2 : decode cX8_shootIn 2 = .ok (.iaload, 1) := by decide +kernel
theorem dX8_shootIn_3 : decode cX8_shootIn 3 = .ok (.istore_n 2, 1) := by decide +kernel
theorem dX8_shootIn_4 : decode cX8_shootIn 4 = .ok (.aload_n 0, 1) := by decide +kernel
theorem dX8_shootIn_5 : decode cX8_shootIn 5 = .ok (.bipush 15, 2) := by decide +kernel
theorem dX8_shootIn_7 : decode cX8_shootIn 7 = .ok (.iaload, 1) := by decide +kernel
theorem dX8_shootIn_8 : decode cX8_shootIn 8 = .ok (.iconst (-1), 1) := by decide +kernel
theorem dX8_shootIn_9 : decode cX8_shootIn 9 = .ok (.if_icmp .ne 8, 3) := by decide +kernel
theorem dX8_shootIn_12 : decode cX8_shootIn 12 = .ok (.bipush 7, 2) := by decide +kernel
theorem dX8_shootIn_14 : decode cX8_shootIn 14 = .ok (.goto 14, 3) := by decide +kernel
theorem dX8_shootIn_17 : decode cX8_shootIn 17 = .ok (.iload_n 1, 1) := by decide +kernel
theorem dX8_shootIn_18 : decode cX8_shootIn 18 = .ok (.aload_n 0, 1) := by decide +kernel
theorem dX8_shootIn_19 : decode cX8_shootIn 19 = .ok (.bipush 15, 2) := by decide +kernel
theorem dX8_shootIn_21 : decode cX8_shootIn 21 = .ok (.iaload, 1) := by decide +kernel
theorem dX8_shootIn_22 : decode cX8_shootIn 22 = .ok (.invokestatic 53, 3) := by decide +kernel
theorem dX8_shootIn_25 : decode cX8_shootIn 25 = .ok (.invokestatic 56, 3) := by decide +kernel
theorem dX8_shootIn_28 : decode cX8_shootIn 28 = .ok (.istore_n 3, 1) := by decide +kernel
theorem dX8_shootIn_29 : decode cX8_shootIn 29 = .ok (.aload_n 0, 1) := by decide +kernel
theorem dX8_shootIn_30 : decode cX8_shootIn 30 = .ok (.iconst 5, 1) := by decide +kernel
theorem dX8_shootIn_31 : decode cX8_shootIn 31 = .ok (.dup2, 1) := by decide +kernel
theorem dX8_shootIn_32 : decode cX8_shootIn 32 = .ok (.iaload, 1) := by decide +kernel
theorem dX8_shootIn_33 : decode cX8_shootIn 33 = .ok (.iconst 1, 1) := by decide +kernel
theorem dX8_shootIn_34 : decode cX8_shootIn 34 = .ok (.iadd, 1) := by decide +kernel
theorem dX8_shootIn_35 : decode cX8_shootIn 35 = .ok (.iastore, 1) := by decide +kernel
theorem dX8_shootIn_36 : decode cX8_shootIn 36 = .ok (.aload_n 0, 1) := by decide +kernel
theorem dX8_shootIn_37 : decode cX8_shootIn 37 = .ok (.bipush 13, 2) := by decide +kernel
theorem dX8_shootIn_39 : decode cX8_shootIn 39 = .ok (.dup2, 1) := by decide +kernel
theorem dX8_shootIn_40 : decode cX8_shootIn 40 = .ok (.iaload, 1) := by decide +kernel
theorem dX8_shootIn_41 : decode cX8_shootIn 41 = .ok (.iconst 1, 1) := by decide +kernel
theorem dX8_shootIn_42 : decode cX8_shootIn 42 = .ok (.iadd, 1) := by decide +kernel
theorem dX8_shootIn_43 : decode cX8_shootIn 43 = .ok (.iastore, 1) := by decide +kernel
theorem dX8_shootIn_44 : decode cX8_shootIn 44 = .ok (.aload_n 0, 1) := by decide +kernel
theorem dX8_shootIn_45 : decode cX8_shootIn 45 = .ok (.bipush 15, 2) := by decide +kernel
theorem dX8_shootIn_47 : decode cX8_shootIn 47 = .ok (.iload_n 1, 1) := by decide +kernel
theorem dX8_shootIn_48 : decode cX8_shootIn 48 = .ok (.iastore, 1) := by decide +kernel
theorem dX8_shootIn_49 : decode cX8_shootIn 49 = .ok (.aload_n 0, 1) := by decide +kernel
theorem dX8_shootIn_50 : decode cX8_shootIn 50 = .ok (.bipush 17, 2) := by decide +kernel
theorem dX8_shootIn_52 : decode cX8_shootIn 52 = .ok (.iaload, 1) := by decide +kernel
theorem dX8_shootIn_53 : decode cX8_shootIn 53 = .ok (.iconst 4, 1) := by decide +kernel
theorem dX8_shootIn_54 : decode cX8_shootIn 54 = .ok (.if_icmp .ne 21, 3) := by decide +kernel
theorem dX8_shootIn_57 : decode cX8_shootIn 57 = .ok (.aload_n 0, 1) := by decide +kernel
theorem dX8_shootIn_58 : decode cX8_shootIn 58 = .ok (.bipush 7, 2) := by decide +kernel
theorem dX8_shootIn_60 : decode cX8_shootIn 60 = .ok (.dup2, 1) := by decide +kernel
theorem dX8_shootIn_61 : decode cX8_shootIn 61 = .ok (.iaload, 1) := by decide +kernel
theorem dX8_shootIn_62 : decode cX8_shootIn 62 = .ok (.iconst 1, 1) := by decide +kernel
theorem dX8_shootIn_63 : decode cX8_shootIn 63 = .ok (.iadd, 1) := by decide +kernel
theorem dX8_shootIn_64 : decode cX8_shootIn 64 = .ok (.iastore, 1) := by decide +kernel
theorem dX8_shootIn_65 : decode cX8_shootIn 65 = .ok (.aload_n 0, 1) := by decide +kernel
theorem dX8_shootIn_66 : decode cX8_shootIn 66 = .ok (.bipush 14, 2) := by decide +kernel
theorem dX8_shootIn_68 : decode cX8_shootIn 68 = .ok (.dup2, 1) := by decide +kernel
theorem dX8_shootIn_69 : decode cX8_shootIn 69 = .ok (.iaload, 1) := by decide +kernel
theorem dX8_shootIn_70 : decode cX8_shootIn 70 = .ok (.iconst 1, 1) := by decide +kernel
theorem dX8_shootIn_71 : decode cX8_shootIn 71 = .ok (.iadd, 1) := by decide +kernel
theorem dX8_shootIn_72 : decode cX8_shootIn 72 = .ok (.iastore, 1) := by decide +kernel
theorem dX8_shootIn_73 : decode cX8_shootIn 73 = .ok (.iconst (-1), 1) := by decide +kernel
theorem dX8_shootIn_74 : decode cX8_shootIn 74 = .ok (.ireturn, 1) := by decide +kernel
theorem dX8_shootIn_75 : decode cX8_shootIn 75 = .ok (.aload_n 0, 1) := by decide +kernel
theorem dX8_shootIn_76 : decode cX8_shootIn 76 = .ok (.bipush 17, 2) := by decide +kernel
theorem dX8_shootIn_78 : decode cX8_shootIn 78 = .ok (.iaload, 1) := by decide +kernel
theorem dX8_shootIn_79 : decode cX8_shootIn 79 = .ok (.istore 4, 2) := by decide +kernel
theorem dX8_shootIn_81 : decode cX8_shootIn 81 = .ok (.aload_n 0, 1) := by decide +kernel
theorem dX8_shootIn_82 : decode cX8_shootIn 82 = .ok (.iload 4, 2) := by decide +kernel
theorem dX8_shootIn_84 : decode cX8_shootIn 84 = .ok (.iconst 0, 1) := by decide +kernel
theorem dX8_shootIn_85 : decode cX8_shootIn 85 = .ok (.invokestatic 60, 3) := by decide +kernel
theorem dX8_shootIn_88 : decode cX8_shootIn 88 = .ok (.iload_n 2, 1) := by decide +kernel
theorem dX8_shootIn_89 : decode cX8_shootIn 89 = .ok (.iastore, 1) := by decide +kernel
theorem dX8_shootIn_90 : decode cX8_shootIn 90 = .ok (.aload_n 0, 1) := by decide +kernel
theorem dX8_shootIn_91 : decode cX8_shootIn 91 = .ok (.iload 4, 2) := by decide +kernel
theorem dX8_shootIn_93 : decode cX8_shootIn 93 = .ok (.iconst 1, 1) := by decide +kernel
theorem dX8_shootIn_94 : decode cX8_shootIn 94 = .ok (.invokestatic 60, 3) := by decide +kernel
theorem dX8_shootIn_97 : decode cX8_shootIn 97 = .ok (.iload_n 1, 1) := by decide +kernel
theorem dX8_shootIn_98 : decode cX8_shootIn 98 = .ok (.iastore, 1) := by decide +kernel
theorem dX8_shootIn_99 : decode cX8_shootIn 99 = .ok (.aload_n 0, 1) := by decide +kernel
theorem dX8_shootIn_100 : decode cX8_shootIn 100 = .ok (.iload 4, 2) := by decide +kernel
theorem dX8_shootIn_102 : decode cX8_shootIn 102 = .ok (.iconst 2, 1) := by decide +kernel
theorem dX8_shootIn_103 : decode cX8_shootIn 103 = .ok (.invokestatic 60, 3) := by decide +kernel
theorem dX8_shootIn_106 : decode cX8_shootIn 106 = .ok (.iload_n 3, 1) := by decide +kernel
theorem dX8_shootIn_107 : decode cX8_shootIn 107 = .ok (.iastore, 1) := by decide +kernel
theorem dX8_shootIn_108 : decode cX8_shootIn 108 = .ok (.aload_n 0, 1) := by decide +kernel
theorem dX8_shootIn_109 : decode cX8_shootIn 109 = .ok (.iload 4, 2) := by decide +kernel
theorem dX8_shootIn_111 : decode cX8_shootIn 111 = .ok (.iconst 3, 1) := by decide +kernel
theorem dX8_shootIn_112 : decode cX8_shootIn 112 = .ok (.invokestatic 60, 3) := by decide +kernel
theorem dX8_shootIn_115 : decode cX8_shootIn 115 = .ok (.aload_n 0, 1) := by decide +kernel
theorem dX8_shootIn_116 : decode cX8_shootIn 116 = .ok (.iconst 4, 1) := by decide +kernel
theorem dX8_shootIn_117 : decode cX8_shootIn 117 = .ok (.iaload, 1) := by decide +kernel
theorem dX8_shootIn_118 : decode cX8_shootIn 118 = .ok (.iastore, 1) := by decide +kernel
theorem dX8_shootIn_119 : decode cX8_shootIn 119 = .ok (.aload_n 0, 1) := by decide +kernel
theorem dX8_shootIn_120 : decode cX8_shootIn 120 = .ok (.bipush 17, 2) := by decide +kernel
theorem dX8_shootIn_122 : decode cX8_shootIn 122 = .ok (.dup2, 1) := by decide +kernel
theorem dX8_shootIn_123 : decode cX8_shootIn 123 = .ok (.iaload, 1) := by decide +kernel
theorem dX8_shootIn_124 : decode cX8_shootIn 124 = .ok (.iconst 1, 1) := by decide +kernel
theorem dX8_shootIn_125 : decode cX8_shootIn 125 = .ok (.iadd, 1) := by decide +kernel
theorem dX8_shootIn_126 : decode cX8_shootIn 126 = .ok (.iastore, 1) := by decide +kernel
theorem dX8_shootIn_127 : decode cX8_shootIn 127 = .ok (.iload_n 2, 1) := by decide +kernel
theorem dX8_shootIn_128 : decode cX8_shootIn 128 = .ok (.ireturn, 1) := by decide +kernel
set_option maxRecDepth 20000 in
theorem ggX8_dropIn_X8_keptAt : GoodIn wsX8_dropIn wsX8_keptAt := goodIn_r _ [4] (by decide +kernel) (by decide +kernel)
set_option maxRecDepth 20000 in
theorem gX8_dropIn_X8_keptAt : GoodIn wsX8_dropIn (va_wsS RX8 49 yX8_keptAt wsX8_keptAt) := goodIn_app (goodIn_of _ (by decide +kernel)) ggX8_dropIn_X8_keptAt
set_option maxRecDepth 20000 in
theorem ggX8_dropIn_X8_copy : GoodIn wsX8_dropIn wsX8_copy := goodIn_r _ [7] (by decide +kernel) (by decide +kernel)
set_option maxRecDepth 20000 in
theorem gX8_dropIn_X8_copy : GoodIn wsX8_dropIn (va_wsS RX8 45 yX8_copy wsX8_copy) := goodIn_app (goodIn_of _ (by decide +kernel)) ggX8_dropIn_X8_copy
theorem dX8_dropIn_0 : decode cX8_dropIn 0 = .ok (.aload_n 0, 1) := by decide +kernel
theorem dX8_dropIn_1 : decode cX8_dropIn 1 = .ok (.iload_n 1, 1) := by decide +kernel
theorem dX8_dropIn_2 : decode cX8_dropIn 2 = .ok (.iconst 0, 1) := by decide +kernel
theorem dX8_dropIn_3 : decode cX8_dropIn 3 = .ok (.invokestatic 49, 3) := by decide +kernel
theorem dX8_dropIn_6 : decode cX8_dropIn 6 = .ok (.iaload, 1) := by decide +kernel
theorem dX8_dropIn_7 : decode cX8_dropIn 7 = .ok (.istore_n 2, 1) := by decide +kernel
theorem dX8_dropIn_8 : decode cX8_dropIn 8 = .ok (.aload_n 0, 1) := by decide +kernel
theorem dX8_dropIn_9 : decode cX8_dropIn 9 = .ok (.iload_n 1, 1) := by decide +kernel
theorem dX8_dropIn_10 : decode cX8_dropIn 10 = .ok (.iconst 2, 1) := by decide +kernel
theorem dX8_dropIn_11 : decode cX8_dropIn 11 = .ok (.invokestatic 49, 3) := by decide +kernel
theorem dX8_dropIn_14 : decode cX8_dropIn 14 = .ok (.iaload, 1) := by decide +kernel
theorem dX8_dropIn_15 : decode cX8_dropIn 15 = .ok (.istore_n 3, 1) := by decide +kernel
theorem dX8_dropIn_16 : decode cX8_dropIn 16 = .ok (.iconst 0, 1) := by decide +kernel
theorem dX8_dropIn_17 : decode cX8_dropIn 17 = .ok (.istore 4, 2) := by decide +kernel
theorem dX8_dropIn_19 : decode cX8_dropIn 19 = .ok (.iload 4, 2) := by decide +kernel
theorem dX8_dropIn_21 : decode cX8_dropIn 21 = .ok (.aload_n 0, 1) := by decide +kernel
theorem dX8_dropIn_22 : decode cX8_dropIn 22 = .ok (.iconst 3, 1) := by decide +kernel
theorem dX8_dropIn_23 : decode cX8_dropIn 23 = .ok (.iaload, 1) := by decide +kernel
theorem dX8_dropIn_24 : decode cX8_dropIn 24 = .ok (.if_icmp .ge 39, 3) := by decide +kernel
theorem dX8_dropIn_27 : decode cX8_dropIn 27 = .ok (.aload_n 0, 1) := by decide +kernel
theorem dX8_dropIn_28 : decode cX8_dropIn 28 = .ok (.bipush 19, 2) := by decide +kernel
theorem dX8_dropIn_30 : decode cX8_dropIn 30 = .ok (.iload 4, 2) := by decide +kernel
theorem dX8_dropIn_32 : decode cX8_dropIn 32 = .ok (.iadd, 1) := by decide +kernel
theorem dX8_dropIn_33 : decode cX8_dropIn 33 = .ok (.aload_n 0, 1) := by decide +kernel
theorem dX8_dropIn_34 : decode cX8_dropIn 34 = .ok (.bipush 19, 2) := by decide +kernel
theorem dX8_dropIn_36 : decode cX8_dropIn 36 = .ok (.iload 4, 2) := by decide +kernel
theorem dX8_dropIn_38 : decode cX8_dropIn 38 = .ok (.iadd, 1) := by decide +kernel
theorem dX8_dropIn_39 : decode cX8_dropIn 39 = .ok (.iaload, 1) := by decide +kernel
theorem dX8_dropIn_40 : decode cX8_dropIn 40 = .ok (.iload_n 2, 1) := by decide +kernel
theorem dX8_dropIn_41 : decode cX8_dropIn 41 = .ok (.if_icmp .ne 8, 3) := by decide +kernel
theorem dX8_dropIn_44 : decode cX8_dropIn 44 = .ok (.bipush (-2), 2) := by decide +kernel
theorem dX8_dropIn_46 : decode cX8_dropIn 46 = .ok (.goto 10, 3) := by decide +kernel
theorem dX8_dropIn_49 : decode cX8_dropIn 49 = .ok (.aload_n 0, 1) := by decide +kernel
theorem dX8_dropIn_50 : decode cX8_dropIn 50 = .ok (.bipush 19, 2) := by decide +kernel
theorem dX8_dropIn_52 : decode cX8_dropIn 52 = .ok (.iload 4, 2) := by decide +kernel
theorem dX8_dropIn_54 : decode cX8_dropIn 54 = .ok (.iadd, 1) := by decide +kernel
theorem dX8_dropIn_55 : decode cX8_dropIn 55 = .ok (.iaload, 1) := by decide +kernel
theorem dX8_dropIn_56 : decode cX8_dropIn 56 = .ok (.iastore, 1) := by decide +kernel
theorem dX8_dropIn_57 : decode cX8_dropIn 57 = .ok (.iinc 4 1, 3) := by decide +kernel
theorem dX8_dropIn_60 : decode cX8_dropIn 60 = .ok (.goto (-41), 3) := by decide +kernel
theorem dX8_dropIn_63 : decode cX8_dropIn 63 = .ok (.aload_n 0, 1) := by decide +kernel
theorem dX8_dropIn_64 : decode cX8_dropIn 64 = .ok (.iload_n 1, 1) := by decide +kernel
theorem dX8_dropIn_65 : decode cX8_dropIn 65 = .ok (.iconst 1, 1) := by decide +kernel
theorem dX8_dropIn_66 : decode cX8_dropIn 66 = .ok (.iadd, 1) := by decide +kernel
theorem dX8_dropIn_67 : decode cX8_dropIn 67 = .ok (.iconst 0, 1) := by decide +kernel
theorem dX8_dropIn_68 : decode cX8_dropIn 68 = .ok (.invokestatic 49, 3) := by decide +kernel
theorem dX8_dropIn_71 : decode cX8_dropIn 71 = .ok (.aload_n 0, 1) := by decide +kernel
theorem dX8_dropIn_72 : decode cX8_dropIn 72 = .ok (.iload_n 1, 1) := by decide +kernel
theorem dX8_dropIn_73 : decode cX8_dropIn 73 = .ok (.iconst 0, 1) := by decide +kernel
theorem dX8_dropIn_74 : decode cX8_dropIn 74 = .ok (.invokestatic 49, 3) := by decide +kernel
theorem dX8_dropIn_77 : decode cX8_dropIn 77 = .ok (.iconst 5, 1) := by decide +kernel
theorem dX8_dropIn_78 : decode cX8_dropIn 78 = .ok (.aload_n 0, 1) := by decide +kernel
theorem dX8_dropIn_79 : decode cX8_dropIn 79 = .ok (.bipush 16, 2) := by decide +kernel
theorem dX8_dropIn_81 : decode cX8_dropIn 81 = .ok (.iaload, 1) := by decide +kernel
theorem dX8_dropIn_82 : decode cX8_dropIn 82 = .ok (.iconst 1, 1) := by decide +kernel
theorem dX8_dropIn_83 : decode cX8_dropIn 83 = .ok (.isub, 1) := by decide +kernel
theorem dX8_dropIn_84 : decode cX8_dropIn 84 = .ok (.iload_n 1, 1) := by decide +kernel
theorem dX8_dropIn_85 : decode cX8_dropIn 85 = .ok (.isub, 1) := by decide +kernel
theorem dX8_dropIn_86 : decode cX8_dropIn 86 = .ok (.imul, 1) := by decide +kernel
theorem dX8_dropIn_87 : decode cX8_dropIn 87 = .ok (.invokestatic 45, 3) := by decide +kernel
theorem dX8_dropIn_90 : decode cX8_dropIn 90 = .ok (.aload_n 0, 1) := by decide +kernel
theorem dX8_dropIn_91 : decode cX8_dropIn 91 = .ok (.bipush 16, 2) := by decide +kernel
theorem dX8_dropIn_93 : decode cX8_dropIn 93 = .ok (.dup2, 1) := by decide +kernel
theorem dX8_dropIn_94 : decode cX8_dropIn 94 = .ok (.iaload, 1) := by decide +kernel
theorem dX8_dropIn_95 : decode cX8_dropIn 95 = .ok (.iconst 1, 1) := by decide +kernel
theorem dX8_dropIn_96 : decode cX8_dropIn 96 = .ok (.isub, 1) := by decide +kernel
theorem dX8_dropIn_97 : decode cX8_dropIn 97 = .ok (.iastore, 1) := by decide +kernel
theorem dX8_dropIn_98 : decode cX8_dropIn 98 = .ok (.aload_n 0, 1) := by decide +kernel
theorem dX8_dropIn_99 : decode cX8_dropIn 99 = .ok (.bipush 6, 2) := by decide +kernel
theorem dX8_dropIn_101 : decode cX8_dropIn 101 = .ok (.dup2, 1) := by decide +kernel
theorem dX8_dropIn_102 : decode cX8_dropIn 102 = .ok (.iaload, 1) := by decide +kernel
theorem dX8_dropIn_103 : decode cX8_dropIn 103 = .ok (.iconst 1, 1) := by decide +kernel
theorem dX8_dropIn_104 : decode cX8_dropIn 104 = .ok (.iadd, 1) := by decide +kernel
theorem dX8_dropIn_105 : decode cX8_dropIn 105 = .ok (.iastore, 1) := by decide +kernel
theorem dX8_dropIn_106 : decode cX8_dropIn 106 = .ok (.iload_n 3, 1) := by decide +kernel
theorem dX8_dropIn_107 : decode cX8_dropIn 107 = .ok (.ireturn, 1) := by decide +kernel
set_option maxRecDepth 20000 in
theorem ggX8_leastOf_X8_changeOf : GoodIn wsX8_leastOf wsX8_changeOf := goodIn_r _ [4, 5, 6, 3, 7, 8, 9, 10] (by decide +kernel) (by decide +kernel)
set_option maxRecDepth 20000 in
theorem gX8_leastOf_X8_changeOf : GoodIn wsX8_leastOf (va_wsS RX8 63 yX8_changeOf wsX8_changeOf) := goodIn_app (goodIn_of _ (by decide +kernel)) ggX8_leastOf_X8_changeOf
theorem dX8_leastOf_0 : decode cX8_leastOf 0 = .ok (.aload_n 0, 1) := by decide +kernel
theorem dX8_leastOf_1 : decode cX8_leastOf 1 = .ok (.bipush 16, 2) := by decide +kernel
theorem dX8_leastOf_3 : decode cX8_leastOf 3 = .ok (.iaload, 1) := by decide +kernel
theorem dX8_leastOf_4 : decode cX8_leastOf 4 = .ok (.iconst 2, 1) := by decide +kernel
theorem dX8_leastOf_5 : decode cX8_leastOf 5 = .ok (.if_icmp .ge 10, 3) := by decide +kernel
theorem dX8_leastOf_8 : decode cX8_leastOf 8 = .ok (.aload_n 0, 1) := by decide +kernel
theorem dX8_leastOf_9 : decode cX8_leastOf 9 = .ok (.bipush 16, 2) := by decide +kernel
theorem dX8_leastOf_11 : decode cX8_leastOf 11 = .ok (.iaload, 1) := by decide +kernel
theorem dX8_leastOf_12 : decode cX8_leastOf 12 = .ok (.iconst 1, 1) := by decide +kernel
theorem dX8_leastOf_13 : decode cX8_leastOf 13 = .ok (.isub, 1) := by decide +kernel
theorem dX8_leastOf_14 : decode cX8_leastOf 14 = .ok (.ireturn, 1) := by decide +kernel
theorem dX8_leastOf_15 : decode cX8_leastOf 15 = .ok (.iconst 1, 1) := by decide +kernel
theorem dX8_leastOf_16 : decode cX8_leastOf 16 = .ok (.istore_n 1, 1) := by decide +kernel
theorem dX8_leastOf_17 : decode cX8_leastOf 17 = .ok (.iconst 2, 1) := by decide +kernel
theorem dX8_leastOf_18 : decode cX8_leastOf 18 = .ok (.istore_n 2, 1) := by decide +kernel
theorem dX8_leastOf_19 : decode cX8_leastOf 19 = .ok (.iload_n 2, 1) := by decide +kernel
theorem dX8_leastOf_20 : decode cX8_leastOf 20 = .ok (.aload_n 0, 1) := by decide +kernel
theorem dX8_leastOf_21 : decode cX8_leastOf 21 = .ok (.bipush 16, 2) := by decide +kernel
theorem dX8_leastOf_23 : decode cX8_leastOf 23 = .ok (.iaload, 1) := by decide +kernel
theorem dX8_leastOf_24 : decode cX8_leastOf 24 = .ok (.if_icmp .ge 28, 3) := by decide +kernel
theorem dX8_leastOf_27 : decode cX8_leastOf 27 = .ok (.aload_n 0, 1) := by decide +kernel
theorem dX8_leastOf_28 : decode cX8_leastOf 28 = .ok (.iload_n 2, 1) := by decide +kernel
theorem dX8_leastOf_29 : decode cX8_leastOf 29 = .ok (.invokestatic 63, 3) := by decide +kernel
theorem dX8_leastOf_32 : decode cX8_leastOf 32 = .ok (.aload_n 0, 1) := by decide +kernel
theorem dX8_leastOf_33 : decode cX8_leastOf 33 = .ok (.iload_n 1, 1) := by decide +kernel
theorem dX8_leastOf_34 : decode cX8_leastOf 34 = .ok (.invokestatic 63, 3) := by decide +kernel
theorem dX8_leastOf_37 : decode cX8_leastOf 37 = .ok (.if_icmp .ge 7, 3) := by decide +kernel
theorem dX8_leastOf_40 : decode cX8_leastOf 40 = .ok (.iload_n 2, 1) := by decide +kernel
theorem dX8_leastOf_41 : decode cX8_leastOf 41 = .ok (.goto 4, 3) := by decide +kernel
theorem dX8_leastOf_44 : decode cX8_leastOf 44 = .ok (.iload_n 1, 1) := by decide +kernel
theorem dX8_leastOf_45 : decode cX8_leastOf 45 = .ok (.istore_n 1, 1) := by decide +kernel
theorem dX8_leastOf_46 : decode cX8_leastOf 46 = .ok (.iinc 2 1, 3) := by decide +kernel
theorem dX8_leastOf_49 : decode cX8_leastOf 49 = .ok (.goto (-30), 3) := by decide +kernel
theorem dX8_leastOf_52 : decode cX8_leastOf 52 = .ok (.iload_n 1, 1) := by decide +kernel
theorem dX8_leastOf_53 : decode cX8_leastOf 53 = .ok (.ireturn, 1) := by decide +kernel
theorem dX8_sweep_0 : decode cX8_sweep 0 = .ok (.aload_n 0, 1) := by decide +kernel
theorem dX8_sweep_1 : decode cX8_sweep 1 = .ok (.iconst 0, 1) := by decide +kernel
theorem dX8_sweep_2 : decode cX8_sweep 2 = .ok (.iaload, 1) := by decide +kernel
theorem dX8_sweep_3 : decode cX8_sweep 3 = .ok (.istore_n 1, 1) := by decide +kernel
theorem dX8_sweep_4 : decode cX8_sweep 4 = .ok (.iconst 0, 1) := by decide +kernel
theorem dX8_sweep_5 : decode cX8_sweep 5 = .ok (.istore_n 2, 1) := by decide +kernel
theorem dX8_sweep_6 : decode cX8_sweep 6 = .ok (.iload_n 2, 1) := by decide +kernel
theorem dX8_sweep_7 : decode cX8_sweep 7 = .ok (.aload_n 0, 1) := by decide +kernel
theorem dX8_sweep_8 : decode cX8_sweep 8 = .ok (.iconst 3, 1) := by decide +kernel
theorem dX8_sweep_9 : decode cX8_sweep 9 = .ok (.iaload, 1) := by decide +kernel
theorem dX8_sweep_10 : decode cX8_sweep 10 = .ok (.if_icmp .ge 34, 3) := by decide +kernel
theorem dX8_sweep_13 : decode cX8_sweep 13 = .ok (.iload_n 1, 1) := by decide +kernel
theorem dX8_sweep_14 : decode cX8_sweep 14 = .ok (.ifCond .le 30, 3) := by decide +kernel
theorem dX8_sweep_17 : decode cX8_sweep 17 = .ok (.aload_n 0, 1) := by decide +kernel
theorem dX8_sweep_18 : decode cX8_sweep 18 = .ok (.bipush 19, 2) := by decide +kernel
theorem dX8_sweep_20 : decode cX8_sweep 20 = .ok (.iload_n 2, 1) := by decide +kernel
theorem dX8_sweep_21 : decode cX8_sweep 21 = .ok (.iadd, 1) := by decide +kernel
theorem dX8_sweep_22 : decode cX8_sweep 22 = .ok (.iaload, 1) := by decide +kernel
theorem dX8_sweep_23 : decode cX8_sweep 23 = .ok (.bipush (-2), 2) := by decide +kernel
theorem dX8_sweep_25 : decode cX8_sweep 25 = .ok (.if_icmp .ne 13, 3) := by decide +kernel
theorem dX8_sweep_28 : decode cX8_sweep 28 = .ok (.aload_n 0, 1) := by decide +kernel
theorem dX8_sweep_29 : decode cX8_sweep 29 = .ok (.bipush 19, 2) := by decide +kernel
theorem dX8_sweep_31 : decode cX8_sweep 31 = .ok (.iload_n 2, 1) := by decide +kernel
theorem dX8_sweep_32 : decode cX8_sweep 32 = .ok (.iadd, 1) := by decide +kernel
theorem dX8_sweep_33 : decode cX8_sweep 33 = .ok (.iconst (-1), 1) := by decide +kernel
theorem dX8_sweep_34 : decode cX8_sweep 34 = .ok (.iastore, 1) := by decide +kernel
theorem dX8_sweep_35 : decode cX8_sweep 35 = .ok (.iinc 1 (-1), 3) := by decide +kernel
theorem dX8_sweep_38 : decode cX8_sweep 38 = .ok (.iinc 2 1, 3) := by decide +kernel
theorem dX8_sweep_41 : decode cX8_sweep 41 = .ok (.goto (-35), 3) := by decide +kernel
theorem dX8_sweep_44 : decode cX8_sweep 44 = .ok (.return_, 1) := by decide +kernel
set_option maxRecDepth 20000 in
theorem ggX8_store_X8_waitAt : GoodIn wsX8_store wsX8_waitAt := goodIn_r _ [4] (by decide +kernel) (by decide +kernel)
set_option maxRecDepth 20000 in
theorem gX8_store_X8_waitAt : GoodIn wsX8_store (va_wsS RX8 60 yX8_waitAt wsX8_waitAt) := goodIn_app (goodIn_of _ (by decide +kernel)) ggX8_store_X8_waitAt
set_option maxRecDepth 20000 in
theorem ggX8_store_X8_keptAt : GoodIn wsX8_store wsX8_keptAt := goodIn_r _ [7] (by decide +kernel) (by decide +kernel)
set_option maxRecDepth 20000 in
theorem gX8_store_X8_keptAt : GoodIn wsX8_store (va_wsS RX8 49 yX8_keptAt wsX8_keptAt) := goodIn_app (goodIn_of _ (by decide +kernel)) ggX8_store_X8_keptAt
set_option maxRecDepth 20000 in
theorem ggX8_store_X8_copy : GoodIn wsX8_store wsX8_copy := goodIn_r _ [10] (by decide +kernel) (by decide +kernel)
set_option maxRecDepth 20000 in
theorem gX8_store_X8_copy : GoodIn wsX8_store (va_wsS RX8 45 yX8_copy wsX8_copy) := goodIn_app (goodIn_of _ (by decide +kernel)) ggX8_store_X8_copy
theorem dX8_store_0 : decode cX8_store 0 = .ok (.aload_n 0, 1) := by decide +kernel
theorem dX8_store_1 : decode cX8_store 1 = .ok (.bipush 16, 2) := by decide +kernel
theorem dX8_store_3 : decode cX8_store 3 = .ok (.iaload, 1) := by decide +kernel
theorem dX8_store_4 : decode cX8_store 4 = .ok (.istore_n 1, 1) := by decide +kernel
theorem dX8_store_5 : decode cX8_store 5 = .ok (.aload_n 0, 1) := by decide +kernel
theorem dX8_store_6 : decode cX8_store 6 = .ok (.iconst 0, 1) := by decide +kernel
theorem dX8_store_7 : decode cX8_store 7 = .ok (.iconst 0, 1) := by decide +kernel
theorem dX8_store_8 : decode cX8_store 8 = .ok (.invokestatic 60, 3) := by decide +kernel
theorem dX8_store_11 : decode cX8_store 11 = .ok (.aload_n 0, 1) := by decide +kernel
theorem dX8_store_12 : decode cX8_store 12 = .ok (.iload_n 1, 1) := by decide +kernel
theorem dX8_store_13 : decode cX8_store 13 = .ok (.iconst 0, 1) := by decide +kernel
theorem dX8_store_14 : decode cX8_store 14 = .ok (.invokestatic 49, 3) := by decide +kernel
theorem dX8_store_17 : decode cX8_store 17 = .ok (.iconst 4, 1) := by decide +kernel
theorem dX8_store_18 : decode cX8_store 18 = .ok (.invokestatic 45, 3) := by decide +kernel
theorem dX8_store_21 : decode cX8_store 21 = .ok (.aload_n 0, 1) := by decide +kernel
theorem dX8_store_22 : decode cX8_store 22 = .ok (.iload_n 1, 1) := by decide +kernel
theorem dX8_store_23 : decode cX8_store 23 = .ok (.iconst 4, 1) := by decide +kernel
theorem dX8_store_24 : decode cX8_store 24 = .ok (.invokestatic 49, 3) := by decide +kernel
theorem dX8_store_27 : decode cX8_store 27 = .ok (.aload_n 0, 1) := by decide +kernel
theorem dX8_store_28 : decode cX8_store 28 = .ok (.iconst 4, 1) := by decide +kernel
theorem dX8_store_29 : decode cX8_store 29 = .ok (.iaload, 1) := by decide +kernel
theorem dX8_store_30 : decode cX8_store 30 = .ok (.aload_n 0, 1) := by decide +kernel
theorem dX8_store_31 : decode cX8_store 31 = .ok (.iconst 0, 1) := by decide +kernel
theorem dX8_store_32 : decode cX8_store 32 = .ok (.iconst 3, 1) := by decide +kernel
theorem dX8_store_33 : decode cX8_store 33 = .ok (.invokestatic 60, 3) := by decide +kernel
theorem dX8_store_36 : decode cX8_store 36 = .ok (.iaload, 1) := by decide +kernel
theorem dX8_store_37 : decode cX8_store 37 = .ok (.isub, 1) := by decide +kernel
theorem dX8_store_38 : decode cX8_store 38 = .ok (.iastore, 1) := by decide +kernel
theorem dX8_store_39 : decode cX8_store 39 = .ok (.aload_n 0, 1) := by decide +kernel
theorem dX8_store_40 : decode cX8_store 40 = .ok (.bipush 8, 2) := by decide +kernel
theorem dX8_store_42 : decode cX8_store 42 = .ok (.dup2, 1) := by decide +kernel
theorem dX8_store_43 : decode cX8_store 43 = .ok (.iaload, 1) := by decide +kernel
theorem dX8_store_44 : decode cX8_store 44 = .ok (.aload_n 0, 1) := by decide +kernel
theorem dX8_store_45 : decode cX8_store 45 = .ok (.iload_n 1, 1) := by decide +kernel
theorem dX8_store_46 : decode cX8_store 46 = .ok (.iconst 4, 1) := by decide +kernel
theorem dX8_store_47 : decode cX8_store 47 = .ok (.invokestatic 49, 3) := by decide +kernel
theorem dX8_store_50 : decode cX8_store 50 = .ok (.iaload, 1) := by decide +kernel
theorem dX8_store_51 : decode cX8_store 51 = .ok (.ifCond .le 7, 3) := by decide +kernel
theorem dX8_store_54 : decode cX8_store 54 = .ok (.iconst 1, 1) := by decide +kernel
theorem dX8_store_55 : decode cX8_store 55 = .ok (.goto 4, 3) := by decide +kernel
theorem dX8_store_58 : decode cX8_store 58 = .ok (.iconst 0, 1) := by decide +kernel
theorem dX8_store_59 : decode cX8_store 59 = .ok (.iadd, 1) := by decide +kernel
theorem dX8_store_60 : decode cX8_store 60 = .ok (.iastore, 1) := by decide +kernel
theorem dX8_store_61 : decode cX8_store 61 = .ok (.aload_n 0, 1) := by decide +kernel
theorem dX8_store_62 : decode cX8_store 62 = .ok (.iload_n 1, 1) := by decide +kernel
theorem dX8_store_63 : decode cX8_store 63 = .ok (.iconst 2, 1) := by decide +kernel
theorem dX8_store_64 : decode cX8_store 64 = .ok (.invokestatic 49, 3) := by decide +kernel
theorem dX8_store_67 : decode cX8_store 67 = .ok (.iaload, 1) := by decide +kernel
theorem dX8_store_68 : decode cX8_store 68 = .ok (.istore_n 2, 1) := by decide +kernel
theorem dX8_store_69 : decode cX8_store 69 = .ok (.iconst 0, 1) := by decide +kernel
theorem dX8_store_70 : decode cX8_store 70 = .ok (.istore_n 3, 1) := by decide +kernel
theorem dX8_store_71 : decode cX8_store 71 = .ok (.iload_n 3, 1) := by decide +kernel
theorem dX8_store_72 : decode cX8_store 72 = .ok (.aload_n 0, 1) := by decide +kernel
theorem dX8_store_73 : decode cX8_store 73 = .ok (.iconst 3, 1) := by decide +kernel
theorem dX8_store_74 : decode cX8_store 74 = .ok (.iaload, 1) := by decide +kernel
theorem dX8_store_75 : decode cX8_store 75 = .ok (.if_icmp .ge 39, 3) := by decide +kernel
theorem dX8_store_78 : decode cX8_store 78 = .ok (.iload_n 2, 1) := by decide +kernel
theorem dX8_store_79 : decode cX8_store 79 = .ok (.ifCond .le 35, 3) := by decide +kernel
theorem dX8_store_82 : decode cX8_store 82 = .ok (.aload_n 0, 1) := by decide +kernel
theorem dX8_store_83 : decode cX8_store 83 = .ok (.bipush 19, 2) := by decide +kernel
theorem dX8_store_85 : decode cX8_store 85 = .ok (.iload_n 3, 1) := by decide +kernel
theorem dX8_store_86 : decode cX8_store 86 = .ok (.iadd, 1) := by decide +kernel
theorem dX8_store_87 : decode cX8_store 87 = .ok (.iaload, 1) := by decide +kernel
theorem dX8_store_88 : decode cX8_store 88 = .ok (.iconst (-1), 1) := by decide +kernel
theorem dX8_store_89 : decode cX8_store 89 = .ok (.if_icmp .ne 19, 3) := by decide +kernel
theorem dX8_store_92 : decode cX8_store 92 = .ok (.aload_n 0, 1) := by decide +kernel
theorem dX8_store_93 : decode cX8_store 93 = .ok (.bipush 19, 2) := by decide +kernel
theorem dX8_store_95 : decode cX8_store 95 = .ok (.iload_n 3, 1) := by decide +kernel
theorem dX8_store_96 : decode cX8_store 96 = .ok (.iadd, 1) := by decide +kernel
theorem dX8_store_97 : decode cX8_store 97 = .ok (.aload_n 0, 1) := by decide +kernel
theorem dX8_store_98 : decode cX8_store 98 = .ok (.iload_n 1, 1) := by decide +kernel
theorem dX8_store_99 : decode cX8_store 99 = .ok (.iconst 0, 1) := by decide +kernel
theorem dX8_store_100 : decode cX8_store 100 = .ok (.invokestatic 49, 3) := by decide +kernel
theorem dX8_store_103 : decode cX8_store 103 = .ok (.iaload, 1) := by decide +kernel
theorem dX8_store_104 : decode cX8_store 104 = .ok (.iastore, 1) := by decide +kernel
theorem dX8_store_105 : decode cX8_store 105 = .ok (.iinc 2 (-1), 3) := by decide +kernel
theorem dX8_store_108 : decode cX8_store 108 = .ok (.iinc 3 1, 3) := by decide +kernel
theorem dX8_store_111 : decode cX8_store 111 = .ok (.goto (-40), 3) := by decide +kernel
theorem dX8_store_114 : decode cX8_store 114 = .ok (.aload_n 0, 1) := by decide +kernel
theorem dX8_store_115 : decode cX8_store 115 = .ok (.bipush 16, 2) := by decide +kernel
theorem dX8_store_117 : decode cX8_store 117 = .ok (.dup2, 1) := by decide +kernel
theorem dX8_store_118 : decode cX8_store 118 = .ok (.iaload, 1) := by decide +kernel
theorem dX8_store_119 : decode cX8_store 119 = .ok (.iconst 1, 1) := by decide +kernel
theorem dX8_store_120 : decode cX8_store 120 = .ok (.iadd, 1) := by decide +kernel
theorem dX8_store_121 : decode cX8_store 121 = .ok (.iastore, 1) := by decide +kernel
theorem dX8_store_122 : decode cX8_store 122 = .ok (.aload_n 0, 1) := by decide +kernel
theorem dX8_store_123 : decode cX8_store 123 = .ok (.bipush 12, 2) := by decide +kernel
theorem dX8_store_125 : decode cX8_store 125 = .ok (.dup2, 1) := by decide +kernel
theorem dX8_store_126 : decode cX8_store 126 = .ok (.iaload, 1) := by decide +kernel
theorem dX8_store_127 : decode cX8_store 127 = .ok (.iconst 1, 1) := by decide +kernel
theorem dX8_store_128 : decode cX8_store 128 = .ok (.iadd, 1) := by decide +kernel
theorem dX8_store_129 : decode cX8_store 129 = .ok (.iastore, 1) := by decide +kernel
theorem dX8_store_130 : decode cX8_store 130 = .ok (.aload_n 0, 1) := by decide +kernel
theorem dX8_store_131 : decode cX8_store 131 = .ok (.bipush 17, 2) := by decide +kernel
theorem dX8_store_133 : decode cX8_store 133 = .ok (.dup2, 1) := by decide +kernel
theorem dX8_store_134 : decode cX8_store 134 = .ok (.iaload, 1) := by decide +kernel
theorem dX8_store_135 : decode cX8_store 135 = .ok (.iconst 1, 1) := by decide +kernel
theorem dX8_store_136 : decode cX8_store 136 = .ok (.isub, 1) := by decide +kernel
theorem dX8_store_137 : decode cX8_store 137 = .ok (.iastore, 1) := by decide +kernel
theorem dX8_store_138 : decode cX8_store 138 = .ok (.aload_n 0, 1) := by decide +kernel
theorem dX8_store_139 : decode cX8_store 139 = .ok (.iconst 1, 1) := by decide +kernel
theorem dX8_store_140 : decode cX8_store 140 = .ok (.iconst 0, 1) := by decide +kernel
theorem dX8_store_141 : decode cX8_store 141 = .ok (.invokestatic 60, 3) := by decide +kernel
theorem dX8_store_144 : decode cX8_store 144 = .ok (.aload_n 0, 1) := by decide +kernel
theorem dX8_store_145 : decode cX8_store 145 = .ok (.iconst 0, 1) := by decide +kernel
theorem dX8_store_146 : decode cX8_store 146 = .ok (.iconst 0, 1) := by decide +kernel
theorem dX8_store_147 : decode cX8_store 147 = .ok (.invokestatic 60, 3) := by decide +kernel
theorem dX8_store_150 : decode cX8_store 150 = .ok (.iconst 4, 1) := by decide +kernel
theorem dX8_store_151 : decode cX8_store 151 = .ok (.aload_n 0, 1) := by decide +kernel
theorem dX8_store_152 : decode cX8_store 152 = .ok (.bipush 17, 2) := by decide +kernel
theorem dX8_store_154 : decode cX8_store 154 = .ok (.iaload, 1) := by decide +kernel
theorem dX8_store_155 : decode cX8_store 155 = .ok (.imul, 1) := by decide +kernel
theorem dX8_store_156 : decode cX8_store 156 = .ok (.invokestatic 45, 3) := by decide +kernel
theorem dX8_store_159 : decode cX8_store 159 = .ok (.return_, 1) := by decide +kernel
theorem dX8_endRound_0 : decode cX8_endRound 0 = .ok (.aload_n 0, 1) := by decide +kernel
theorem dX8_endRound_1 : decode cX8_endRound 1 = .ok (.bipush 12, 2) := by decide +kernel
theorem dX8_endRound_3 : decode cX8_endRound 3 = .ok (.iaload, 1) := by decide +kernel
theorem dX8_endRound_4 : decode cX8_endRound 4 = .ok (.aload_n 0, 1) := by decide +kernel
theorem dX8_endRound_5 : decode cX8_endRound 5 = .ok (.iconst 1, 1) := by decide +kernel
theorem dX8_endRound_6 : decode cX8_endRound 6 = .ok (.iaload, 1) := by decide +kernel
theorem dX8_endRound_7 : decode cX8_endRound 7 = .ok (.if_icmp .ge 122, 3) := by decide +kernel
theorem dX8_endRound_10 : decode cX8_endRound 10 = .ok (.bipush 29, 2) := by decide +kernel
theorem dX8_endRound_12 : decode cX8_endRound 12 = .ok (.istore_n 1, 1) := by decide +kernel
theorem dX8_endRound_13 : decode cX8_endRound 13 = .ok (.iload_n 1, 1) := by decide +kernel
theorem dX8_endRound_14 : decode cX8_endRound 14 = .ok (.iconst 2, 1) := by decide +kernel
theorem dX8_endRound_15 : decode cX8_endRound 15 = .ok (.if_icmp .le 25, 3) := by decide +kernel
theorem dX8_endRound_18 : decode cX8_endRound 18 = .ok (.aload_n 0, 1) := by decide +kernel
theorem dX8_endRound_19 : decode cX8_endRound 19 = .ok (.sipush 327, 3) := by decide +kernel
theorem dX8_endRound_22 : decode cX8_endRound 22 = .ok (.iload_n 1, 1) := by decide +kernel
theorem dX8_endRound_23 : decode cX8_endRound 23 = .ok (.iadd, 1) := by decide +kernel
theorem dX8_endRound_24 : decode cX8_endRound 24 = .ok (.aload_n 0, 1) := by decide +kernel
theorem dX8_endRound_25 : decode cX8_endRound 25 = .ok (.sipush 327, 3) := by decide +kernel
theorem dX8_endRound_28 : decode cX8_endRound 28 = .ok (.iload_n 1, 1) := by decide +kernel
theorem dX8_endRound_29 : decode cX8_endRound 29 = .ok (.iadd, 1) := by decide +kernel
theorem dX8_endRound_30 : decode cX8_endRound 30 = .ok (.iconst 3, 1) := by decide +kernel
theorem dX8_endRound_31 : decode cX8_endRound 31 = .ok (.isub, 1) := by decide +kernel
theorem dX8_endRound_32 : decode cX8_endRound 32 = .ok (.iaload, 1) := by decide +kernel
theorem dX8_endRound_33 : decode cX8_endRound 33 = .ok (.iastore, 1) := by decide +kernel
theorem dX8_endRound_34 : decode cX8_endRound 34 = .ok (.iinc 1 (-1), 3) := by decide +kernel
theorem dX8_endRound_37 : decode cX8_endRound 37 = .ok (.goto (-24), 3) := by decide +kernel
theorem dX8_endRound_40 : decode cX8_endRound 40 = .ok (.aload_n 0, 1) := by decide +kernel
theorem dX8_endRound_41 : decode cX8_endRound 41 = .ok (.sipush 327, 3) := by decide +kernel
theorem dX8_endRound_44 : decode cX8_endRound 44 = .ok (.aload_n 0, 1) := by decide +kernel
theorem dX8_endRound_45 : decode cX8_endRound 45 = .ok (.bipush 9, 2) := by decide +kernel
theorem dX8_endRound_47 : decode cX8_endRound 47 = .ok (.iaload, 1) := by decide +kernel
theorem dX8_endRound_48 : decode cX8_endRound 48 = .ok (.iastore, 1) := by decide +kernel
theorem dX8_endRound_49 : decode cX8_endRound 49 = .ok (.aload_n 0, 1) := by decide +kernel
theorem dX8_endRound_50 : decode cX8_endRound 50 = .ok (.sipush 328, 3) := by decide +kernel
theorem dX8_endRound_53 : decode cX8_endRound 53 = .ok (.aload_n 0, 1) := by decide +kernel
theorem dX8_endRound_54 : decode cX8_endRound 54 = .ok (.bipush 13, 2) := by decide +kernel
theorem dX8_endRound_56 : decode cX8_endRound 56 = .ok (.iaload, 1) := by decide +kernel
theorem dX8_endRound_57 : decode cX8_endRound 57 = .ok (.aload_n 0, 1) := by decide +kernel
theorem dX8_endRound_58 : decode cX8_endRound 58 = .ok (.iconst 1, 1) := by decide +kernel
theorem dX8_endRound_59 : decode cX8_endRound 59 = .ok (.iaload, 1) := by decide +kernel
theorem dX8_endRound_60 : decode cX8_endRound 60 = .ok (.if_icmp .ge 7, 3) := by decide +kernel
theorem dX8_endRound_63 : decode cX8_endRound 63 = .ok (.iconst 1, 1) := by decide +kernel
theorem dX8_endRound_64 : decode cX8_endRound 64 = .ok (.goto 26, 3) := by decide +kernel
theorem dX8_endRound_67 : decode cX8_endRound 67 = .ok (.aload_n 0, 1) := by decide +kernel
theorem dX8_endRound_68 : decode cX8_endRound 68 = .ok (.bipush 14, 2) := by decide +kernel
theorem dX8_endRound_70 : decode cX8_endRound 70 = .ok (.iaload, 1) := by decide +kernel
theorem dX8_endRound_71 : decode cX8_endRound 71 = .ok (.ifCond .le 7, 3) := by decide +kernel
theorem dX8_endRound_74 : decode cX8_endRound 74 = .ok (.iconst 2, 1) := by decide +kernel
theorem dX8_endRound_75 : decode cX8_endRound 75 = .ok (.goto 15, 3) := by decide +kernel
theorem dX8_endRound_78 : decode cX8_endRound 78 = .ok (.aload_n 0, 1) := by decide +kernel
theorem dX8_endRound_79 : decode cX8_endRound 79 = .ok (.bipush 17, 2) := by decide +kernel
theorem dX8_endRound_81 : decode cX8_endRound 81 = .ok (.iaload, 1) := by decide +kernel
theorem dX8_endRound_82 : decode cX8_endRound 82 = .ok (.ifCond .le 7, 3) := by decide +kernel
theorem dX8_endRound_85 : decode cX8_endRound 85 = .ok (.iconst 3, 1) := by decide +kernel
theorem dX8_endRound_86 : decode cX8_endRound 86 = .ok (.goto 4, 3) := by decide +kernel
theorem dX8_endRound_89 : decode cX8_endRound 89 = .ok (.iconst 4, 1) := by decide +kernel
theorem dX8_endRound_90 : decode cX8_endRound 90 = .ok (.iastore, 1) := by decide +kernel
theorem dX8_endRound_91 : decode cX8_endRound 91 = .ok (.aload_n 0, 1) := by decide +kernel
theorem dX8_endRound_92 : decode cX8_endRound 92 = .ok (.sipush 329, 3) := by decide +kernel
theorem dX8_endRound_95 : decode cX8_endRound 95 = .ok (.aload_n 0, 1) := by decide +kernel
theorem dX8_endRound_96 : decode cX8_endRound 96 = .ok (.bipush 12, 2) := by decide +kernel
theorem dX8_endRound_98 : decode cX8_endRound 98 = .ok (.iaload, 1) := by decide +kernel
theorem dX8_endRound_99 : decode cX8_endRound 99 = .ok (.iastore, 1) := by decide +kernel
theorem dX8_endRound_100 : decode cX8_endRound 100 = .ok (.aload_n 0, 1) := by decide +kernel
theorem dX8_endRound_101 : decode cX8_endRound 101 = .ok (.bipush 18, 2) := by decide +kernel
theorem dX8_endRound_103 : decode cX8_endRound 103 = .ok (.dup2, 1) := by decide +kernel
theorem dX8_endRound_104 : decode cX8_endRound 104 = .ok (.iaload, 1) := by decide +kernel
theorem dX8_endRound_105 : decode cX8_endRound 105 = .ok (.aload_n 0, 1) := by decide +kernel
theorem dX8_endRound_106 : decode cX8_endRound 106 = .ok (.bipush 18, 2) := by decide +kernel
theorem dX8_endRound_108 : decode cX8_endRound 108 = .ok (.iaload, 1) := by decide +kernel
theorem dX8_endRound_109 : decode cX8_endRound 109 = .ok (.bipush 10, 2) := by decide +kernel
theorem dX8_endRound_111 : decode cX8_endRound 111 = .ok (.if_icmp .ge 7, 3) := by decide +kernel
theorem dX8_endRound_114 : decode cX8_endRound 114 = .ok (.iconst 1, 1) := by decide +kernel
theorem dX8_endRound_115 : decode cX8_endRound 115 = .ok (.goto 4, 3) := by decide +kernel
theorem dX8_endRound_118 : decode cX8_endRound 118 = .ok (.iconst 0, 1) := by decide +kernel
theorem dX8_endRound_119 : decode cX8_endRound 119 = .ok (.iadd, 1) := by decide +kernel
theorem dX8_endRound_120 : decode cX8_endRound 120 = .ok (.iastore, 1) := by decide +kernel
theorem dX8_endRound_121 : decode cX8_endRound 121 = .ok (.aload_n 0, 1) := by decide +kernel
theorem dX8_endRound_122 : decode cX8_endRound 122 = .ok (.bipush 10, 2) := by decide +kernel
theorem dX8_endRound_124 : decode cX8_endRound 124 = .ok (.dup2, 1) := by decide +kernel
theorem dX8_endRound_125 : decode cX8_endRound 125 = .ok (.iaload, 1) := by decide +kernel
theorem dX8_endRound_126 : decode cX8_endRound 126 = .ok (.iconst 1, 1) := by decide +kernel
theorem dX8_endRound_127 : decode cX8_endRound 127 = .ok (.iadd, 1) := by decide +kernel
theorem dX8_endRound_128 : decode cX8_endRound 128 = .ok (.iastore, 1) := by decide +kernel
theorem dX8_endRound_129 : decode cX8_endRound 129 = .ok (.aload_n 0, 1) := by decide +kernel
theorem dX8_endRound_130 : decode cX8_endRound 130 = .ok (.bipush 9, 2) := by decide +kernel
theorem dX8_endRound_132 : decode cX8_endRound 132 = .ok (.dup2, 1) := by decide +kernel
theorem dX8_endRound_133 : decode cX8_endRound 133 = .ok (.iaload, 1) := by decide +kernel
theorem dX8_endRound_134 : decode cX8_endRound 134 = .ok (.iconst 1, 1) := by decide +kernel
theorem dX8_endRound_135 : decode cX8_endRound 135 = .ok (.iadd, 1) := by decide +kernel
theorem dX8_endRound_136 : decode cX8_endRound 136 = .ok (.iastore, 1) := by decide +kernel
theorem dX8_endRound_137 : decode cX8_endRound 137 = .ok (.aload_n 0, 1) := by decide +kernel
theorem dX8_endRound_138 : decode cX8_endRound 138 = .ok (.bipush 11, 2) := by decide +kernel
theorem dX8_endRound_140 : decode cX8_endRound 140 = .ok (.iconst 0, 1) := by decide +kernel
theorem dX8_endRound_141 : decode cX8_endRound 141 = .ok (.iastore, 1) := by decide +kernel
theorem dX8_endRound_142 : decode cX8_endRound 142 = .ok (.aload_n 0, 1) := by decide +kernel
theorem dX8_endRound_143 : decode cX8_endRound 143 = .ok (.bipush 12, 2) := by decide +kernel
theorem dX8_endRound_145 : decode cX8_endRound 145 = .ok (.iconst 0, 1) := by decide +kernel
theorem dX8_endRound_146 : decode cX8_endRound 146 = .ok (.iastore, 1) := by decide +kernel
theorem dX8_endRound_147 : decode cX8_endRound 147 = .ok (.aload_n 0, 1) := by decide +kernel
theorem dX8_endRound_148 : decode cX8_endRound 148 = .ok (.bipush 13, 2) := by decide +kernel
theorem dX8_endRound_150 : decode cX8_endRound 150 = .ok (.iconst 0, 1) := by decide +kernel
theorem dX8_endRound_151 : decode cX8_endRound 151 = .ok (.iastore, 1) := by decide +kernel
theorem dX8_endRound_152 : decode cX8_endRound 152 = .ok (.aload_n 0, 1) := by decide +kernel
theorem dX8_endRound_153 : decode cX8_endRound 153 = .ok (.bipush 14, 2) := by decide +kernel
theorem dX8_endRound_155 : decode cX8_endRound 155 = .ok (.iconst 0, 1) := by decide +kernel
theorem dX8_endRound_156 : decode cX8_endRound 156 = .ok (.iastore, 1) := by decide +kernel
theorem dX8_endRound_157 : decode cX8_endRound 157 = .ok (.return_, 1) := by decide +kernel
set_option maxRecDepth 20000 in
theorem ggX8_lacks_X8_count : GoodIn wsX8_lacks wsX8_count := goodIn_r _ [4] (by decide +kernel) (by decide +kernel)
set_option maxRecDepth 20000 in
theorem gX8_lacks_X8_count : GoodIn wsX8_lacks (va_wsS RX8 67 yX8_count wsX8_count) := goodIn_app (goodIn_of _ (by decide +kernel)) ggX8_lacks_X8_count
set_option maxRecDepth 20000 in
theorem ggX8_lacks_X8_waitAt : GoodIn wsX8_lacks wsX8_waitAt := goodIn_r _ [7] (by decide +kernel) (by decide +kernel)
set_option maxRecDepth 20000 in
theorem gX8_lacks_X8_waitAt : GoodIn wsX8_lacks (va_wsS RX8 60 yX8_waitAt wsX8_waitAt) := goodIn_app (goodIn_of _ (by decide +kernel)) ggX8_lacks_X8_waitAt
theorem dX8_lacks_0 : decode cX8_lacks 0 = .ok (.aload_n 0, 1) := by decide +kernel
theorem dX8_lacks_1 : decode cX8_lacks 1 = .ok (.bipush 17, 2) := by decide +kernel
theorem dX8_lacks_3 : decode cX8_lacks 3 = .ok (.iaload, 1) := by decide +kernel
theorem dX8_lacks_4 : decode cX8_lacks 4 = .ok (.ifCond .le 29, 3) := by decide +kernel
theorem dX8_lacks_7 : decode cX8_lacks 7 = .ok (.aload_n 0, 1) := by decide +kernel
theorem dX8_lacks_8 : decode cX8_lacks 8 = .ok (.iconst (-1), 1) := by decide +kernel
theorem dX8_lacks_9 : decode cX8_lacks 9 = .ok (.invokestatic 67, 3) := by decide +kernel
theorem dX8_lacks_12 : decode cX8_lacks 12 = .ok (.aload_n 0, 1) := by decide +kernel
theorem dX8_lacks_13 : decode cX8_lacks 13 = .ok (.bipush (-2), 2) := by decide +kernel
theorem dX8_lacks_15 : decode cX8_lacks 15 = .ok (.invokestatic 67, 3) := by decide +kernel
theorem dX8_lacks_18 : decode cX8_lacks 18 = .ok (.iadd, 1) := by decide +kernel
theorem dX8_lacks_19 : decode cX8_lacks 19 = .ok (.aload_n 0, 1) := by decide +kernel
theorem dX8_lacks_20 : decode cX8_lacks 20 = .ok (.iconst 0, 1) := by decide +kernel
theorem dX8_lacks_21 : decode cX8_lacks 21 = .ok (.iconst 2, 1) := by decide +kernel
theorem dX8_lacks_22 : decode cX8_lacks 22 = .ok (.invokestatic 60, 3) := by decide +kernel
theorem dX8_lacks_25 : decode cX8_lacks 25 = .ok (.iaload, 1) := by decide +kernel
theorem dX8_lacks_26 : decode cX8_lacks 26 = .ok (.if_icmp .ge 7, 3) := by decide +kernel
theorem dX8_lacks_29 : decode cX8_lacks 29 = .ok (.iconst 1, 1) := by decide +kernel
theorem dX8_lacks_30 : decode cX8_lacks 30 = .ok (.goto 4, 3) := by decide +kernel
theorem dX8_lacks_33 : decode cX8_lacks 33 = .ok (.iconst 0, 1) := by decide +kernel
theorem dX8_lacks_34 : decode cX8_lacks 34 = .ok (.ireturn, 1) := by decide +kernel
set_option maxRecDepth 20000 in
theorem ggX8_tick_X8_sweep : GoodIn wsX8_tick wsX8_sweep := goodIn_r _ [4] (by decide +kernel) (by decide +kernel)
set_option maxRecDepth 20000 in
theorem gX8_tick_X8_sweep : GoodIn wsX8_tick (va_wsS RX8 70 yX8_sweep wsX8_sweep) := goodIn_app (goodIn_of _ (by decide +kernel)) ggX8_tick_X8_sweep
set_option maxRecDepth 20000 in
theorem ggX8_tick_X8_count : GoodIn wsX8_tick wsX8_count := goodIn_r _ [7] (by decide +kernel) (by decide +kernel)
set_option maxRecDepth 20000 in
theorem gX8_tick_X8_count : GoodIn wsX8_tick (va_wsS RX8 67 yX8_count wsX8_count) := goodIn_app (goodIn_of _ (by decide +kernel)) ggX8_tick_X8_count
set_option maxRecDepth 20000 in
theorem ggX8_tick_X8_waitAt : GoodIn wsX8_tick wsX8_waitAt := goodIn_r _ [10] (by decide +kernel) (by decide +kernel)
set_option maxRecDepth 20000 in
theorem gX8_tick_X8_waitAt : GoodIn wsX8_tick (va_wsS RX8 60 yX8_waitAt wsX8_waitAt) := goodIn_app (goodIn_of _ (by decide +kernel)) ggX8_tick_X8_waitAt
set_option maxRecDepth 20000 in
theorem ggX8_tick_X8_store : GoodIn wsX8_tick wsX8_store := goodIn_r _ [13, 8, 9, 3, 10, 14, 15, 16, 17, 18, 19] (by decide +kernel) (by decide +kernel)
set_option maxRecDepth 20000 in
theorem gX8_tick_X8_store : GoodIn wsX8_tick (va_wsS RX8 74 yX8_store wsX8_store) := goodIn_app (goodIn_of _ (by decide +kernel)) ggX8_tick_X8_store
set_option maxRecDepth 20000 in
theorem ggX8_tick_X8_lacks : GoodIn wsX8_tick wsX8_lacks := goodIn_r _ [22, 5, 6, 3, 7, 8, 9, 10] (by decide +kernel) (by decide +kernel)
set_option maxRecDepth 20000 in
theorem gX8_tick_X8_lacks : GoodIn wsX8_tick (va_wsS RX8 77 yX8_lacks wsX8_lacks) := goodIn_app (goodIn_of _ (by decide +kernel)) ggX8_tick_X8_lacks
set_option maxRecDepth 20000 in
theorem ggX8_tick_X8_leastOf : GoodIn wsX8_tick wsX8_leastOf := goodIn_r _ [25, 26, 27, 3, 28, 14, 15, 16, 29, 30, 31] (by decide +kernel) (by decide +kernel)
set_option maxRecDepth 20000 in
theorem gX8_tick_X8_leastOf : GoodIn wsX8_tick (va_wsS RX8 81 yX8_leastOf wsX8_leastOf) := goodIn_app (goodIn_of _ (by decide +kernel)) ggX8_tick_X8_leastOf
set_option maxRecDepth 20000 in
theorem ggX8_tick_X8_dropIn : GoodIn wsX8_tick wsX8_dropIn := goodIn_r _ [34, 14, 15, 3, 16, 17, 18, 19] (by decide +kernel) (by decide +kernel)
set_option maxRecDepth 20000 in
theorem gX8_tick_X8_dropIn : GoodIn wsX8_tick (va_wsS RX8 85 yX8_dropIn wsX8_dropIn) := goodIn_app (goodIn_of _ (by decide +kernel)) ggX8_tick_X8_dropIn
set_option maxRecDepth 20000 in
theorem ggX8_tick_X8_endRound : GoodIn wsX8_tick wsX8_endRound := goodIn_r _ [37] (by decide +kernel) (by decide +kernel)
set_option maxRecDepth 20000 in
theorem gX8_tick_X8_endRound : GoodIn wsX8_tick (va_wsS RX8 88 yX8_endRound wsX8_endRound) := goodIn_app (goodIn_of _ (by decide +kernel)) ggX8_tick_X8_endRound
theorem dX8_tick_0 : decode cX8_tick 0 = .ok (.aload_n 0, 1) := by decide +kernel
theorem dX8_tick_1 : decode cX8_tick 1 = .ok (.bipush 16, 2) := by decide +kernel
theorem dX8_tick_3 : decode cX8_tick 3 = .ok (.iaload, 1) := by decide +kernel
theorem dX8_tick_4 : decode cX8_tick 4 = .ok (.istore_n 1, 1) := by decide +kernel
theorem dX8_tick_5 : decode cX8_tick 5 = .ok (.aload_n 0, 1) := by decide +kernel
theorem dX8_tick_6 : decode cX8_tick 6 = .ok (.invokestatic 70, 3) := by decide +kernel
theorem dX8_tick_9 : decode cX8_tick 9 = .ok (.aload_n 0, 1) := by decide +kernel
theorem dX8_tick_10 : decode cX8_tick 10 = .ok (.bipush 17, 2) := by decide +kernel
theorem dX8_tick_12 : decode cX8_tick 12 = .ok (.iaload, 1) := by decide +kernel
theorem dX8_tick_13 : decode cX8_tick 13 = .ok (.ifCond .le 25, 3) := by decide +kernel
theorem dX8_tick_16 : decode cX8_tick 16 = .ok (.aload_n 0, 1) := by decide +kernel
theorem dX8_tick_17 : decode cX8_tick 17 = .ok (.iconst (-1), 1) := by decide +kernel
theorem dX8_tick_18 : decode cX8_tick 18 = .ok (.invokestatic 67, 3) := by decide +kernel
theorem dX8_tick_21 : decode cX8_tick 21 = .ok (.aload_n 0, 1) := by decide +kernel
theorem dX8_tick_22 : decode cX8_tick 22 = .ok (.iconst 0, 1) := by decide +kernel
theorem dX8_tick_23 : decode cX8_tick 23 = .ok (.iconst 2, 1) := by decide +kernel
theorem dX8_tick_24 : decode cX8_tick 24 = .ok (.invokestatic 60, 3) := by decide +kernel
theorem dX8_tick_27 : decode cX8_tick 27 = .ok (.iaload, 1) := by decide +kernel
theorem dX8_tick_28 : decode cX8_tick 28 = .ok (.if_icmp .lt 10, 3) := by decide +kernel
theorem dX8_tick_31 : decode cX8_tick 31 = .ok (.aload_n 0, 1) := by decide +kernel
theorem dX8_tick_32 : decode cX8_tick 32 = .ok (.invokestatic 74, 3) := by decide +kernel
theorem dX8_tick_35 : decode cX8_tick 35 = .ok (.goto (-26), 3) := by decide +kernel
theorem dX8_tick_38 : decode cX8_tick 38 = .ok (.aload_n 0, 1) := by decide +kernel
theorem dX8_tick_39 : decode cX8_tick 39 = .ok (.bipush 16, 2) := by decide +kernel
theorem dX8_tick_41 : decode cX8_tick 41 = .ok (.iaload, 1) := by decide +kernel
theorem dX8_tick_42 : decode cX8_tick 42 = .ok (.iload_n 1, 1) := by decide +kernel
theorem dX8_tick_43 : decode cX8_tick 43 = .ok (.isub, 1) := by decide +kernel
theorem dX8_tick_44 : decode cX8_tick 44 = .ok (.istore_n 2, 1) := by decide +kernel
theorem dX8_tick_45 : decode cX8_tick 45 = .ok (.aload_n 0, 1) := by decide +kernel
theorem dX8_tick_46 : decode cX8_tick 46 = .ok (.invokestatic 77, 3) := by decide +kernel
theorem dX8_tick_49 : decode cX8_tick 49 = .ok (.ifCond .eq 22, 3) := by decide +kernel
theorem dX8_tick_52 : decode cX8_tick 52 = .ok (.aload_n 0, 1) := by decide +kernel
theorem dX8_tick_53 : decode cX8_tick 53 = .ok (.bipush 16, 2) := by decide +kernel
theorem dX8_tick_55 : decode cX8_tick 55 = .ok (.iaload, 1) := by decide +kernel
theorem dX8_tick_56 : decode cX8_tick 56 = .ok (.ifCond .le 15, 3) := by decide +kernel
theorem dX8_tick_59 : decode cX8_tick 59 = .ok (.aload_n 0, 1) := by decide +kernel
theorem dX8_tick_60 : decode cX8_tick 60 = .ok (.aload_n 0, 1) := by decide +kernel
theorem dX8_tick_61 : decode cX8_tick 61 = .ok (.invokestatic 81, 3) := by decide +kernel
theorem dX8_tick_64 : decode cX8_tick 64 = .ok (.invokestatic 85, 3) := by decide +kernel
theorem dX8_tick_67 : decode cX8_tick 67 = .ok (.pop, 1) := by decide +kernel
theorem dX8_tick_68 : decode cX8_tick 68 = .ok (.goto (-23), 3) := by decide +kernel
theorem dX8_tick_71 : decode cX8_tick 71 = .ok (.aload_n 0, 1) := by decide +kernel
theorem dX8_tick_72 : decode cX8_tick 72 = .ok (.iconst 4, 1) := by decide +kernel
theorem dX8_tick_73 : decode cX8_tick 73 = .ok (.dup2, 1) := by decide +kernel
theorem dX8_tick_74 : decode cX8_tick 74 = .ok (.iaload, 1) := by decide +kernel
theorem dX8_tick_75 : decode cX8_tick 75 = .ok (.iconst 1, 1) := by decide +kernel
theorem dX8_tick_76 : decode cX8_tick 76 = .ok (.iadd, 1) := by decide +kernel
theorem dX8_tick_77 : decode cX8_tick 77 = .ok (.iastore, 1) := by decide +kernel
theorem dX8_tick_78 : decode cX8_tick 78 = .ok (.aload_n 0, 1) := by decide +kernel
theorem dX8_tick_79 : decode cX8_tick 79 = .ok (.bipush 11, 2) := by decide +kernel
theorem dX8_tick_81 : decode cX8_tick 81 = .ok (.dup2, 1) := by decide +kernel
theorem dX8_tick_82 : decode cX8_tick 82 = .ok (.iaload, 1) := by decide +kernel
theorem dX8_tick_83 : decode cX8_tick 83 = .ok (.iconst 1, 1) := by decide +kernel
theorem dX8_tick_84 : decode cX8_tick 84 = .ok (.iadd, 1) := by decide +kernel
theorem dX8_tick_85 : decode cX8_tick 85 = .ok (.iastore, 1) := by decide +kernel
theorem dX8_tick_86 : decode cX8_tick 86 = .ok (.aload_n 0, 1) := by decide +kernel
theorem dX8_tick_87 : decode cX8_tick 87 = .ok (.bipush 11, 2) := by decide +kernel
theorem dX8_tick_89 : decode cX8_tick 89 = .ok (.iaload, 1) := by decide +kernel
theorem dX8_tick_90 : decode cX8_tick 90 = .ok (.aload_n 0, 1) := by decide +kernel
theorem dX8_tick_91 : decode cX8_tick 91 = .ok (.iconst 2, 1) := by decide +kernel
theorem dX8_tick_92 : decode cX8_tick 92 = .ok (.iaload, 1) := by decide +kernel
theorem dX8_tick_93 : decode cX8_tick 93 = .ok (.if_icmp .lt 7, 3) := by decide +kernel
theorem dX8_tick_96 : decode cX8_tick 96 = .ok (.aload_n 0, 1) := by decide +kernel
theorem dX8_tick_97 : decode cX8_tick 97 = .ok (.invokestatic 88, 3) := by decide +kernel
theorem dX8_tick_100 : decode cX8_tick 100 = .ok (.iload_n 2, 1) := by decide +kernel
theorem dX8_tick_101 : decode cX8_tick 101 = .ok (.ireturn, 1) := by decide +kernel
set_option maxRecDepth 20000 in
theorem ggX8_ticksIn_X8_tick : GoodIn wsX8_ticksIn wsX8_tick := goodIn_r _ [4, 5, 6, 3, 7, 8, 9, 10, 11, 12, 13, 14, 15, 16, 17, 18, 19, 20, 21, 22, 23, 24, 25, 26, 27, 28, 29, 30, 31, 32, 33, 34, 35, 36, 37, 38, 39, 40] (by decide +kernel) (by decide +kernel)
set_option maxRecDepth 20000 in
theorem gX8_ticksIn_X8_tick : GoodIn wsX8_ticksIn (va_wsS RX8 91 yX8_tick wsX8_tick) := goodIn_app (goodIn_of _ (by decide +kernel)) ggX8_ticksIn_X8_tick
theorem dX8_ticksIn_0 : decode cX8_ticksIn 0 = .ok (.iconst 0, 1) := by decide +kernel
theorem dX8_ticksIn_1 : decode cX8_ticksIn 1 = .ok (.istore_n 2, 1) := by decide +kernel
theorem dX8_ticksIn_2 : decode cX8_ticksIn 2 = .ok (.iconst 0, 1) := by decide +kernel
theorem dX8_ticksIn_3 : decode cX8_ticksIn 3 = .ok (.istore_n 3, 1) := by decide +kernel
theorem dX8_ticksIn_4 : decode cX8_ticksIn 4 = .ok (.iload_n 3, 1) := by decide +kernel
theorem dX8_ticksIn_5 : decode cX8_ticksIn 5 = .ok (.iload_n 1, 1) := by decide +kernel
theorem dX8_ticksIn_6 : decode cX8_ticksIn 6 = .ok (.if_icmp .ge 16, 3) := by decide +kernel
theorem dX8_ticksIn_9 : decode cX8_ticksIn 9 = .ok (.iload_n 2, 1) := by decide +kernel
theorem dX8_ticksIn_10 : decode cX8_ticksIn 10 = .ok (.aload_n 0, 1) := by decide +kernel
theorem dX8_ticksIn_11 : decode cX8_ticksIn 11 = .ok (.invokestatic 91, 3) := by decide +kernel
theorem dX8_ticksIn_14 : decode cX8_ticksIn 14 = .ok (.iadd, 1) := by decide +kernel
theorem dX8_ticksIn_15 : decode cX8_ticksIn 15 = .ok (.istore_n 2, 1) := by decide +kernel
theorem dX8_ticksIn_16 : decode cX8_ticksIn 16 = .ok (.iinc 3 1, 3) := by decide +kernel
theorem dX8_ticksIn_19 : decode cX8_ticksIn 19 = .ok (.goto (-15), 3) := by decide +kernel
theorem dX8_ticksIn_22 : decode cX8_ticksIn 22 = .ok (.iload_n 2, 1) := by decide +kernel
theorem dX8_ticksIn_23 : decode cX8_ticksIn 23 = .ok (.ireturn, 1) := by decide +kernel
set_option maxRecDepth 20000 in
theorem ggX8_append_X8_in : GoodIn wsX8_append wsX8_in := goodIn_r _ [7] (by decide +kernel) (by decide +kernel)
set_option maxRecDepth 20000 in
theorem gX8_append_X8_in : GoodIn wsX8_append (va_wsS RX8 96 yX8_in wsX8_in) := goodIn_app (goodIn_of _ (by decide +kernel)) ggX8_append_X8_in
set_option maxRecDepth 20000 in
theorem ggX8_append_X8_refused : GoodIn wsX8_append wsX8_refused := goodIn_r _ [11, 12, 13, 14, 15, 16, 17, 18, 19, 20, 21, 22, 23, 24, 25] (by decide +kernel) (by decide +kernel)
set_option maxRecDepth 20000 in
theorem gX8_append_X8_refused : GoodIn wsX8_append (wsV RX8 103 RX8 yX8_refused wsX8_refused) := goodIn_app (goodIn_of _ (by decide +kernel)) ggX8_append_X8_refused
theorem dX8_append_0 : decode cX8_append 0 = .ok (.aload_n 0, 1) := by decide +kernel
theorem dX8_append_1 : decode cX8_append 1 = .ok (.iload_n 1, 1) := by decide +kernel
theorem dX8_append_2 : decode cX8_append 2 = .ok (.i2l, 1) := by decide +kernel
theorem dX8_append_3 : decode cX8_append 3 = .ok (.lconst 0, 1) := by decide +kernel
theorem dX8_append_4 : decode cX8_append 4 = .ok (.ldc2_w 94, 3) := by decide +kernel
theorem dX8_append_7 : decode cX8_append 7 = .ok (.invokestatic 96, 3) := by decide +kernel
theorem dX8_append_10 : decode cX8_append 10 = .ok (.ifCond .ne 7, 3) := by decide +kernel
theorem dX8_append_13 : decode cX8_append 13 = .ok (.iconst 1, 1) := by decide +kernel
theorem dX8_append_14 : decode cX8_append 14 = .ok (.goto 17, 3) := by decide +kernel
theorem dX8_append_17 : decode cX8_append 17 = .ok (.aload_n 0, 1) := by decide +kernel
theorem dX8_append_18 : decode cX8_append 18 = .ok (.getfield 100, 3) := by decide +kernel
theorem dX8_append_21 : decode cX8_append 21 = .ok (.bipush 120, 2) := by decide +kernel
theorem dX8_append_23 : decode cX8_append 23 = .ok (.if_icmp .ne 7, 3) := by decide +kernel
theorem dX8_append_26 : decode cX8_append 26 = .ok (.iconst 2, 1) := by decide +kernel
theorem dX8_append_27 : decode cX8_append 27 = .ok (.goto 4, 3) := by decide +kernel
theorem dX8_append_30 : decode cX8_append 30 = .ok (.iconst 0, 1) := by decide +kernel
theorem dX8_append_31 : decode cX8_append 31 = .ok (.invokevirtual 103, 3) := by decide +kernel
theorem dX8_append_34 : decode cX8_append 34 = .ok (.ifCond .eq 5, 3) := by decide +kernel
theorem dX8_append_37 : decode cX8_append 37 = .ok (.iconst 0, 1) := by decide +kernel
theorem dX8_append_38 : decode cX8_append 38 = .ok (.ireturn, 1) := by decide +kernel
theorem dX8_append_39 : decode cX8_append 39 = .ok (.aload_n 0, 1) := by decide +kernel
theorem dX8_append_40 : decode cX8_append 40 = .ok (.getfield 7, 3) := by decide +kernel
theorem dX8_append_43 : decode cX8_append 43 = .ok (.aload_n 0, 1) := by decide +kernel
theorem dX8_append_44 : decode cX8_append 44 = .ok (.getfield 100, 3) := by decide +kernel
theorem dX8_append_47 : decode cX8_append 47 = .ok (.iload_n 1, 1) := by decide +kernel
theorem dX8_append_48 : decode cX8_append 48 = .ok (.iastore, 1) := by decide +kernel
theorem dX8_append_49 : decode cX8_append 49 = .ok (.aload_n 0, 1) := by decide +kernel
theorem dX8_append_50 : decode cX8_append 50 = .ok (.dup, 1) := by decide +kernel
theorem dX8_append_51 : decode cX8_append 51 = .ok (.getfield 100, 3) := by decide +kernel
theorem dX8_append_54 : decode cX8_append 54 = .ok (.iconst 1, 1) := by decide +kernel
theorem dX8_append_55 : decode cX8_append 55 = .ok (.iadd, 1) := by decide +kernel
theorem dX8_append_56 : decode cX8_append 56 = .ok (.putfield 100, 3) := by decide +kernel
theorem dX8_append_59 : decode cX8_append 59 = .ok (.aload_n 0, 1) := by decide +kernel
theorem dX8_append_60 : decode cX8_append 60 = .ok (.getfield 100, 3) := by decide +kernel
theorem dX8_append_63 : decode cX8_append 63 = .ok (.ireturn, 1) := by decide +kernel
theorem dX8_clearText_0 : decode cX8_clearText 0 = .ok (.aload_n 0, 1) := by decide +kernel
theorem dX8_clearText_1 : decode cX8_clearText 1 = .ok (.iconst 0, 1) := by decide +kernel
theorem dX8_clearText_2 : decode cX8_clearText 2 = .ok (.putfield 36, 3) := by decide +kernel
theorem dX8_clearText_5 : decode cX8_clearText 5 = .ok (.aload_n 0, 1) := by decide +kernel
theorem dX8_clearText_6 : decode cX8_clearText 6 = .ok (.getfield 100, 3) := by decide +kernel
theorem dX8_clearText_9 : decode cX8_clearText 9 = .ok (.istore_n 1, 1) := by decide +kernel
theorem dX8_clearText_10 : decode cX8_clearText 10 = .ok (.aload_n 0, 1) := by decide +kernel
theorem dX8_clearText_11 : decode cX8_clearText 11 = .ok (.iconst 0, 1) := by decide +kernel
theorem dX8_clearText_12 : decode cX8_clearText 12 = .ok (.putfield 100, 3) := by decide +kernel
theorem dX8_clearText_15 : decode cX8_clearText 15 = .ok (.iload_n 1, 1) := by decide +kernel
theorem dX8_clearText_16 : decode cX8_clearText 16 = .ok (.ireturn, 1) := by decide +kernel
theorem dX8_isNext_0 : decode cX8_isNext 0 = .ok (.aload_n 0, 1) := by decide +kernel
theorem dX8_isNext_1 : decode cX8_isNext 1 = .ok (.getfield 107, 3) := by decide +kernel
theorem dX8_isNext_4 : decode cX8_isNext 4 = .ok (.aload_n 0, 1) := by decide +kernel
theorem dX8_isNext_5 : decode cX8_isNext 5 = .ok (.getfield 100, 3) := by decide +kernel
theorem dX8_isNext_8 : decode cX8_isNext 8 = .ok (.if_icmp .ge 20, 3) := by decide +kernel
theorem dX8_isNext_11 : decode cX8_isNext 11 = .ok (.aload_n 0, 1) := by decide +kernel
theorem dX8_isNext_12 : decode cX8_isNext 12 = .ok (.getfield 7, 3) := by decide +kernel
theorem dX8_isNext_15 : decode cX8_isNext 15 = .ok (.aload_n 0, 1) := by decide +kernel
theorem dX8_isNext_16 : decode cX8_isNext 16 = .ok (.getfield 107, 3) := by decide +kernel
theorem dX8_isNext_19 : decode cX8_isNext 19 = .ok (.iaload, 1) := by decide +kernel
theorem dX8_isNext_20 : decode cX8_isNext 20 = .ok (.iload_n 1, 1) := by decide +kernel
theorem dX8_isNext_21 : decode cX8_isNext 21 = .ok (.if_icmp .ne 7, 3) := by decide +kernel
theorem dX8_isNext_24 : decode cX8_isNext 24 = .ok (.iconst 1, 1) := by decide +kernel
theorem dX8_isNext_25 : decode cX8_isNext 25 = .ok (.goto 4, 3) := by decide +kernel
theorem dX8_isNext_28 : decode cX8_isNext 28 = .ok (.iconst 0, 1) := by decide +kernel
theorem dX8_isNext_29 : decode cX8_isNext 29 = .ok (.ireturn, 1) := by decide +kernel
theorem dX8_accept_0 : decode cX8_accept 0 = .ok (.aload_n 0, 1) := by decide +kernel
theorem dX8_accept_1 : decode cX8_accept 1 = .ok (.aload_n 0, 1) := by decide +kernel
theorem dX8_accept_2 : decode cX8_accept 2 = .ok (.getfield 110, 3) := by decide +kernel
theorem dX8_accept_5 : decode cX8_accept 5 = .ok (.ifCond .eq 11, 3) := by decide +kernel
theorem dX8_accept_8 : decode cX8_accept 8 = .ok (.iload_n 1, 1) := by decide +kernel
theorem dX8_accept_9 : decode cX8_accept 9 = .ok (.ifCond .eq 7, 3) := by decide +kernel
theorem dX8_accept_12 : decode cX8_accept 12 = .ok (.iconst 1, 1) := by decide +kernel
theorem dX8_accept_13 : decode cX8_accept 13 = .ok (.goto 4, 3) := by decide +kernel
theorem dX8_accept_16 : decode cX8_accept 16 = .ok (.iconst 0, 1) := by decide +kernel
theorem dX8_accept_17 : decode cX8_accept 17 = .ok (.putfield 110, 3) := by decide +kernel
theorem dX8_accept_20 : decode cX8_accept 20 = .ok (.aload_n 0, 1) := by decide +kernel
theorem dX8_accept_21 : decode cX8_accept 21 = .ok (.dup, 1) := by decide +kernel
theorem dX8_accept_22 : decode cX8_accept 22 = .ok (.getfield 107, 3) := by decide +kernel
theorem dX8_accept_25 : decode cX8_accept 25 = .ok (.aload_n 0, 1) := by decide +kernel
theorem dX8_accept_26 : decode cX8_accept 26 = .ok (.getfield 110, 3) := by decide +kernel
theorem dX8_accept_29 : decode cX8_accept 29 = .ok (.ifCond .eq 7, 3) := by decide +kernel
theorem dX8_accept_32 : decode cX8_accept 32 = .ok (.iconst 1, 1) := by decide +kernel
theorem dX8_accept_33 : decode cX8_accept 33 = .ok (.goto 4, 3) := by decide +kernel
theorem dX8_accept_36 : decode cX8_accept 36 = .ok (.iconst 0, 1) := by decide +kernel
theorem dX8_accept_37 : decode cX8_accept 37 = .ok (.iadd, 1) := by decide +kernel
theorem dX8_accept_38 : decode cX8_accept 38 = .ok (.putfield 107, 3) := by decide +kernel
theorem dX8_accept_41 : decode cX8_accept 41 = .ok (.return_, 1) := by decide +kernel
set_option maxRecDepth 20000 in
theorem ggX8_digit_X8_in : GoodIn wsX8_digit wsX8_in := goodIn_r _ [9] (by decide +kernel) (by decide +kernel)
set_option maxRecDepth 20000 in
theorem gX8_digit_X8_in : GoodIn wsX8_digit (va_wsS RX8 96 yX8_in wsX8_in) := goodIn_app (goodIn_of _ (by decide +kernel)) ggX8_digit_X8_in
set_option maxRecDepth 20000 in
theorem ggX8_digit_X8_accept : GoodIn wsX8_digit wsX8_accept := goodIn_r _ [13, 5, 1, 14, 15, 16, 17, 18, 19, 20, 21, 22, 23, 24, 25, 26] (by decide +kernel) (by decide +kernel)
set_option maxRecDepth 20000 in
theorem gX8_digit_X8_accept : GoodIn wsX8_digit (wsV RX8 116 RX8 yX8_accept wsX8_accept) := goodIn_app (goodIn_of _ (by decide +kernel)) ggX8_digit_X8_accept
theorem dX8_digit_0 : decode cX8_digit 0 = .ok (.aload_n 0, 1) := by decide +kernel
theorem dX8_digit_1 : decode cX8_digit 1 = .ok (.getfield 107, 3) := by decide +kernel
theorem dX8_digit_4 : decode cX8_digit 4 = .ok (.aload_n 0, 1) := by decide +kernel
theorem dX8_digit_5 : decode cX8_digit 5 = .ok (.getfield 100, 3) := by decide +kernel
theorem dX8_digit_8 : decode cX8_digit 8 = .ok (.if_icmp .ge 18, 3) := by decide +kernel
theorem dX8_digit_11 : decode cX8_digit 11 = .ok (.aload_n 0, 1) := by decide +kernel
theorem dX8_digit_12 : decode cX8_digit 12 = .ok (.getfield 7, 3) := by decide +kernel
theorem dX8_digit_15 : decode cX8_digit 15 = .ok (.aload_n 0, 1) := by decide +kernel
theorem dX8_digit_16 : decode cX8_digit 16 = .ok (.getfield 107, 3) := by decide +kernel
theorem dX8_digit_19 : decode cX8_digit 19 = .ok (.iaload, 1) := by decide +kernel
theorem dX8_digit_20 : decode cX8_digit 20 = .ok (.bipush 48, 2) := by decide +kernel
theorem dX8_digit_22 : decode cX8_digit 22 = .ok (.isub, 1) := by decide +kernel
theorem dX8_digit_23 : decode cX8_digit 23 = .ok (.goto 4, 3) := by decide +kernel
theorem dX8_digit_26 : decode cX8_digit 26 = .ok (.iconst (-1), 1) := by decide +kernel
theorem dX8_digit_27 : decode cX8_digit 27 = .ok (.istore_n 3, 1) := by decide +kernel
theorem dX8_digit_28 : decode cX8_digit 28 = .ok (.aload_n 0, 1) := by decide +kernel
theorem dX8_digit_29 : decode cX8_digit 29 = .ok (.iload_n 3, 1) := by decide +kernel
theorem dX8_digit_30 : decode cX8_digit 30 = .ok (.i2l, 1) := by decide +kernel
theorem dX8_digit_31 : decode cX8_digit 31 = .ok (.lconst 0, 1) := by decide +kernel
theorem dX8_digit_32 : decode cX8_digit 32 = .ok (.ldc2_w 114, 3) := by decide +kernel
theorem dX8_digit_35 : decode cX8_digit 35 = .ok (.invokestatic 96, 3) := by decide +kernel
theorem dX8_digit_38 : decode cX8_digit 38 = .ok (.ifCond .eq 19, 3) := by decide +kernel
theorem dX8_digit_41 : decode cX8_digit 41 = .ok (.iload_n 3, 1) := by decide +kernel
theorem dX8_digit_42 : decode cX8_digit 42 = .ok (.i2l, 1) := by decide +kernel
theorem dX8_digit_43 : decode cX8_digit 43 = .ok (.iload_n 1, 1) := by decide +kernel
theorem dX8_digit_44 : decode cX8_digit 44 = .ok (.i2l, 1) := by decide +kernel
theorem dX8_digit_45 : decode cX8_digit 45 = .ok (.iload_n 2, 1) := by decide +kernel
theorem dX8_digit_46 : decode cX8_digit 46 = .ok (.i2l, 1) := by decide +kernel
theorem dX8_digit_47 : decode cX8_digit 47 = .ok (.invokestatic 96, 3) := by decide +kernel
theorem dX8_digit_50 : decode cX8_digit 50 = .ok (.ifCond .eq 7, 3) := by decide +kernel
theorem dX8_digit_53 : decode cX8_digit 53 = .ok (.iconst 1, 1) := by decide +kernel
theorem dX8_digit_54 : decode cX8_digit 54 = .ok (.goto 4, 3) := by decide +kernel
theorem dX8_digit_57 : decode cX8_digit 57 = .ok (.iconst 0, 1) := by decide +kernel
theorem dX8_digit_58 : decode cX8_digit 58 = .ok (.invokevirtual 116, 3) := by decide +kernel
theorem dX8_digit_61 : decode cX8_digit 61 = .ok (.aload_n 0, 1) := by decide +kernel
theorem dX8_digit_62 : decode cX8_digit 62 = .ok (.getfield 110, 3) := by decide +kernel
theorem dX8_digit_65 : decode cX8_digit 65 = .ok (.ifCond .eq 7, 3) := by decide +kernel
theorem dX8_digit_68 : decode cX8_digit 68 = .ok (.iload_n 3, 1) := by decide +kernel
theorem dX8_digit_69 : decode cX8_digit 69 = .ok (.goto 4, 3) := by decide +kernel
theorem dX8_digit_72 : decode cX8_digit 72 = .ok (.iload_n 1, 1) := by decide +kernel
theorem dX8_digit_73 : decode cX8_digit 73 = .ok (.ireturn, 1) := by decide +kernel
set_option maxRecDepth 20000 in
theorem ggX8_two_X8_digit : GoodIn wsX8_two wsX8_digit := goodIn_r _ [5, 6, 7, 8, 9, 10, 11, 12, 4, 13, 14, 15, 16, 17, 18, 19, 20, 21, 22, 23, 24, 25, 26, 27, 28, 29, 30] (by decide +kernel) (by decide +kernel)
set_option maxRecDepth 20000 in
theorem gX8_two_X8_digit : GoodIn wsX8_two (wsV RX8 120 RX8 yX8_digit wsX8_digit) := goodIn_app (goodIn_of _ (by decide +kernel)) ggX8_two_X8_digit
theorem dX8_two_0 : decode cX8_two 0 = .ok (.aload_n 0, 1) := by decide +kernel
theorem dX8_two_1 : decode cX8_two 1 = .ok (.iload_n 1, 1) := by decide +kernel
theorem dX8_two_2 : decode cX8_two 2 = .ok (.bipush 10, 2) := by decide +kernel
theorem dX8_two_4 : decode cX8_two 4 = .ok (.idiv, 1) := by decide +kernel
theorem dX8_two_5 : decode cX8_two 5 = .ok (.iload_n 2, 1) := by decide +kernel
theorem dX8_two_6 : decode cX8_two 6 = .ok (.bipush 10, 2) := by decide +kernel
theorem dX8_two_8 : decode cX8_two 8 = .ok (.idiv, 1) := by decide +kernel
theorem dX8_two_9 : decode cX8_two 9 = .ok (.invokevirtual 120, 3) := by decide +kernel
theorem dX8_two_12 : decode cX8_two 12 = .ok (.istore_n 3, 1) := by decide +kernel
theorem dX8_two_13 : decode cX8_two 13 = .ok (.iload_n 1, 1) := by decide +kernel
theorem dX8_two_14 : decode cX8_two 14 = .ok (.bipush 10, 2) := by decide +kernel
theorem dX8_two_16 : decode cX8_two 16 = .ok (.iload_n 3, 1) := by decide +kernel
theorem dX8_two_17 : decode cX8_two 17 = .ok (.imul, 1) := by decide +kernel
theorem dX8_two_18 : decode cX8_two 18 = .ok (.isub, 1) := by decide +kernel
theorem dX8_two_19 : decode cX8_two 19 = .ok (.istore 4, 2) := by decide +kernel
theorem dX8_two_21 : decode cX8_two 21 = .ok (.iload_n 2, 1) := by decide +kernel
theorem dX8_two_22 : decode cX8_two 22 = .ok (.bipush 10, 2) := by decide +kernel
theorem dX8_two_24 : decode cX8_two 24 = .ok (.iload_n 3, 1) := by decide +kernel
theorem dX8_two_25 : decode cX8_two 25 = .ok (.imul, 1) := by decide +kernel
theorem dX8_two_26 : decode cX8_two 26 = .ok (.isub, 1) := by decide +kernel
theorem dX8_two_27 : decode cX8_two 27 = .ok (.istore 5, 2) := by decide +kernel
theorem dX8_two_29 : decode cX8_two 29 = .ok (.bipush 10, 2) := by decide +kernel
theorem dX8_two_31 : decode cX8_two 31 = .ok (.iload_n 3, 1) := by decide +kernel
theorem dX8_two_32 : decode cX8_two 32 = .ok (.imul, 1) := by decide +kernel
theorem dX8_two_33 : decode cX8_two 33 = .ok (.aload_n 0, 1) := by decide +kernel
theorem dX8_two_34 : decode cX8_two 34 = .ok (.iload 4, 2) := by decide +kernel
theorem dX8_two_36 : decode cX8_two 36 = .ok (.ifCond .ge 7, 3) := by decide +kernel
theorem dX8_two_39 : decode cX8_two 39 = .ok (.iconst 0, 1) := by decide +kernel
theorem dX8_two_40 : decode cX8_two 40 = .ok (.goto 5, 3) := by decide +kernel
theorem dX8_two_43 : decode cX8_two 43 = .ok (.iload 4, 2) := by decide +kernel
theorem dX8_two_45 : decode cX8_two 45 = .ok (.iload 5, 2) := by decide +kernel
theorem dX8_two_47 : decode cX8_two 47 = .ok (.bipush 9, 2) := by decide +kernel
theorem dX8_two_49 : decode cX8_two 49 = .ok (.if_icmp .le 8, 3) := by decide +kernel
theorem dX8_two_52 : decode cX8_two 52 = .ok (.bipush 9, 2) := by decide +kernel
theorem dX8_two_54 : decode cX8_two 54 = .ok (.goto 5, 3) := by decide +kernel
theorem dX8_two_57 : decode cX8_two 57 = .ok (.iload 5, 2) := by decide +kernel
theorem dX8_two_59 : decode cX8_two 59 = .ok (.invokevirtual 120, 3) := by decide +kernel
theorem dX8_two_62 : decode cX8_two 62 = .ok (.iadd, 1) := by decide +kernel
theorem dX8_two_63 : decode cX8_two 63 = .ok (.ireturn, 1) := by decide +kernel
set_option maxRecDepth 20000 in
theorem ggX8_readPicture_X8_accept : GoodIn wsX8_readPicture wsX8_accept := goodIn_r _ [7, 1, 8, 31, 32, 33, 34, 35, 36, 37, 38, 39, 40, 41, 42, 43] (by decide +kernel) (by decide +kernel)
set_option maxRecDepth 20000 in
theorem gX8_readPicture_X8_accept : GoodIn wsX8_readPicture (wsV RX8 116 RX8 yX8_accept wsX8_accept) := goodIn_app (goodIn_of _ (by decide +kernel)) ggX8_readPicture_X8_accept
set_option maxRecDepth 20000 in
theorem ggX8_readPicture_X8_digit : GoodIn wsX8_readPicture wsX8_digit := goodIn_r _ [12, 8, 13, 14, 15, 1, 16, 17, 6, 18, 3, 4, 5, 7, 31, 32, 33, 34, 35, 36, 37, 38, 39, 40, 41, 42, 43] (by decide +kernel) (by decide +kernel)
set_option maxRecDepth 20000 in
theorem gX8_readPicture_X8_digit : GoodIn wsX8_readPicture (wsV RX8 120 RX8 yX8_digit wsX8_digit) := goodIn_app (goodIn_of _ (by decide +kernel)) ggX8_readPicture_X8_digit
set_option maxRecDepth 20000 in
theorem ggX8_readPicture_X8_shootIn : GoodIn wsX8_readPicture wsX8_shootIn := goodIn_r _ [21, 22, 23, 6, 24, 25, 26, 27, 28, 29, 30] (by decide +kernel) (by decide +kernel)
set_option maxRecDepth 20000 in
theorem gX8_readPicture_X8_shootIn : GoodIn wsX8_readPicture (va_wsS RX8 123 yX8_shootIn wsX8_shootIn) := goodIn_app (goodIn_of _ (by decide +kernel)) ggX8_readPicture_X8_shootIn
theorem dX8_readPicture_0 : decode cX8_readPicture 0 = .ok (.aload_n 0, 1) := by decide +kernel
theorem dX8_readPicture_1 : decode cX8_readPicture 1 = .ok (.iconst 1, 1) := by decide +kernel
theorem dX8_readPicture_2 : decode cX8_readPicture 2 = .ok (.invokevirtual 116, 3) := by decide +kernel
theorem dX8_readPicture_5 : decode cX8_readPicture 5 = .ok (.iconst 0, 1) := by decide +kernel
theorem dX8_readPicture_6 : decode cX8_readPicture 6 = .ok (.istore_n 1, 1) := by decide +kernel
theorem dX8_readPicture_7 : decode cX8_readPicture 7 = .ok (.iconst 0, 1) := by decide +kernel
theorem dX8_readPicture_8 : decode cX8_readPicture 8 = .ok (.istore_n 2, 1) := by decide +kernel
theorem dX8_readPicture_9 : decode cX8_readPicture 9 = .ok (.iload_n 2, 1) := by decide +kernel
theorem dX8_readPicture_10 : decode cX8_readPicture 10 = .ok (.bipush 6, 2) := by decide +kernel
theorem dX8_readPicture_12 : decode cX8_readPicture 12 = .ok (.if_icmp .ge 22, 3) := by decide +kernel
theorem dX8_readPicture_15 : decode cX8_readPicture 15 = .ok (.bipush 10, 2) := by decide +kernel
theorem dX8_readPicture_17 : decode cX8_readPicture 17 = .ok (.iload_n 1, 1) := by decide +kernel
theorem dX8_readPicture_18 : decode cX8_readPicture 18 = .ok (.imul, 1) := by decide +kernel
theorem dX8_readPicture_19 : decode cX8_readPicture 19 = .ok (.aload_n 0, 1) := by decide +kernel
theorem dX8_readPicture_20 : decode cX8_readPicture 20 = .ok (.iconst 0, 1) := by decide +kernel
theorem dX8_readPicture_21 : decode cX8_readPicture 21 = .ok (.bipush 9, 2) := by decide +kernel
theorem dX8_readPicture_23 : decode cX8_readPicture 23 = .ok (.invokevirtual 120, 3) := by decide +kernel
theorem dX8_readPicture_26 : decode cX8_readPicture 26 = .ok (.iadd, 1) := by decide +kernel
theorem dX8_readPicture_27 : decode cX8_readPicture 27 = .ok (.istore_n 1, 1) := by decide +kernel
theorem dX8_readPicture_28 : decode cX8_readPicture 28 = .ok (.iinc 2 1, 3) := by decide +kernel
theorem dX8_readPicture_31 : decode cX8_readPicture 31 = .ok (.goto (-22), 3) := by decide +kernel
theorem dX8_readPicture_34 : decode cX8_readPicture 34 = .ok (.aload_n 0, 1) := by decide +kernel
theorem dX8_readPicture_35 : decode cX8_readPicture 35 = .ok (.getfield 110, 3) := by decide +kernel
theorem dX8_readPicture_38 : decode cX8_readPicture 38 = .ok (.ifCond .eq 12, 3) := by decide +kernel
theorem dX8_readPicture_41 : decode cX8_readPicture 41 = .ok (.aload_n 0, 1) := by decide +kernel
theorem dX8_readPicture_42 : decode cX8_readPicture 42 = .ok (.getfield 13, 3) := by decide +kernel
theorem dX8_readPicture_45 : decode cX8_readPicture 45 = .ok (.iload_n 1, 1) := by decide +kernel
theorem dX8_readPicture_46 : decode cX8_readPicture 46 = .ok (.invokestatic 123, 3) := by decide +kernel
theorem dX8_readPicture_49 : decode cX8_readPicture 49 = .ok (.pop, 1) := by decide +kernel
theorem dX8_readPicture_50 : decode cX8_readPicture 50 = .ok (.return_, 1) := by decide +kernel
set_option maxRecDepth 20000 in
theorem ggX8_readDrop_X8_accept : GoodIn wsX8_readDrop wsX8_accept := goodIn_r _ [8, 1, 9, 33, 34, 35, 36, 37, 38, 39, 40, 41, 42, 43, 44, 45] (by decide +kernel) (by decide +kernel)
set_option maxRecDepth 20000 in
theorem gX8_readDrop_X8_accept : GoodIn wsX8_readDrop (wsV RX8 116 RX8 yX8_accept wsX8_accept) := goodIn_app (goodIn_of _ (by decide +kernel)) ggX8_readDrop_X8_accept
set_option maxRecDepth 20000 in
theorem ggX8_readDrop_X8_two : GoodIn wsX8_readDrop wsX8_two := goodIn_r _ [13, 14, 15, 16, 7, 17, 9, 18, 19, 20, 1, 21, 22, 23, 4, 5, 6, 8, 33, 34, 35, 36, 37, 38, 39, 40, 41, 42, 43, 44, 45] (by decide +kernel) (by decide +kernel)
set_option maxRecDepth 20000 in
theorem gX8_readDrop_X8_two : GoodIn wsX8_readDrop (wsV RX8 126 RX8 yX8_two wsX8_two) := goodIn_app (goodIn_of _ (by decide +kernel)) ggX8_readDrop_X8_two
set_option maxRecDepth 20000 in
theorem ggX8_readDrop_X8_dropIn : GoodIn wsX8_readDrop wsX8_dropIn := goodIn_r _ [26, 27, 28, 7, 29, 30, 31, 32] (by decide +kernel) (by decide +kernel)
set_option maxRecDepth 20000 in
theorem gX8_readDrop_X8_dropIn : GoodIn wsX8_readDrop (va_wsS RX8 85 yX8_dropIn wsX8_dropIn) := goodIn_app (goodIn_of _ (by decide +kernel)) ggX8_readDrop_X8_dropIn
theorem dX8_readDrop_0 : decode cX8_readDrop 0 = .ok (.aload_n 0, 1) := by decide +kernel
theorem dX8_readDrop_1 : decode cX8_readDrop 1 = .ok (.iconst 1, 1) := by decide +kernel
theorem dX8_readDrop_2 : decode cX8_readDrop 2 = .ok (.invokevirtual 116, 3) := by decide +kernel
theorem dX8_readDrop_5 : decode cX8_readDrop 5 = .ok (.aload_n 0, 1) := by decide +kernel
theorem dX8_readDrop_6 : decode cX8_readDrop 6 = .ok (.iconst 0, 1) := by decide +kernel
theorem dX8_readDrop_7 : decode cX8_readDrop 7 = .ok (.bipush 47, 2) := by decide +kernel
theorem dX8_readDrop_9 : decode cX8_readDrop 9 = .ok (.invokevirtual 126, 3) := by decide +kernel
theorem dX8_readDrop_12 : decode cX8_readDrop 12 = .ok (.istore_n 1, 1) := by decide +kernel
theorem dX8_readDrop_13 : decode cX8_readDrop 13 = .ok (.aload_n 0, 1) := by decide +kernel
theorem dX8_readDrop_14 : decode cX8_readDrop 14 = .ok (.getfield 110, 3) := by decide +kernel
theorem dX8_readDrop_17 : decode cX8_readDrop 17 = .ok (.ifCond .eq 48, 3) := by decide +kernel
theorem dX8_readDrop_20 : decode cX8_readDrop 20 = .ok (.aload_n 0, 1) := by decide +kernel
theorem dX8_readDrop_21 : decode cX8_readDrop 21 = .ok (.dup, 1) := by decide +kernel
theorem dX8_readDrop_22 : decode cX8_readDrop 22 = .ok (.getfield 129, 3) := by decide +kernel
theorem dX8_readDrop_25 : decode cX8_readDrop 25 = .ok (.iload_n 1, 1) := by decide +kernel
theorem dX8_readDrop_26 : decode cX8_readDrop 26 = .ok (.aload_n 0, 1) := by decide +kernel
theorem dX8_readDrop_27 : decode cX8_readDrop 27 = .ok (.getfield 13, 3) := by decide +kernel
theorem dX8_readDrop_30 : decode cX8_readDrop 30 = .ok (.bipush 16, 2) := by decide +kernel
theorem dX8_readDrop_32 : decode cX8_readDrop 32 = .ok (.iaload, 1) := by decide +kernel
theorem dX8_readDrop_33 : decode cX8_readDrop 33 = .ok (.if_icmp .ge 7, 3) := by decide +kernel
theorem dX8_readDrop_36 : decode cX8_readDrop 36 = .ok (.iconst 0, 1) := by decide +kernel
theorem dX8_readDrop_37 : decode cX8_readDrop 37 = .ok (.goto 4, 3) := by decide +kernel
theorem dX8_readDrop_40 : decode cX8_readDrop 40 = .ok (.iconst 1, 1) := by decide +kernel
theorem dX8_readDrop_41 : decode cX8_readDrop 41 = .ok (.iadd, 1) := by decide +kernel
theorem dX8_readDrop_42 : decode cX8_readDrop 42 = .ok (.putfield 129, 3) := by decide +kernel
theorem dX8_readDrop_45 : decode cX8_readDrop 45 = .ok (.iload_n 1, 1) := by decide +kernel
theorem dX8_readDrop_46 : decode cX8_readDrop 46 = .ok (.aload_n 0, 1) := by decide +kernel
theorem dX8_readDrop_47 : decode cX8_readDrop 47 = .ok (.getfield 13, 3) := by decide +kernel
theorem dX8_readDrop_50 : decode cX8_readDrop 50 = .ok (.bipush 16, 2) := by decide +kernel
theorem dX8_readDrop_52 : decode cX8_readDrop 52 = .ok (.iaload, 1) := by decide +kernel
theorem dX8_readDrop_53 : decode cX8_readDrop 53 = .ok (.if_icmp .ge 12, 3) := by decide +kernel
theorem dX8_readDrop_56 : decode cX8_readDrop 56 = .ok (.aload_n 0, 1) := by decide +kernel
theorem dX8_readDrop_57 : decode cX8_readDrop 57 = .ok (.getfield 13, 3) := by decide +kernel
theorem dX8_readDrop_60 : decode cX8_readDrop 60 = .ok (.iload_n 1, 1) := by decide +kernel
theorem dX8_readDrop_61 : decode cX8_readDrop 61 = .ok (.invokestatic 85, 3) := by decide +kernel
theorem dX8_readDrop_64 : decode cX8_readDrop 64 = .ok (.pop, 1) := by decide +kernel
theorem dX8_readDrop_65 : decode cX8_readDrop 65 = .ok (.return_, 1) := by decide +kernel
set_option maxRecDepth 20000 in
theorem ggX8_readCommand_X8_isNext : GoodIn wsX8_readCommand wsX8_isNext := goodIn_r _ [7, 8, 9, 10, 84, 85, 86, 87, 88, 89, 90, 91, 92, 93, 94, 95, 96] (by decide +kernel) (by decide +kernel)
set_option maxRecDepth 20000 in
theorem gX8_readCommand_X8_isNext : GoodIn wsX8_readCommand (wsV RX8 132 RX8 yX8_isNext wsX8_isNext) := goodIn_app (goodIn_of _ (by decide +kernel)) ggX8_readCommand_X8_isNext
set_option maxRecDepth 20000 in
theorem ggX8_readCommand_X8_readPicture : GoodIn wsX8_readCommand wsX8_readPicture := goodIn_r _ [14, 2, 1, 15, 16, 17, 6, 18, 8, 19, 20, 21, 22, 9, 10, 23, 24, 25, 26, 27, 28, 29, 30, 31, 32, 33, 34, 35, 36, 37, 38, 84, 85, 86, 87, 88, 89, 90, 91, 92, 93, 94, 95, 96] (by decide +kernel) (by decide +kernel)
set_option maxRecDepth 20000 in
theorem gX8_readCommand_X8_readPicture : GoodIn wsX8_readCommand (wsV RX8 135 RX8 yX8_readPicture wsX8_readPicture) := goodIn_app (goodIn_of _ (by decide +kernel)) ggX8_readCommand_X8_readPicture
set_option maxRecDepth 20000 in
theorem ggX8_readCommand_X8_readDrop : GoodIn wsX8_readCommand wsX8_readDrop := goodIn_r _ [42, 2, 43, 1, 15, 16, 17, 6, 18, 8, 44, 45, 46, 47, 19, 20, 21, 22, 9, 10, 23, 24, 25, 26, 48, 49, 50, 51, 52, 53, 54, 55, 56, 84, 85, 86, 87, 88, 89, 90, 91, 92, 93, 94, 95, 96] (by decide +kernel) (by decide +kernel)
set_option maxRecDepth 20000 in
theorem gX8_readCommand_X8_readDrop : GoodIn wsX8_readCommand (wsV RX8 138 RX8 yX8_readDrop wsX8_readDrop) := goodIn_app (goodIn_of _ (by decide +kernel)) ggX8_readCommand_X8_readDrop
set_option maxRecDepth 20000 in
theorem ggX8_readCommand_X8_accept : GoodIn wsX8_readCommand wsX8_accept := goodIn_r _ [18, 2, 8, 84, 85, 86, 87, 88, 89, 90, 91, 92, 93, 94, 95, 96] (by decide +kernel) (by decide +kernel)
set_option maxRecDepth 20000 in
theorem gX8_readCommand_X8_accept : GoodIn wsX8_readCommand (wsV RX8 116 RX8 yX8_accept wsX8_accept) := goodIn_app (goodIn_of _ (by decide +kernel)) ggX8_readCommand_X8_accept
set_option maxRecDepth 20000 in
theorem ggX8_readCommand_X8_digit : GoodIn wsX8_readCommand wsX8_digit := goodIn_r _ [22, 8, 9, 10, 23, 2, 24, 25, 6, 26, 15, 16, 17, 18, 84, 85, 86, 87, 88, 89, 90, 91, 92, 93, 94, 95, 96] (by decide +kernel) (by decide +kernel)
set_option maxRecDepth 20000 in
theorem gX8_readCommand_X8_digit : GoodIn wsX8_readCommand (wsV RX8 120 RX8 yX8_digit wsX8_digit) := goodIn_app (goodIn_of _ (by decide +kernel)) ggX8_readCommand_X8_digit
set_option maxRecDepth 20000 in
theorem ggX8_readCommand_X8_ticksIn : GoodIn wsX8_readCommand wsX8_ticksIn := goodIn_r _ [59, 60, 61, 6, 62, 63, 64, 65, 66, 67, 68, 36, 37, 38, 69, 70, 71, 51, 52, 53, 54, 55, 56, 72, 73, 74, 75, 76, 77, 78, 79, 80, 30, 31, 32, 48, 49, 50, 81, 82, 83] (by decide +kernel) (by decide +kernel)
set_option maxRecDepth 20000 in
theorem gX8_readCommand_X8_ticksIn : GoodIn wsX8_readCommand (va_wsS RX8 141 yX8_ticksIn wsX8_ticksIn) := goodIn_app (goodIn_of _ (by decide +kernel)) ggX8_readCommand_X8_ticksIn
theorem dX8_readCommand_0 : decode cX8_readCommand 0 = .ok (.aload_n 0, 1) := by decide +kernel
theorem dX8_readCommand_1 : decode cX8_readCommand 1 = .ok (.bipush 115, 2) := by decide +kernel
theorem dX8_readCommand_3 : decode cX8_readCommand 3 = .ok (.invokevirtual 132, 3) := by decide +kernel
theorem dX8_readCommand_6 : decode cX8_readCommand 6 = .ok (.ifCond .eq 10, 3) := by decide +kernel
theorem dX8_readCommand_9 : decode cX8_readCommand 9 = .ok (.aload_n 0, 1) := by decide +kernel
theorem dX8_readCommand_10 : decode cX8_readCommand 10 = .ok (.invokevirtual 135, 3) := by decide +kernel
theorem dX8_readCommand_13 : decode cX8_readCommand 13 = .ok (.goto 57, 3) := by decide +kernel
theorem dX8_readCommand_16 : decode cX8_readCommand 16 = .ok (.aload_n 0, 1) := by decide +kernel
theorem dX8_readCommand_17 : decode cX8_readCommand 17 = .ok (.bipush 100, 2) := by decide +kernel
theorem dX8_readCommand_19 : decode cX8_readCommand 19 = .ok (.invokevirtual 132, 3) := by decide +kernel
theorem dX8_readCommand_22 : decode cX8_readCommand 22 = .ok (.ifCond .eq 10, 3) := by decide +kernel
theorem dX8_readCommand_25 : decode cX8_readCommand 25 = .ok (.aload_n 0, 1) := by decide +kernel
theorem dX8_readCommand_26 : decode cX8_readCommand 26 = .ok (.invokevirtual 138, 3) := by decide +kernel
theorem dX8_readCommand_29 : decode cX8_readCommand 29 = .ok (.goto 41, 3) := by decide +kernel
theorem dX8_readCommand_32 : decode cX8_readCommand 32 = .ok (.aload_n 0, 1) := by decide +kernel
theorem dX8_readCommand_33 : decode cX8_readCommand 33 = .ok (.aload_n 0, 1) := by decide +kernel
theorem dX8_readCommand_34 : decode cX8_readCommand 34 = .ok (.bipush 110, 2) := by decide +kernel
theorem dX8_readCommand_36 : decode cX8_readCommand 36 = .ok (.invokevirtual 132, 3) := by decide +kernel
theorem dX8_readCommand_39 : decode cX8_readCommand 39 = .ok (.invokevirtual 116, 3) := by decide +kernel
theorem dX8_readCommand_42 : decode cX8_readCommand 42 = .ok (.aload_n 0, 1) := by decide +kernel
theorem dX8_readCommand_43 : decode cX8_readCommand 43 = .ok (.iconst 1, 1) := by decide +kernel
theorem dX8_readCommand_44 : decode cX8_readCommand 44 = .ok (.bipush 9, 2) := by decide +kernel
theorem dX8_readCommand_46 : decode cX8_readCommand 46 = .ok (.invokevirtual 120, 3) := by decide +kernel
theorem dX8_readCommand_49 : decode cX8_readCommand 49 = .ok (.istore_n 1, 1) := by decide +kernel
theorem dX8_readCommand_50 : decode cX8_readCommand 50 = .ok (.aload_n 0, 1) := by decide +kernel
theorem dX8_readCommand_51 : decode cX8_readCommand 51 = .ok (.getfield 13, 3) := by decide +kernel
theorem dX8_readCommand_54 : decode cX8_readCommand 54 = .ok (.aload_n 0, 1) := by decide +kernel
theorem dX8_readCommand_55 : decode cX8_readCommand 55 = .ok (.getfield 110, 3) := by decide +kernel
theorem dX8_readCommand_58 : decode cX8_readCommand 58 = .ok (.ifCond .eq 7, 3) := by decide +kernel
theorem dX8_readCommand_61 : decode cX8_readCommand 61 = .ok (.iload_n 1, 1) := by decide +kernel
theorem dX8_readCommand_62 : decode cX8_readCommand 62 = .ok (.goto 4, 3) := by decide +kernel
theorem dX8_readCommand_65 : decode cX8_readCommand 65 = .ok (.iconst 0, 1) := by decide +kernel
theorem dX8_readCommand_66 : decode cX8_readCommand 66 = .ok (.invokestatic 141, 3) := by decide +kernel
theorem dX8_readCommand_69 : decode cX8_readCommand 69 = .ok (.pop, 1) := by decide +kernel
theorem dX8_readCommand_70 : decode cX8_readCommand 70 = .ok (.return_, 1) := by decide +kernel
set_option maxRecDepth 20000 in
theorem ggX8_readText_X8_isNext : GoodIn wsX8_readText wsX8_isNext := goodIn_r _ [10, 1, 5, 11, 91, 92, 93, 94, 95, 96, 97, 98, 99, 100, 101, 102, 103] (by decide +kernel) (by decide +kernel)
set_option maxRecDepth 20000 in
theorem gX8_readText_X8_isNext : GoodIn wsX8_readText (wsV RX8 132 RX8 yX8_isNext wsX8_isNext) := goodIn_app (goodIn_of _ (by decide +kernel)) ggX8_readText_X8_isNext
set_option maxRecDepth 20000 in
theorem ggX8_readText_X8_accept : GoodIn wsX8_readText wsX8_accept := goodIn_r _ [15, 2, 1, 91, 92, 93, 94, 95, 96, 97, 98, 99, 100, 101, 102, 103] (by decide +kernel) (by decide +kernel)
set_option maxRecDepth 20000 in
theorem gX8_readText_X8_accept : GoodIn wsX8_readText (wsV RX8 116 RX8 yX8_accept wsX8_accept) := goodIn_app (goodIn_of _ (by decide +kernel)) ggX8_readText_X8_accept
set_option maxRecDepth 20000 in
theorem ggX8_readText_X8_two : GoodIn wsX8_readText wsX8_two := goodIn_r _ [19, 20, 21, 22, 9, 23, 1, 5, 11, 24, 2, 25, 26, 27, 12, 13, 14, 15, 91, 92, 93, 94, 95, 96, 97, 98, 99, 100, 101, 102, 103] (by decide +kernel) (by decide +kernel)
set_option maxRecDepth 20000 in
theorem gX8_readText_X8_two : GoodIn wsX8_readText (wsV RX8 126 RX8 yX8_two wsX8_two) := goodIn_app (goodIn_of _ (by decide +kernel)) ggX8_readText_X8_two
set_option maxRecDepth 20000 in
theorem ggX8_readText_X8_digit : GoodIn wsX8_readText wsX8_digit := goodIn_r _ [23, 1, 5, 11, 24, 2, 25, 26, 9, 27, 12, 13, 14, 15, 91, 92, 93, 94, 95, 96, 97, 98, 99, 100, 101, 102, 103] (by decide +kernel) (by decide +kernel)
set_option maxRecDepth 20000 in
theorem gX8_readText_X8_digit : GoodIn wsX8_readText (wsV RX8 120 RX8 yX8_digit wsX8_digit) := goodIn_app (goodIn_of _ (by decide +kernel)) ggX8_readText_X8_digit
set_option maxRecDepth 20000 in
theorem ggX8_readText_X8_clean : GoodIn wsX8_readText wsX8_clean := goodIn_r _ [30] (by decide +kernel) (by decide +kernel)
set_option maxRecDepth 20000 in
theorem gX8_readText_X8_clean : GoodIn wsX8_readText (va_wsS RX8 32 yX8_clean wsX8_clean) := goodIn_app (goodIn_of _ (by decide +kernel)) ggX8_readText_X8_clean
set_option maxRecDepth 20000 in
theorem ggX8_readText_X8_readCommand : GoodIn wsX8_readText wsX8_readCommand := goodIn_r _ [34, 4, 2, 6, 7, 8, 9, 10, 1, 5, 11, 35, 36, 37, 38, 12, 13, 14, 15, 20, 21, 22, 23, 24, 25, 26, 27, 39, 40, 41, 42, 43, 44, 45, 46, 47, 48, 49, 50, 51, 52, 53, 54, 3, 16, 17, 18, 19, 55, 56, 57, 58, 59, 60, 61, 62, 63, 64, 65, 66, 67, 68, 69, 70, 71, 72, 73, 74, 75, 76, 77, 78, 79, 80, 81, 82, 83, 84, 85, 86, 87, 88, 89, 90, 91, 92, 93, 94, 95, 96, 97, 98, 99, 100, 101, 102, 103] (by decide +kernel) (by decide +kernel)
set_option maxRecDepth 20000 in
theorem gX8_readText_X8_readCommand : GoodIn wsX8_readText (wsV RX8 144 RX8 yX8_readCommand wsX8_readCommand) := goodIn_app (goodIn_of _ (by decide +kernel)) ggX8_readText_X8_readCommand
theorem dX8_readText_0 : decode cX8_readText 0 = .ok (.aload_n 0, 1) := by decide +kernel
theorem dX8_readText_1 : decode cX8_readText 1 = .ok (.iconst 0, 1) := by decide +kernel
theorem dX8_readText_2 : decode cX8_readText 2 = .ok (.putfield 107, 3) := by decide +kernel
theorem dX8_readText_5 : decode cX8_readText 5 = .ok (.aload_n 0, 1) := by decide +kernel
theorem dX8_readText_6 : decode cX8_readText 6 = .ok (.iconst 1, 1) := by decide +kernel
theorem dX8_readText_7 : decode cX8_readText 7 = .ok (.putfield 110, 3) := by decide +kernel
theorem dX8_readText_10 : decode cX8_readText 10 = .ok (.aload_n 0, 1) := by decide +kernel
theorem dX8_readText_11 : decode cX8_readText 11 = .ok (.iconst 0, 1) := by decide +kernel
theorem dX8_readText_12 : decode cX8_readText 12 = .ok (.putfield 129, 3) := by decide +kernel
theorem dX8_readText_15 : decode cX8_readText 15 = .ok (.aload_n 0, 1) := by decide +kernel
theorem dX8_readText_16 : decode cX8_readText 16 = .ok (.aload_n 0, 1) := by decide +kernel
theorem dX8_readText_17 : decode cX8_readText 17 = .ok (.bipush 67, 2) := by decide +kernel
theorem dX8_readText_19 : decode cX8_readText 19 = .ok (.invokevirtual 132, 3) := by decide +kernel
theorem dX8_readText_22 : decode cX8_readText 22 = .ok (.invokevirtual 116, 3) := by decide +kernel
theorem dX8_readText_25 : decode cX8_readText 25 = .ok (.aload_n 0, 1) := by decide +kernel
theorem dX8_readText_26 : decode cX8_readText 26 = .ok (.bipush 8, 2) := by decide +kernel
theorem dX8_readText_28 : decode cX8_readText 28 = .ok (.bipush 48, 2) := by decide +kernel
theorem dX8_readText_30 : decode cX8_readText 30 = .ok (.invokevirtual 126, 3) := by decide +kernel
theorem dX8_readText_33 : decode cX8_readText 33 = .ok (.istore_n 1, 1) := by decide +kernel
theorem dX8_readText_34 : decode cX8_readText 34 = .ok (.aload_n 0, 1) := by decide +kernel
theorem dX8_readText_35 : decode cX8_readText 35 = .ok (.iconst 0, 1) := by decide +kernel
theorem dX8_readText_36 : decode cX8_readText 36 = .ok (.bipush 8, 2) := by decide +kernel
theorem dX8_readText_38 : decode cX8_readText 38 = .ok (.invokevirtual 120, 3) := by decide +kernel
theorem dX8_readText_41 : decode cX8_readText 41 = .ok (.istore_n 2, 1) := by decide +kernel
theorem dX8_readText_42 : decode cX8_readText 42 = .ok (.aload_n 0, 1) := by decide +kernel
theorem dX8_readText_43 : decode cX8_readText 43 = .ok (.iconst 0, 1) := by decide +kernel
theorem dX8_readText_44 : decode cX8_readText 44 = .ok (.bipush 9, 2) := by decide +kernel
theorem dX8_readText_46 : decode cX8_readText 46 = .ok (.invokevirtual 120, 3) := by decide +kernel
theorem dX8_readText_49 : decode cX8_readText 49 = .ok (.istore_n 3, 1) := by decide +kernel
theorem dX8_readText_50 : decode cX8_readText 50 = .ok (.aload_n 0, 1) := by decide +kernel
theorem dX8_readText_51 : decode cX8_readText 51 = .ok (.getfield 13, 3) := by decide +kernel
theorem dX8_readText_54 : decode cX8_readText 54 = .ok (.iload_n 1, 1) := by decide +kernel
theorem dX8_readText_55 : decode cX8_readText 55 = .ok (.iload_n 2, 1) := by decide +kernel
theorem dX8_readText_56 : decode cX8_readText 56 = .ok (.iload_n 3, 1) := by decide +kernel
theorem dX8_readText_57 : decode cX8_readText 57 = .ok (.aload_n 0, 1) := by decide +kernel
theorem dX8_readText_58 : decode cX8_readText 58 = .ok (.iconst 1, 1) := by decide +kernel
theorem dX8_readText_59 : decode cX8_readText 59 = .ok (.bipush 20, 2) := by decide +kernel
theorem dX8_readText_61 : decode cX8_readText 61 = .ok (.invokevirtual 126, 3) := by decide +kernel
theorem dX8_readText_64 : decode cX8_readText 64 = .ok (.invokestatic 32, 3) := by decide +kernel
theorem dX8_readText_67 : decode cX8_readText 67 = .ok (.aload_n 0, 1) := by decide +kernel
theorem dX8_readText_68 : decode cX8_readText 68 = .ok (.getfield 110, 3) := by decide +kernel
theorem dX8_readText_71 : decode cX8_readText 71 = .ok (.ifCond .eq 21, 3) := by decide +kernel
theorem dX8_readText_74 : decode cX8_readText 74 = .ok (.aload_n 0, 1) := by decide +kernel
theorem dX8_readText_75 : decode cX8_readText 75 = .ok (.getfield 107, 3) := by decide +kernel
theorem dX8_readText_78 : decode cX8_readText 78 = .ok (.aload_n 0, 1) := by decide +kernel
theorem dX8_readText_79 : decode cX8_readText 79 = .ok (.getfield 100, 3) := by decide +kernel
theorem dX8_readText_82 : decode cX8_readText 82 = .ok (.if_icmp .ge 10, 3) := by decide +kernel
theorem dX8_readText_85 : decode cX8_readText 85 = .ok (.aload_n 0, 1) := by decide +kernel
theorem dX8_readText_86 : decode cX8_readText 86 = .ok (.invokevirtual 144, 3) := by decide +kernel
theorem dX8_readText_89 : decode cX8_readText 89 = .ok (.goto (-22), 3) := by decide +kernel
theorem dX8_readText_92 : decode cX8_readText 92 = .ok (.aload_n 0, 1) := by decide +kernel
theorem dX8_readText_93 : decode cX8_readText 93 = .ok (.getfield 110, 3) := by decide +kernel
theorem dX8_readText_96 : decode cX8_readText 96 = .ok (.ifCond .eq 7, 3) := by decide +kernel
theorem dX8_readText_99 : decode cX8_readText 99 = .ok (.iconst (-1), 1) := by decide +kernel
theorem dX8_readText_100 : decode cX8_readText 100 = .ok (.goto 7, 3) := by decide +kernel
theorem dX8_readText_103 : decode cX8_readText 103 = .ok (.aload_n 0, 1) := by decide +kernel
theorem dX8_readText_104 : decode cX8_readText 104 = .ok (.getfield 107, 3) := by decide +kernel
theorem dX8_readText_107 : decode cX8_readText 107 = .ok (.ireturn, 1) := by decide +kernel
set_option maxRecDepth 20000 in
theorem ggX8_errorPosition_X8_readText : GoodIn wsX8_errorPosition wsX8_readText := goodIn_r _ [6, 7, 8, 9, 10, 11, 12, 13, 14, 5, 15, 16, 17, 18, 19, 20, 21, 22, 23, 24, 25, 26, 27, 28, 29, 30, 31, 32, 33, 34, 35, 36, 37, 38, 39, 40, 41, 42, 43, 44, 45, 46, 47, 48, 49, 50, 51, 52, 53, 54, 55, 56, 57, 58, 59, 60, 61, 62, 63, 64, 65, 66, 67, 68, 69, 70, 71, 72, 73, 74, 75, 76, 77, 78, 79, 80, 81, 82, 83, 84, 85, 86, 87, 88, 89, 90, 91, 92, 93, 94, 95, 96, 97, 98, 99, 100, 101, 102, 103, 104, 105, 106, 107, 108] (by decide +kernel) (by decide +kernel)
set_option maxRecDepth 20000 in
theorem gX8_errorPosition_X8_readText : GoodIn wsX8_errorPosition (wsV RX8 147 RX8 yX8_readText wsX8_readText) := goodIn_app (goodIn_of _ (by decide +kernel)) ggX8_errorPosition_X8_readText
theorem dX8_errorPosition_0 : decode cX8_errorPosition 0 = .ok (.aload_n 0, 1) := by decide +kernel
theorem dX8_errorPosition_1 : decode cX8_errorPosition 1 = .ok (.iconst 0, 1) := by decide +kernel
theorem dX8_errorPosition_2 : decode cX8_errorPosition 2 = .ok (.putfield 36, 3) := by decide +kernel
theorem dX8_errorPosition_5 : decode cX8_errorPosition 5 = .ok (.aload_n 0, 1) := by decide +kernel
theorem dX8_errorPosition_6 : decode cX8_errorPosition 6 = .ok (.invokevirtual 147, 3) := by decide +kernel
theorem dX8_errorPosition_9 : decode cX8_errorPosition 9 = .ok (.ireturn, 1) := by decide +kernel
set_option maxRecDepth 20000 in
theorem ggX8_load_X8_readText : GoodIn wsX8_load wsX8_readText := goodIn_r _ [10, 11, 12, 5, 1, 13, 14, 15, 16, 9, 17, 18, 19, 20, 21, 22, 23, 24, 25, 26, 27, 28, 29, 30, 31, 32, 33, 34, 35, 36, 37, 38, 39, 40, 41, 42, 43, 44, 45, 46, 47, 48, 49, 50, 51, 52, 53, 54, 55, 56, 57, 58, 59, 60, 61, 62, 63, 64, 65, 66, 67, 68, 69, 70, 71, 72, 73, 74, 75, 76, 77, 78, 79, 80, 81, 82, 83, 84, 85, 86, 87, 88, 89, 90, 91, 92, 93, 94, 95, 96, 97, 103, 104, 105, 106, 107, 108, 109, 110, 111, 112, 113, 114, 115] (by decide +kernel) (by decide +kernel)
set_option maxRecDepth 20000 in
theorem gX8_load_X8_readText : GoodIn wsX8_load (wsV RX8 147 RX8 yX8_readText wsX8_readText) := goodIn_app (goodIn_of _ (by decide +kernel)) ggX8_load_X8_readText
set_option maxRecDepth 20000 in
theorem ggX8_load_X8_refused : GoodIn wsX8_load wsX8_refused := goodIn_r _ [101, 102, 103, 104, 105, 106, 107, 108, 109, 110, 111, 112, 113, 114, 115] (by decide +kernel) (by decide +kernel)
set_option maxRecDepth 20000 in
theorem gX8_load_X8_refused : GoodIn wsX8_load (wsV RX8 103 RX8 yX8_refused wsX8_refused) := goodIn_app (goodIn_of _ (by decide +kernel)) ggX8_load_X8_refused
set_option maxRecDepth 20000 in
theorem ggX8_load_X8_copy : GoodIn wsX8_load wsX8_copy := goodIn_r _ [70] (by decide +kernel) (by decide +kernel)
set_option maxRecDepth 20000 in
theorem gX8_load_X8_copy : GoodIn wsX8_load (va_wsS RX8 45 yX8_copy wsX8_copy) := goodIn_app (goodIn_of _ (by decide +kernel)) ggX8_load_X8_copy
theorem dX8_load_0 : decode cX8_load 0 = .ok (.aload_n 0, 1) := by decide +kernel
theorem dX8_load_1 : decode cX8_load 1 = .ok (.aload_n 0, 1) := by decide +kernel
theorem dX8_load_2 : decode cX8_load 2 = .ok (.invokevirtual 147, 3) := by decide +kernel
theorem dX8_load_5 : decode cX8_load 5 = .ok (.iconst (-1), 1) := by decide +kernel
theorem dX8_load_6 : decode cX8_load 6 = .ok (.if_icmp .ne 7, 3) := by decide +kernel
theorem dX8_load_9 : decode cX8_load 9 = .ok (.iconst 0, 1) := by decide +kernel
theorem dX8_load_10 : decode cX8_load 10 = .ok (.goto 4, 3) := by decide +kernel
theorem dX8_load_13 : decode cX8_load 13 = .ok (.iconst 1, 1) := by decide +kernel
theorem dX8_load_14 : decode cX8_load 14 = .ok (.invokevirtual 103, 3) := by decide +kernel
theorem dX8_load_17 : decode cX8_load 17 = .ok (.ifCond .eq 5, 3) := by decide +kernel
theorem dX8_load_20 : decode cX8_load 20 = .ok (.iconst 0, 1) := by decide +kernel
theorem dX8_load_21 : decode cX8_load 21 = .ok (.ireturn, 1) := by decide +kernel
theorem dX8_load_22 : decode cX8_load 22 = .ok (.aload_n 0, 1) := by decide +kernel
theorem dX8_load_23 : decode cX8_load 23 = .ok (.getfield 13, 3) := by decide +kernel
theorem dX8_load_26 : decode cX8_load 26 = .ok (.iconst 0, 1) := by decide +kernel
theorem dX8_load_27 : decode cX8_load 27 = .ok (.aload_n 0, 1) := by decide +kernel
theorem dX8_load_28 : decode cX8_load 28 = .ok (.getfield 16, 3) := by decide +kernel
theorem dX8_load_31 : decode cX8_load 31 = .ok (.iconst 0, 1) := by decide +kernel
theorem dX8_load_32 : decode cX8_load 32 = .ok (.sipush 357, 3) := by decide +kernel
theorem dX8_load_35 : decode cX8_load 35 = .ok (.invokestatic 45, 3) := by decide +kernel
theorem dX8_load_38 : decode cX8_load 38 = .ok (.aload_n 0, 1) := by decide +kernel
theorem dX8_load_39 : decode cX8_load 39 = .ok (.iconst 0, 1) := by decide +kernel
theorem dX8_load_40 : decode cX8_load 40 = .ok (.putfield 42, 3) := by decide +kernel
theorem dX8_load_43 : decode cX8_load 43 = .ok (.aload_n 0, 1) := by decide +kernel
theorem dX8_load_44 : decode cX8_load 44 = .ok (.getfield 28, 3) := by decide +kernel
theorem dX8_load_47 : decode cX8_load 47 = .ok (.iconst 0, 1) := by decide +kernel
theorem dX8_load_48 : decode cX8_load 48 = .ok (.iconst 0, 1) := by decide +kernel
theorem dX8_load_49 : decode cX8_load 49 = .ok (.bastore, 1) := by decide +kernel
theorem dX8_load_50 : decode cX8_load 50 = .ok (.aload_n 0, 1) := by decide +kernel
theorem dX8_load_51 : decode cX8_load 51 = .ok (.getfield 28, 3) := by decide +kernel
theorem dX8_load_54 : decode cX8_load 54 = .ok (.iconst 1, 1) := by decide +kernel
theorem dX8_load_55 : decode cX8_load 55 = .ok (.iconst 0, 1) := by decide +kernel
theorem dX8_load_56 : decode cX8_load 56 = .ok (.bastore, 1) := by decide +kernel
theorem dX8_load_57 : decode cX8_load 57 = .ok (.aload_n 0, 1) := by decide +kernel
theorem dX8_load_58 : decode cX8_load 58 = .ok (.getfield 129, 3) := by decide +kernel
theorem dX8_load_61 : decode cX8_load 61 = .ok (.ireturn, 1) := by decide +kernel
set_option maxRecDepth 20000 in
theorem ggX8_about_X8_in : GoodIn wsX8_about wsX8_in := goodIn_r _ [6] (by decide +kernel) (by decide +kernel)
set_option maxRecDepth 20000 in
theorem gX8_about_X8_in : GoodIn wsX8_about (va_wsS RX8 96 yX8_in wsX8_in) := goodIn_app (goodIn_of _ (by decide +kernel)) ggX8_about_X8_in
set_option maxRecDepth 20000 in
theorem ggX8_about_X8_refused : GoodIn wsX8_about wsX8_refused := goodIn_r _ [10, 11, 15, 16, 17, 18, 19, 20, 21, 22, 23, 24, 25, 26, 27] (by decide +kernel) (by decide +kernel)
set_option maxRecDepth 20000 in
theorem gX8_about_X8_refused : GoodIn wsX8_about (wsV RX8 103 RX8 yX8_refused wsX8_refused) := goodIn_app (goodIn_of _ (by decide +kernel)) ggX8_about_X8_refused
set_option maxRecDepth 20000 in
theorem ggX8_about_X8_count : GoodIn wsX8_about wsX8_count := goodIn_r _ [14] (by decide +kernel) (by decide +kernel)
set_option maxRecDepth 20000 in
theorem gX8_about_X8_count : GoodIn wsX8_about (va_wsS RX8 67 yX8_count wsX8_count) := goodIn_app (goodIn_of _ (by decide +kernel)) ggX8_about_X8_count
theorem dX8_about_0 : decode cX8_about 0 = .ok (.aload_n 0, 1) := by decide +kernel
theorem dX8_about_1 : decode cX8_about 1 = .ok (.iload_n 1, 1) := by decide +kernel
theorem dX8_about_2 : decode cX8_about 2 = .ok (.i2l, 1) := by decide +kernel
theorem dX8_about_3 : decode cX8_about 3 = .ok (.lconst 0, 1) := by decide +kernel
theorem dX8_about_4 : decode cX8_about 4 = .ok (.ldc2_w 151, 3) := by decide +kernel
theorem dX8_about_7 : decode cX8_about 7 = .ok (.invokestatic 96, 3) := by decide +kernel
theorem dX8_about_10 : decode cX8_about 10 = .ok (.ifCond .eq 7, 3) := by decide +kernel
theorem dX8_about_13 : decode cX8_about 13 = .ok (.iconst 0, 1) := by decide +kernel
theorem dX8_about_14 : decode cX8_about 14 = .ok (.goto 4, 3) := by decide +kernel
theorem dX8_about_17 : decode cX8_about 17 = .ok (.iconst 1, 1) := by decide +kernel
theorem dX8_about_18 : decode cX8_about 18 = .ok (.invokevirtual 103, 3) := by decide +kernel
theorem dX8_about_21 : decode cX8_about 21 = .ok (.ifCond .eq 5, 3) := by decide +kernel
theorem dX8_about_24 : decode cX8_about 24 = .ok (.iconst 0, 1) := by decide +kernel
theorem dX8_about_25 : decode cX8_about 25 = .ok (.ireturn, 1) := by decide +kernel
theorem dX8_about_26 : decode cX8_about 26 = .ok (.iload_n 1, 1) := by decide +kernel
theorem dX8_about_27 : decode cX8_about 27 = .ok (.tableswitch 143 0 13 #[127, 127, 69, 77, 143, 143, 143, 85, 94, 136, 136, 104, 111, 119], 69) := by decide +kernel
theorem dX8_about_96 : decode cX8_about 96 = .ok (.aload_n 0, 1) := by decide +kernel
theorem dX8_about_97 : decode cX8_about 97 = .ok (.getfield 16, 3) := by decide +kernel
theorem dX8_about_100 : decode cX8_about 100 = .ok (.bipush 16, 2) := by decide +kernel
theorem dX8_about_102 : decode cX8_about 102 = .ok (.iaload, 1) := by decide +kernel
theorem dX8_about_103 : decode cX8_about 103 = .ok (.ireturn, 1) := by decide +kernel
theorem dX8_about_104 : decode cX8_about 104 = .ok (.aload_n 0, 1) := by decide +kernel
theorem dX8_about_105 : decode cX8_about 105 = .ok (.getfield 16, 3) := by decide +kernel
theorem dX8_about_108 : decode cX8_about 108 = .ok (.bipush 17, 2) := by decide +kernel
theorem dX8_about_110 : decode cX8_about 110 = .ok (.iaload, 1) := by decide +kernel
theorem dX8_about_111 : decode cX8_about 111 = .ok (.ireturn, 1) := by decide +kernel
theorem dX8_about_112 : decode cX8_about 112 = .ok (.aload_n 0, 1) := by decide +kernel
theorem dX8_about_113 : decode cX8_about 113 = .ok (.getfield 16, 3) := by decide +kernel
theorem dX8_about_116 : decode cX8_about 116 = .ok (.iconst (-1), 1) := by decide +kernel
theorem dX8_about_117 : decode cX8_about 117 = .ok (.invokestatic 67, 3) := by decide +kernel
theorem dX8_about_120 : decode cX8_about 120 = .ok (.ireturn, 1) := by decide +kernel
theorem dX8_about_121 : decode cX8_about 121 = .ok (.aload_n 0, 1) := by decide +kernel
theorem dX8_about_122 : decode cX8_about 122 = .ok (.getfield 16, 3) := by decide +kernel
theorem dX8_about_125 : decode cX8_about 125 = .ok (.bipush (-2), 2) := by decide +kernel
theorem dX8_about_127 : decode cX8_about 127 = .ok (.invokestatic 67, 3) := by decide +kernel
theorem dX8_about_130 : decode cX8_about 130 = .ok (.ireturn, 1) := by decide +kernel
theorem dX8_about_131 : decode cX8_about 131 = .ok (.aload_n 0, 1) := by decide +kernel
theorem dX8_about_132 : decode cX8_about 132 = .ok (.getfield 16, 3) := by decide +kernel
theorem dX8_about_135 : decode cX8_about 135 = .ok (.iconst 3, 1) := by decide +kernel
theorem dX8_about_136 : decode cX8_about 136 = .ok (.iaload, 1) := by decide +kernel
theorem dX8_about_137 : decode cX8_about 137 = .ok (.ireturn, 1) := by decide +kernel
theorem dX8_about_138 : decode cX8_about 138 = .ok (.aload_n 0, 1) := by decide +kernel
theorem dX8_about_139 : decode cX8_about 139 = .ok (.getfield 16, 3) := by decide +kernel
theorem dX8_about_142 : decode cX8_about 142 = .ok (.bipush 11, 2) := by decide +kernel
theorem dX8_about_144 : decode cX8_about 144 = .ok (.iaload, 1) := by decide +kernel
theorem dX8_about_145 : decode cX8_about 145 = .ok (.ireturn, 1) := by decide +kernel
theorem dX8_about_146 : decode cX8_about 146 = .ok (.aload_n 0, 1) := by decide +kernel
theorem dX8_about_147 : decode cX8_about 147 = .ok (.getfield 16, 3) := by decide +kernel
theorem dX8_about_150 : decode cX8_about 150 = .ok (.bipush 12, 2) := by decide +kernel
theorem dX8_about_152 : decode cX8_about 152 = .ok (.iaload, 1) := by decide +kernel
theorem dX8_about_153 : decode cX8_about 153 = .ok (.ireturn, 1) := by decide +kernel
theorem dX8_about_154 : decode cX8_about 154 = .ok (.aload_n 0, 1) := by decide +kernel
theorem dX8_about_155 : decode cX8_about 155 = .ok (.getfield 16, 3) := by decide +kernel
theorem dX8_about_158 : decode cX8_about 158 = .ok (.iconst 4, 1) := by decide +kernel
theorem dX8_about_159 : decode cX8_about 159 = .ok (.iload_n 1, 1) := by decide +kernel
theorem dX8_about_160 : decode cX8_about 160 = .ok (.iadd, 1) := by decide +kernel
theorem dX8_about_161 : decode cX8_about 161 = .ok (.iaload, 1) := by decide +kernel
theorem dX8_about_162 : decode cX8_about 162 = .ok (.ireturn, 1) := by decide +kernel
theorem dX8_about_163 : decode cX8_about 163 = .ok (.aload_n 0, 1) := by decide +kernel
theorem dX8_about_164 : decode cX8_about 164 = .ok (.getfield 16, 3) := by decide +kernel
theorem dX8_about_167 : decode cX8_about 167 = .ok (.iload_n 1, 1) := by decide +kernel
theorem dX8_about_168 : decode cX8_about 168 = .ok (.iaload, 1) := by decide +kernel
theorem dX8_about_169 : decode cX8_about 169 = .ok (.ireturn, 1) := by decide +kernel
theorem dX8_about_170 : decode cX8_about 170 = .ok (.aload_n 0, 1) := by decide +kernel
theorem dX8_about_171 : decode cX8_about 171 = .ok (.getfield 16, 3) := by decide +kernel
theorem dX8_about_174 : decode cX8_about 174 = .ok (.iload_n 1, 1) := by decide +kernel
theorem dX8_about_175 : decode cX8_about 175 = .ok (.iconst 2, 1) := by decide +kernel
theorem dX8_about_176 : decode cX8_about 176 = .ok (.iadd, 1) := by decide +kernel
theorem dX8_about_177 : decode cX8_about 177 = .ok (.iaload, 1) := by decide +kernel
theorem dX8_about_178 : decode cX8_about 178 = .ok (.ireturn, 1) := by decide +kernel
set_option maxRecDepth 20000 in
theorem ggX8_isFrame_X8_in : GoodIn wsX8_isFrame wsX8_in := goodIn_r _ [5] (by decide +kernel) (by decide +kernel)
set_option maxRecDepth 20000 in
theorem gX8_isFrame_X8_in : GoodIn wsX8_isFrame (va_wsS RX8 96 yX8_in wsX8_in) := goodIn_app (goodIn_of _ (by decide +kernel)) ggX8_isFrame_X8_in
theorem dX8_isFrame_0 : decode cX8_isFrame 0 = .ok (.iload_n 1, 1) := by decide +kernel
theorem dX8_isFrame_1 : decode cX8_isFrame 1 = .ok (.i2l, 1) := by decide +kernel
theorem dX8_isFrame_2 : decode cX8_isFrame 2 = .ok (.lconst 0, 1) := by decide +kernel
theorem dX8_isFrame_3 : decode cX8_isFrame 3 = .ok (.aload_n 0, 1) := by decide +kernel
theorem dX8_isFrame_4 : decode cX8_isFrame 4 = .ok (.getfield 16, 3) := by decide +kernel
theorem dX8_isFrame_7 : decode cX8_isFrame 7 = .ok (.bipush 16, 2) := by decide +kernel
theorem dX8_isFrame_9 : decode cX8_isFrame 9 = .ok (.iaload, 1) := by decide +kernel
theorem dX8_isFrame_10 : decode cX8_isFrame 10 = .ok (.iconst 1, 1) := by decide +kernel
theorem dX8_isFrame_11 : decode cX8_isFrame 11 = .ok (.isub, 1) := by decide +kernel
theorem dX8_isFrame_12 : decode cX8_isFrame 12 = .ok (.i2l, 1) := by decide +kernel
theorem dX8_isFrame_13 : decode cX8_isFrame 13 = .ok (.invokestatic 96, 3) := by decide +kernel
theorem dX8_isFrame_16 : decode cX8_isFrame 16 = .ok (.ireturn, 1) := by decide +kernel
theorem dX8_lowest_0 : decode cX8_lowest 0 = .ok (.iconst (-1), 1) := by decide +kernel
theorem dX8_lowest_1 : decode cX8_lowest 1 = .ok (.istore_n 2, 1) := by decide +kernel
theorem dX8_lowest_2 : decode cX8_lowest 2 = .ok (.aload_n 0, 1) := by decide +kernel
theorem dX8_lowest_3 : decode cX8_lowest 3 = .ok (.getfield 16, 3) := by decide +kernel
theorem dX8_lowest_6 : decode cX8_lowest 6 = .ok (.iconst 3, 1) := by decide +kernel
theorem dX8_lowest_7 : decode cX8_lowest 7 = .ok (.iaload, 1) := by decide +kernel
theorem dX8_lowest_8 : decode cX8_lowest 8 = .ok (.iconst 1, 1) := by decide +kernel
theorem dX8_lowest_9 : decode cX8_lowest 9 = .ok (.isub, 1) := by decide +kernel
theorem dX8_lowest_10 : decode cX8_lowest 10 = .ok (.istore_n 3, 1) := by decide +kernel
theorem dX8_lowest_11 : decode cX8_lowest 11 = .ok (.iload_n 3, 1) := by decide +kernel
theorem dX8_lowest_12 : decode cX8_lowest 12 = .ok (.ifCond .lt 28, 3) := by decide +kernel
theorem dX8_lowest_15 : decode cX8_lowest 15 = .ok (.aload_n 0, 1) := by decide +kernel
theorem dX8_lowest_16 : decode cX8_lowest 16 = .ok (.getfield 16, 3) := by decide +kernel
theorem dX8_lowest_19 : decode cX8_lowest 19 = .ok (.bipush 19, 2) := by decide +kernel
theorem dX8_lowest_21 : decode cX8_lowest 21 = .ok (.iload_n 3, 1) := by decide +kernel
theorem dX8_lowest_22 : decode cX8_lowest 22 = .ok (.iadd, 1) := by decide +kernel
theorem dX8_lowest_23 : decode cX8_lowest 23 = .ok (.iaload, 1) := by decide +kernel
theorem dX8_lowest_24 : decode cX8_lowest 24 = .ok (.iload_n 1, 1) := by decide +kernel
theorem dX8_lowest_25 : decode cX8_lowest 25 = .ok (.if_icmp .ne 7, 3) := by decide +kernel
theorem dX8_lowest_28 : decode cX8_lowest 28 = .ok (.iload_n 3, 1) := by decide +kernel
theorem dX8_lowest_29 : decode cX8_lowest 29 = .ok (.goto 4, 3) := by decide +kernel
theorem dX8_lowest_32 : decode cX8_lowest 32 = .ok (.iload_n 2, 1) := by decide +kernel
theorem dX8_lowest_33 : decode cX8_lowest 33 = .ok (.istore_n 2, 1) := by decide +kernel
theorem dX8_lowest_34 : decode cX8_lowest 34 = .ok (.iinc 3 (-1), 3) := by decide +kernel
theorem dX8_lowest_37 : decode cX8_lowest 37 = .ok (.goto (-26), 3) := by decide +kernel
theorem dX8_lowest_40 : decode cX8_lowest 40 = .ok (.iload_n 2, 1) := by decide +kernel
theorem dX8_lowest_41 : decode cX8_lowest 41 = .ok (.ireturn, 1) := by decide +kernel
set_option maxRecDepth 20000 in
theorem ggX8_frame_X8_isFrame : GoodIn wsX8_frame wsX8_isFrame := goodIn_r _ [7, 2, 8, 9, 6, 10, 29, 30, 31, 32, 33, 34, 35, 36, 37, 38, 39, 40, 41] (by decide +kernel) (by decide +kernel)
set_option maxRecDepth 20000 in
theorem gX8_frame_X8_isFrame : GoodIn wsX8_frame (wsV RX8 153 RX8 yX8_isFrame wsX8_isFrame) := goodIn_app (goodIn_of _ (by decide +kernel)) ggX8_frame_X8_isFrame
set_option maxRecDepth 20000 in
theorem ggX8_frame_X8_in : GoodIn wsX8_frame wsX8_in := goodIn_r _ [10] (by decide +kernel) (by decide +kernel)
set_option maxRecDepth 20000 in
theorem gX8_frame_X8_in : GoodIn wsX8_frame (va_wsS RX8 96 yX8_in wsX8_in) := goodIn_app (goodIn_of _ (by decide +kernel)) ggX8_frame_X8_in
set_option maxRecDepth 20000 in
theorem ggX8_frame_X8_refused : GoodIn wsX8_frame wsX8_refused := goodIn_r _ [14, 15, 29, 30, 31, 32, 33, 34, 35, 36, 37, 38, 39, 40, 41] (by decide +kernel) (by decide +kernel)
set_option maxRecDepth 20000 in
theorem gX8_frame_X8_refused : GoodIn wsX8_frame (wsV RX8 103 RX8 yX8_refused wsX8_refused) := goodIn_app (goodIn_of _ (by decide +kernel)) ggX8_frame_X8_refused
set_option maxRecDepth 20000 in
theorem ggX8_frame_X8_changeOf : GoodIn wsX8_frame wsX8_changeOf := goodIn_r _ [18, 19, 20, 6, 21, 22, 23, 24] (by decide +kernel) (by decide +kernel)
set_option maxRecDepth 20000 in
theorem gX8_frame_X8_changeOf : GoodIn wsX8_frame (va_wsS RX8 63 yX8_changeOf wsX8_changeOf) := goodIn_app (goodIn_of _ (by decide +kernel)) ggX8_frame_X8_changeOf
set_option maxRecDepth 20000 in
theorem ggX8_frame_X8_keptAt : GoodIn wsX8_frame wsX8_keptAt := goodIn_r _ [21] (by decide +kernel) (by decide +kernel)
set_option maxRecDepth 20000 in
theorem gX8_frame_X8_keptAt : GoodIn wsX8_frame (va_wsS RX8 49 yX8_keptAt wsX8_keptAt) := goodIn_app (goodIn_of _ (by decide +kernel)) ggX8_frame_X8_keptAt
set_option maxRecDepth 20000 in
theorem ggX8_frame_X8_lowest : GoodIn wsX8_frame wsX8_lowest := goodIn_r _ [28, 2, 29, 30, 31, 32, 33, 34, 35, 36, 37, 38, 39, 40, 41] (by decide +kernel) (by decide +kernel)
set_option maxRecDepth 20000 in
theorem gX8_frame_X8_lowest : GoodIn wsX8_frame (wsV RX8 158 RX8 yX8_lowest wsX8_lowest) := goodIn_app (goodIn_of _ (by decide +kernel)) ggX8_frame_X8_lowest
theorem dX8_frame_0 : decode cX8_frame 0 = .ok (.aload_n 0, 1) := by decide +kernel
theorem dX8_frame_1 : decode cX8_frame 1 = .ok (.aload_n 0, 1) := by decide +kernel
theorem dX8_frame_2 : decode cX8_frame 2 = .ok (.iload_n 1, 1) := by decide +kernel
theorem dX8_frame_3 : decode cX8_frame 3 = .ok (.invokevirtual 153, 3) := by decide +kernel
theorem dX8_frame_6 : decode cX8_frame 6 = .ok (.ifCond .ne 7, 3) := by decide +kernel
theorem dX8_frame_9 : decode cX8_frame 9 = .ok (.iconst 1, 1) := by decide +kernel
theorem dX8_frame_10 : decode cX8_frame 10 = .ok (.goto 20, 3) := by decide +kernel
theorem dX8_frame_13 : decode cX8_frame 13 = .ok (.iload_n 2, 1) := by decide +kernel
theorem dX8_frame_14 : decode cX8_frame 14 = .ok (.i2l, 1) := by decide +kernel
theorem dX8_frame_15 : decode cX8_frame 15 = .ok (.lconst 0, 1) := by decide +kernel
theorem dX8_frame_16 : decode cX8_frame 16 = .ok (.ldc2_w 156, 3) := by decide +kernel
theorem dX8_frame_19 : decode cX8_frame 19 = .ok (.invokestatic 96, 3) := by decide +kernel
theorem dX8_frame_22 : decode cX8_frame 22 = .ok (.ifCond .eq 7, 3) := by decide +kernel
theorem dX8_frame_25 : decode cX8_frame 25 = .ok (.iconst 0, 1) := by decide +kernel
theorem dX8_frame_26 : decode cX8_frame 26 = .ok (.goto 4, 3) := by decide +kernel
theorem dX8_frame_29 : decode cX8_frame 29 = .ok (.iconst 2, 1) := by decide +kernel
theorem dX8_frame_30 : decode cX8_frame 30 = .ok (.invokevirtual 103, 3) := by decide +kernel
theorem dX8_frame_33 : decode cX8_frame 33 = .ok (.ifCond .eq 5, 3) := by decide +kernel
theorem dX8_frame_36 : decode cX8_frame 36 = .ok (.iconst 0, 1) := by decide +kernel
theorem dX8_frame_37 : decode cX8_frame 37 = .ok (.ireturn, 1) := by decide +kernel
theorem dX8_frame_38 : decode cX8_frame 38 = .ok (.iload_n 2, 1) := by decide +kernel
theorem dX8_frame_39 : decode cX8_frame 39 = .ok (.tableswitch 66 3 6 #[29, 38, 38, 51], 29) := by decide +kernel
theorem dX8_frame_68 : decode cX8_frame 68 = .ok (.aload_n 0, 1) := by decide +kernel
theorem dX8_frame_69 : decode cX8_frame 69 = .ok (.getfield 16, 3) := by decide +kernel
theorem dX8_frame_72 : decode cX8_frame 72 = .ok (.iload_n 1, 1) := by decide +kernel
theorem dX8_frame_73 : decode cX8_frame 73 = .ok (.invokestatic 63, 3) := by decide +kernel
theorem dX8_frame_76 : decode cX8_frame 76 = .ok (.ireturn, 1) := by decide +kernel
theorem dX8_frame_77 : decode cX8_frame 77 = .ok (.aload_n 0, 1) := by decide +kernel
theorem dX8_frame_78 : decode cX8_frame 78 = .ok (.getfield 16, 3) := by decide +kernel
theorem dX8_frame_81 : decode cX8_frame 81 = .ok (.iload_n 1, 1) := by decide +kernel
theorem dX8_frame_82 : decode cX8_frame 82 = .ok (.iload_n 2, 1) := by decide +kernel
theorem dX8_frame_83 : decode cX8_frame 83 = .ok (.iconst 1, 1) := by decide +kernel
theorem dX8_frame_84 : decode cX8_frame 84 = .ok (.isub, 1) := by decide +kernel
theorem dX8_frame_85 : decode cX8_frame 85 = .ok (.invokestatic 49, 3) := by decide +kernel
theorem dX8_frame_88 : decode cX8_frame 88 = .ok (.iaload, 1) := by decide +kernel
theorem dX8_frame_89 : decode cX8_frame 89 = .ok (.ireturn, 1) := by decide +kernel
theorem dX8_frame_90 : decode cX8_frame 90 = .ok (.aload_n 0, 1) := by decide +kernel
theorem dX8_frame_91 : decode cX8_frame 91 = .ok (.aload_n 0, 1) := by decide +kernel
theorem dX8_frame_92 : decode cX8_frame 92 = .ok (.getfield 16, 3) := by decide +kernel
theorem dX8_frame_95 : decode cX8_frame 95 = .ok (.iload_n 1, 1) := by decide +kernel
theorem dX8_frame_96 : decode cX8_frame 96 = .ok (.iconst 0, 1) := by decide +kernel
theorem dX8_frame_97 : decode cX8_frame 97 = .ok (.invokestatic 49, 3) := by decide +kernel
theorem dX8_frame_100 : decode cX8_frame 100 = .ok (.iaload, 1) := by decide +kernel
theorem dX8_frame_101 : decode cX8_frame 101 = .ok (.invokevirtual 158, 3) := by decide +kernel
theorem dX8_frame_104 : decode cX8_frame 104 = .ok (.ireturn, 1) := by decide +kernel
theorem dX8_frame_105 : decode cX8_frame 105 = .ok (.aload_n 0, 1) := by decide +kernel
theorem dX8_frame_106 : decode cX8_frame 106 = .ok (.getfield 16, 3) := by decide +kernel
theorem dX8_frame_109 : decode cX8_frame 109 = .ok (.iload_n 1, 1) := by decide +kernel
theorem dX8_frame_110 : decode cX8_frame 110 = .ok (.iload_n 2, 1) := by decide +kernel
theorem dX8_frame_111 : decode cX8_frame 111 = .ok (.invokestatic 49, 3) := by decide +kernel
theorem dX8_frame_114 : decode cX8_frame 114 = .ok (.iaload, 1) := by decide +kernel
theorem dX8_frame_115 : decode cX8_frame 115 = .ok (.ireturn, 1) := by decide +kernel
set_option maxRecDepth 20000 in
theorem ggX8_isWaiting_X8_in : GoodIn wsX8_isWaiting wsX8_in := goodIn_r _ [5] (by decide +kernel) (by decide +kernel)
set_option maxRecDepth 20000 in
theorem gX8_isWaiting_X8_in : GoodIn wsX8_isWaiting (va_wsS RX8 96 yX8_in wsX8_in) := goodIn_app (goodIn_of _ (by decide +kernel)) ggX8_isWaiting_X8_in
theorem dX8_isWaiting_0 : decode cX8_isWaiting 0 = .ok (.iload_n 1, 1) := by decide +kernel
theorem dX8_isWaiting_1 : decode cX8_isWaiting 1 = .ok (.i2l, 1) := by decide +kernel
theorem dX8_isWaiting_2 : decode cX8_isWaiting 2 = .ok (.lconst 0, 1) := by decide +kernel
theorem dX8_isWaiting_3 : decode cX8_isWaiting 3 = .ok (.aload_n 0, 1) := by decide +kernel
theorem dX8_isWaiting_4 : decode cX8_isWaiting 4 = .ok (.getfield 16, 3) := by decide +kernel
theorem dX8_isWaiting_7 : decode cX8_isWaiting 7 = .ok (.bipush 17, 2) := by decide +kernel
theorem dX8_isWaiting_9 : decode cX8_isWaiting 9 = .ok (.iaload, 1) := by decide +kernel
theorem dX8_isWaiting_10 : decode cX8_isWaiting 10 = .ok (.iconst 1, 1) := by decide +kernel
theorem dX8_isWaiting_11 : decode cX8_isWaiting 11 = .ok (.isub, 1) := by decide +kernel
theorem dX8_isWaiting_12 : decode cX8_isWaiting 12 = .ok (.i2l, 1) := by decide +kernel
theorem dX8_isWaiting_13 : decode cX8_isWaiting 13 = .ok (.invokestatic 96, 3) := by decide +kernel
theorem dX8_isWaiting_16 : decode cX8_isWaiting 16 = .ok (.ireturn, 1) := by decide +kernel
set_option maxRecDepth 20000 in
theorem ggX8_waiting_X8_isWaiting : GoodIn wsX8_waiting wsX8_isWaiting := goodIn_r _ [7, 2, 8, 9, 6, 10, 19, 20, 21, 22, 23, 24, 25, 26, 27, 28, 29, 30, 31] (by decide +kernel) (by decide +kernel)
set_option maxRecDepth 20000 in
theorem gX8_waiting_X8_isWaiting : GoodIn wsX8_waiting (wsV RX8 161 RX8 yX8_isWaiting wsX8_isWaiting) := goodIn_app (goodIn_of _ (by decide +kernel)) ggX8_waiting_X8_isWaiting
set_option maxRecDepth 20000 in
theorem ggX8_waiting_X8_in : GoodIn wsX8_waiting wsX8_in := goodIn_r _ [10] (by decide +kernel) (by decide +kernel)
set_option maxRecDepth 20000 in
theorem gX8_waiting_X8_in : GoodIn wsX8_waiting (va_wsS RX8 96 yX8_in wsX8_in) := goodIn_app (goodIn_of _ (by decide +kernel)) ggX8_waiting_X8_in
set_option maxRecDepth 20000 in
theorem ggX8_waiting_X8_refused : GoodIn wsX8_waiting wsX8_refused := goodIn_r _ [14, 15, 19, 20, 21, 22, 23, 24, 25, 26, 27, 28, 29, 30, 31] (by decide +kernel) (by decide +kernel)
set_option maxRecDepth 20000 in
theorem gX8_waiting_X8_refused : GoodIn wsX8_waiting (wsV RX8 103 RX8 yX8_refused wsX8_refused) := goodIn_app (goodIn_of _ (by decide +kernel)) ggX8_waiting_X8_refused
set_option maxRecDepth 20000 in
theorem ggX8_waiting_X8_waitAt : GoodIn wsX8_waiting wsX8_waitAt := goodIn_r _ [18] (by decide +kernel) (by decide +kernel)
set_option maxRecDepth 20000 in
theorem gX8_waiting_X8_waitAt : GoodIn wsX8_waiting (va_wsS RX8 60 yX8_waitAt wsX8_waitAt) := goodIn_app (goodIn_of _ (by decide +kernel)) ggX8_waiting_X8_waitAt
theorem dX8_waiting_0 : decode cX8_waiting 0 = .ok (.aload_n 0, 1) := by decide +kernel
theorem dX8_waiting_1 : decode cX8_waiting 1 = .ok (.aload_n 0, 1) := by decide +kernel
theorem dX8_waiting_2 : decode cX8_waiting 2 = .ok (.iload_n 1, 1) := by decide +kernel
theorem dX8_waiting_3 : decode cX8_waiting 3 = .ok (.invokevirtual 161, 3) := by decide +kernel
theorem dX8_waiting_6 : decode cX8_waiting 6 = .ok (.ifCond .ne 7, 3) := by decide +kernel
theorem dX8_waiting_9 : decode cX8_waiting 9 = .ok (.iconst 1, 1) := by decide +kernel
theorem dX8_waiting_10 : decode cX8_waiting 10 = .ok (.goto 20, 3) := by decide +kernel
theorem dX8_waiting_13 : decode cX8_waiting 13 = .ok (.iload_n 2, 1) := by decide +kernel
theorem dX8_waiting_14 : decode cX8_waiting 14 = .ok (.i2l, 1) := by decide +kernel
theorem dX8_waiting_15 : decode cX8_waiting 15 = .ok (.lconst 0, 1) := by decide +kernel
theorem dX8_waiting_16 : decode cX8_waiting 16 = .ok (.ldc2_w 164, 3) := by decide +kernel
theorem dX8_waiting_19 : decode cX8_waiting 19 = .ok (.invokestatic 96, 3) := by decide +kernel
theorem dX8_waiting_22 : decode cX8_waiting 22 = .ok (.ifCond .eq 7, 3) := by decide +kernel
theorem dX8_waiting_25 : decode cX8_waiting 25 = .ok (.iconst 0, 1) := by decide +kernel
theorem dX8_waiting_26 : decode cX8_waiting 26 = .ok (.goto 4, 3) := by decide +kernel
theorem dX8_waiting_29 : decode cX8_waiting 29 = .ok (.iconst 2, 1) := by decide +kernel
theorem dX8_waiting_30 : decode cX8_waiting 30 = .ok (.invokevirtual 103, 3) := by decide +kernel
theorem dX8_waiting_33 : decode cX8_waiting 33 = .ok (.ifCond .eq 7, 3) := by decide +kernel
theorem dX8_waiting_36 : decode cX8_waiting 36 = .ok (.iconst 0, 1) := by decide +kernel
theorem dX8_waiting_37 : decode cX8_waiting 37 = .ok (.goto 13, 3) := by decide +kernel
theorem dX8_waiting_40 : decode cX8_waiting 40 = .ok (.aload_n 0, 1) := by decide +kernel
theorem dX8_waiting_41 : decode cX8_waiting 41 = .ok (.getfield 16, 3) := by decide +kernel
theorem dX8_waiting_44 : decode cX8_waiting 44 = .ok (.iload_n 1, 1) := by decide +kernel
theorem dX8_waiting_45 : decode cX8_waiting 45 = .ok (.iload_n 2, 1) := by decide +kernel
theorem dX8_waiting_46 : decode cX8_waiting 46 = .ok (.invokestatic 60, 3) := by decide +kernel
theorem dX8_waiting_49 : decode cX8_waiting 49 = .ok (.iaload, 1) := by decide +kernel
theorem dX8_waiting_50 : decode cX8_waiting 50 = .ok (.ireturn, 1) := by decide +kernel
set_option maxRecDepth 20000 in
theorem ggX8_block_X8_in : GoodIn wsX8_block wsX8_in := goodIn_r _ [5] (by decide +kernel) (by decide +kernel)
set_option maxRecDepth 20000 in
theorem gX8_block_X8_in : GoodIn wsX8_block (va_wsS RX8 96 yX8_in wsX8_in) := goodIn_app (goodIn_of _ (by decide +kernel)) ggX8_block_X8_in
set_option maxRecDepth 20000 in
theorem ggX8_block_X8_refused : GoodIn wsX8_block wsX8_refused := goodIn_r _ [9, 10, 11, 12, 13, 14, 15, 16, 17, 18, 19, 20, 21, 22, 23] (by decide +kernel) (by decide +kernel)
set_option maxRecDepth 20000 in
theorem gX8_block_X8_refused : GoodIn wsX8_block (wsV RX8 103 RX8 yX8_refused wsX8_refused) := goodIn_app (goodIn_of _ (by decide +kernel)) ggX8_block_X8_refused
theorem dX8_block_0 : decode cX8_block 0 = .ok (.aload_n 0, 1) := by decide +kernel
theorem dX8_block_1 : decode cX8_block 1 = .ok (.iload_n 1, 1) := by decide +kernel
theorem dX8_block_2 : decode cX8_block 2 = .ok (.i2l, 1) := by decide +kernel
theorem dX8_block_3 : decode cX8_block 3 = .ok (.lconst 0, 1) := by decide +kernel
theorem dX8_block_4 : decode cX8_block 4 = .ok (.aload_n 0, 1) := by decide +kernel
theorem dX8_block_5 : decode cX8_block 5 = .ok (.getfield 16, 3) := by decide +kernel
theorem dX8_block_8 : decode cX8_block 8 = .ok (.iconst 3, 1) := by decide +kernel
theorem dX8_block_9 : decode cX8_block 9 = .ok (.iaload, 1) := by decide +kernel
theorem dX8_block_10 : decode cX8_block 10 = .ok (.iconst 1, 1) := by decide +kernel
theorem dX8_block_11 : decode cX8_block 11 = .ok (.isub, 1) := by decide +kernel
theorem dX8_block_12 : decode cX8_block 12 = .ok (.i2l, 1) := by decide +kernel
theorem dX8_block_13 : decode cX8_block 13 = .ok (.invokestatic 96, 3) := by decide +kernel
theorem dX8_block_16 : decode cX8_block 16 = .ok (.ifCond .eq 7, 3) := by decide +kernel
theorem dX8_block_19 : decode cX8_block 19 = .ok (.iconst 0, 1) := by decide +kernel
theorem dX8_block_20 : decode cX8_block 20 = .ok (.goto 4, 3) := by decide +kernel
theorem dX8_block_23 : decode cX8_block 23 = .ok (.iconst 1, 1) := by decide +kernel
theorem dX8_block_24 : decode cX8_block 24 = .ok (.invokevirtual 103, 3) := by decide +kernel
theorem dX8_block_27 : decode cX8_block 27 = .ok (.ifCond .eq 7, 3) := by decide +kernel
theorem dX8_block_30 : decode cX8_block 30 = .ok (.iconst 0, 1) := by decide +kernel
theorem dX8_block_31 : decode cX8_block 31 = .ok (.goto 12, 3) := by decide +kernel
theorem dX8_block_34 : decode cX8_block 34 = .ok (.aload_n 0, 1) := by decide +kernel
theorem dX8_block_35 : decode cX8_block 35 = .ok (.getfield 16, 3) := by decide +kernel
theorem dX8_block_38 : decode cX8_block 38 = .ok (.bipush 19, 2) := by decide +kernel
theorem dX8_block_40 : decode cX8_block 40 = .ok (.iload_n 1, 1) := by decide +kernel
theorem dX8_block_41 : decode cX8_block 41 = .ok (.iadd, 1) := by decide +kernel
theorem dX8_block_42 : decode cX8_block 42 = .ok (.iaload, 1) := by decide +kernel
theorem dX8_block_43 : decode cX8_block 43 = .ok (.ireturn, 1) := by decide +kernel
set_option maxRecDepth 20000 in
theorem ggX8_broken_X8_in : GoodIn wsX8_broken wsX8_in := goodIn_r _ [6] (by decide +kernel) (by decide +kernel)
set_option maxRecDepth 20000 in
theorem gX8_broken_X8_in : GoodIn wsX8_broken (va_wsS RX8 96 yX8_in wsX8_in) := goodIn_app (goodIn_of _ (by decide +kernel)) ggX8_broken_X8_in
set_option maxRecDepth 20000 in
theorem ggX8_broken_X8_refused : GoodIn wsX8_broken wsX8_refused := goodIn_r _ [10, 11, 12, 13, 14, 15, 16, 17, 18, 19, 20, 21, 22, 23, 24] (by decide +kernel) (by decide +kernel)
set_option maxRecDepth 20000 in
theorem gX8_broken_X8_refused : GoodIn wsX8_broken (wsV RX8 103 RX8 yX8_refused wsX8_refused) := goodIn_app (goodIn_of _ (by decide +kernel)) ggX8_broken_X8_refused
theorem dX8_broken_0 : decode cX8_broken 0 = .ok (.aload_n 0, 1) := by decide +kernel
theorem dX8_broken_1 : decode cX8_broken 1 = .ok (.iload_n 1, 1) := by decide +kernel
theorem dX8_broken_2 : decode cX8_broken 2 = .ok (.i2l, 1) := by decide +kernel
theorem dX8_broken_3 : decode cX8_broken 3 = .ok (.lconst 0, 1) := by decide +kernel
theorem dX8_broken_4 : decode cX8_broken 4 = .ok (.aload_n 0, 1) := by decide +kernel
theorem dX8_broken_5 : decode cX8_broken 5 = .ok (.getfield 16, 3) := by decide +kernel
theorem dX8_broken_8 : decode cX8_broken 8 = .ok (.bipush 18, 2) := by decide +kernel
theorem dX8_broken_10 : decode cX8_broken 10 = .ok (.iaload, 1) := by decide +kernel
theorem dX8_broken_11 : decode cX8_broken 11 = .ok (.iconst 1, 1) := by decide +kernel
theorem dX8_broken_12 : decode cX8_broken 12 = .ok (.isub, 1) := by decide +kernel
theorem dX8_broken_13 : decode cX8_broken 13 = .ok (.i2l, 1) := by decide +kernel
theorem dX8_broken_14 : decode cX8_broken 14 = .ok (.invokestatic 96, 3) := by decide +kernel
theorem dX8_broken_17 : decode cX8_broken 17 = .ok (.ifCond .ne 7, 3) := by decide +kernel
theorem dX8_broken_20 : decode cX8_broken 20 = .ok (.iconst 1, 1) := by decide +kernel
theorem dX8_broken_21 : decode cX8_broken 21 = .ok (.goto 20, 3) := by decide +kernel
theorem dX8_broken_24 : decode cX8_broken 24 = .ok (.iload_n 2, 1) := by decide +kernel
theorem dX8_broken_25 : decode cX8_broken 25 = .ok (.i2l, 1) := by decide +kernel
theorem dX8_broken_26 : decode cX8_broken 26 = .ok (.lconst 0, 1) := by decide +kernel
theorem dX8_broken_27 : decode cX8_broken 27 = .ok (.ldc2_w 166, 3) := by decide +kernel
theorem dX8_broken_30 : decode cX8_broken 30 = .ok (.invokestatic 96, 3) := by decide +kernel
theorem dX8_broken_33 : decode cX8_broken 33 = .ok (.ifCond .eq 7, 3) := by decide +kernel
theorem dX8_broken_36 : decode cX8_broken 36 = .ok (.iconst 0, 1) := by decide +kernel
theorem dX8_broken_37 : decode cX8_broken 37 = .ok (.goto 4, 3) := by decide +kernel
theorem dX8_broken_40 : decode cX8_broken 40 = .ok (.iconst 2, 1) := by decide +kernel
theorem dX8_broken_41 : decode cX8_broken 41 = .ok (.invokevirtual 103, 3) := by decide +kernel
theorem dX8_broken_44 : decode cX8_broken 44 = .ok (.ifCond .eq 7, 3) := by decide +kernel
theorem dX8_broken_47 : decode cX8_broken 47 = .ok (.iconst 0, 1) := by decide +kernel
theorem dX8_broken_48 : decode cX8_broken 48 = .ok (.goto 17, 3) := by decide +kernel
theorem dX8_broken_51 : decode cX8_broken 51 = .ok (.aload_n 0, 1) := by decide +kernel
theorem dX8_broken_52 : decode cX8_broken 52 = .ok (.getfield 16, 3) := by decide +kernel
theorem dX8_broken_55 : decode cX8_broken 55 = .ok (.sipush 327, 3) := by decide +kernel
theorem dX8_broken_58 : decode cX8_broken 58 = .ok (.iconst 3, 1) := by decide +kernel
theorem dX8_broken_59 : decode cX8_broken 59 = .ok (.iload_n 1, 1) := by decide +kernel
theorem dX8_broken_60 : decode cX8_broken 60 = .ok (.imul, 1) := by decide +kernel
theorem dX8_broken_61 : decode cX8_broken 61 = .ok (.iadd, 1) := by decide +kernel
theorem dX8_broken_62 : decode cX8_broken 62 = .ok (.iload_n 2, 1) := by decide +kernel
theorem dX8_broken_63 : decode cX8_broken 63 = .ok (.iadd, 1) := by decide +kernel
theorem dX8_broken_64 : decode cX8_broken 64 = .ok (.iaload, 1) := by decide +kernel
theorem dX8_broken_65 : decode cX8_broken 65 = .ok (.ireturn, 1) := by decide +kernel
set_option maxRecDepth 20000 in
theorem ggX8_setting_X8_in : GoodIn wsX8_setting wsX8_in := goodIn_r _ [6] (by decide +kernel) (by decide +kernel)
set_option maxRecDepth 20000 in
theorem gX8_setting_X8_in : GoodIn wsX8_setting (va_wsS RX8 96 yX8_in wsX8_in) := goodIn_app (goodIn_of _ (by decide +kernel)) ggX8_setting_X8_in
set_option maxRecDepth 20000 in
theorem ggX8_setting_X8_refused : GoodIn wsX8_setting wsX8_refused := goodIn_r _ [10, 11, 12, 13, 14, 15, 16, 17, 18, 19, 20, 21, 22, 23, 24] (by decide +kernel) (by decide +kernel)
set_option maxRecDepth 20000 in
theorem gX8_setting_X8_refused : GoodIn wsX8_setting (wsV RX8 103 RX8 yX8_refused wsX8_refused) := goodIn_app (goodIn_of _ (by decide +kernel)) ggX8_setting_X8_refused
theorem dX8_setting_0 : decode cX8_setting 0 = .ok (.aload_n 0, 1) := by decide +kernel
theorem dX8_setting_1 : decode cX8_setting 1 = .ok (.iload_n 1, 1) := by decide +kernel
theorem dX8_setting_2 : decode cX8_setting 2 = .ok (.i2l, 1) := by decide +kernel
theorem dX8_setting_3 : decode cX8_setting 3 = .ok (.lconst 0, 1) := by decide +kernel
theorem dX8_setting_4 : decode cX8_setting 4 = .ok (.ldc2_w 166, 3) := by decide +kernel
theorem dX8_setting_7 : decode cX8_setting 7 = .ok (.invokestatic 96, 3) := by decide +kernel
theorem dX8_setting_10 : decode cX8_setting 10 = .ok (.ifCond .eq 7, 3) := by decide +kernel
theorem dX8_setting_13 : decode cX8_setting 13 = .ok (.iconst 0, 1) := by decide +kernel
theorem dX8_setting_14 : decode cX8_setting 14 = .ok (.goto 4, 3) := by decide +kernel
theorem dX8_setting_17 : decode cX8_setting 17 = .ok (.iconst 1, 1) := by decide +kernel
theorem dX8_setting_18 : decode cX8_setting 18 = .ok (.invokevirtual 103, 3) := by decide +kernel
theorem dX8_setting_21 : decode cX8_setting 21 = .ok (.ifCond .eq 7, 3) := by decide +kernel
theorem dX8_setting_24 : decode cX8_setting 24 = .ok (.iconst 0, 1) := by decide +kernel
theorem dX8_setting_25 : decode cX8_setting 25 = .ok (.goto 9, 3) := by decide +kernel
theorem dX8_setting_28 : decode cX8_setting 28 = .ok (.aload_n 0, 1) := by decide +kernel
theorem dX8_setting_29 : decode cX8_setting 29 = .ok (.getfield 16, 3) := by decide +kernel
theorem dX8_setting_32 : decode cX8_setting 32 = .ok (.iload_n 1, 1) := by decide +kernel
theorem dX8_setting_33 : decode cX8_setting 33 = .ok (.iaload, 1) := by decide +kernel
theorem dX8_setting_34 : decode cX8_setting 34 = .ok (.ireturn, 1) := by decide +kernel
set_option maxRecDepth 20000 in
theorem ggX8_isPicture_X8_in : GoodIn wsX8_isPicture wsX8_in := goodIn_r _ [5] (by decide +kernel) (by decide +kernel)
set_option maxRecDepth 20000 in
theorem gX8_isPicture_X8_in : GoodIn wsX8_isPicture (va_wsS RX8 96 yX8_in wsX8_in) := goodIn_app (goodIn_of _ (by decide +kernel)) ggX8_isPicture_X8_in
theorem dX8_isPicture_0 : decode cX8_isPicture 0 = .ok (.iload_n 0, 1) := by decide +kernel
theorem dX8_isPicture_1 : decode cX8_isPicture 1 = .ok (.i2l, 1) := by decide +kernel
theorem dX8_isPicture_2 : decode cX8_isPicture 2 = .ok (.lconst 0, 1) := by decide +kernel
theorem dX8_isPicture_3 : decode cX8_isPicture 3 = .ok (.ldc2_w 168, 3) := by decide +kernel
theorem dX8_isPicture_6 : decode cX8_isPicture 6 = .ok (.invokestatic 96, 3) := by decide +kernel
theorem dX8_isPicture_9 : decode cX8_isPicture 9 = .ok (.ireturn, 1) := by decide +kernel
set_option maxRecDepth 20000 in
theorem ggX8_isTicks_X8_in : GoodIn wsX8_isTicks wsX8_in := goodIn_r _ [5] (by decide +kernel) (by decide +kernel)
set_option maxRecDepth 20000 in
theorem gX8_isTicks_X8_in : GoodIn wsX8_isTicks (va_wsS RX8 96 yX8_in wsX8_in) := goodIn_app (goodIn_of _ (by decide +kernel)) ggX8_isTicks_X8_in
theorem dX8_isTicks_0 : decode cX8_isTicks 0 = .ok (.iload_n 0, 1) := by decide +kernel
theorem dX8_isTicks_1 : decode cX8_isTicks 1 = .ok (.i2l, 1) := by decide +kernel
theorem dX8_isTicks_2 : decode cX8_isTicks 2 = .ok (.lconst 1, 1) := by decide +kernel
theorem dX8_isTicks_3 : decode cX8_isTicks 3 = .ok (.ldc2_w 170, 3) := by decide +kernel
theorem dX8_isTicks_6 : decode cX8_isTicks 6 = .ok (.invokestatic 96, 3) := by decide +kernel
theorem dX8_isTicks_9 : decode cX8_isTicks 9 = .ok (.ireturn, 1) := by decide +kernel
set_option maxRecDepth 20000 in
theorem ggX8_shoot_X8_isPicture : GoodIn wsX8_shoot wsX8_isPicture := goodIn_r _ [5, 6, 7, 8, 4, 9] (by decide +kernel) (by decide +kernel)
set_option maxRecDepth 20000 in
theorem gX8_shoot_X8_isPicture : GoodIn wsX8_shoot (va_wsS RX8 172 yX8_isPicture wsX8_isPicture) := goodIn_app (goodIn_of _ (by decide +kernel)) ggX8_shoot_X8_isPicture
set_option maxRecDepth 20000 in
theorem ggX8_shoot_X8_refused : GoodIn wsX8_shoot wsX8_refused := goodIn_r _ [13, 14, 36, 37, 38, 39, 40, 41, 42, 43, 44, 45, 46, 47, 48] (by decide +kernel) (by decide +kernel)
set_option maxRecDepth 20000 in
theorem gX8_shoot_X8_refused : GoodIn wsX8_shoot (wsV RX8 103 RX8 yX8_refused wsX8_refused) := goodIn_app (goodIn_of _ (by decide +kernel)) ggX8_shoot_X8_refused
set_option maxRecDepth 20000 in
theorem ggX8_shoot_X8_remember : GoodIn wsX8_shoot wsX8_remember := goodIn_r _ [18, 19, 20, 1, 21, 22, 4, 23, 36, 37, 38, 39, 40, 41, 42, 43, 44, 45, 46, 47, 48] (by decide +kernel) (by decide +kernel)
set_option maxRecDepth 20000 in
theorem gX8_shoot_X8_remember : GoodIn wsX8_shoot (wsV RX8 175 RX8 yX8_remember wsX8_remember) := goodIn_app (goodIn_of _ (by decide +kernel)) ggX8_shoot_X8_remember
set_option maxRecDepth 20000 in
theorem ggX8_shoot_X8_shootIn : GoodIn wsX8_shoot wsX8_shootIn := goodIn_r _ [26, 27, 28, 4, 29, 30, 31, 32, 33, 34, 35] (by decide +kernel) (by decide +kernel)
set_option maxRecDepth 20000 in
theorem gX8_shoot_X8_shootIn : GoodIn wsX8_shoot (va_wsS RX8 123 yX8_shootIn wsX8_shootIn) := goodIn_app (goodIn_of _ (by decide +kernel)) ggX8_shoot_X8_shootIn
theorem dX8_shoot_0 : decode cX8_shoot 0 = .ok (.aload_n 0, 1) := by decide +kernel
theorem dX8_shoot_1 : decode cX8_shoot 1 = .ok (.iload_n 1, 1) := by decide +kernel
theorem dX8_shoot_2 : decode cX8_shoot 2 = .ok (.invokestatic 172, 3) := by decide +kernel
theorem dX8_shoot_5 : decode cX8_shoot 5 = .ok (.ifCond .eq 7, 3) := by decide +kernel
theorem dX8_shoot_8 : decode cX8_shoot 8 = .ok (.iconst 0, 1) := by decide +kernel
theorem dX8_shoot_9 : decode cX8_shoot 9 = .ok (.goto 4, 3) := by decide +kernel
theorem dX8_shoot_12 : decode cX8_shoot 12 = .ok (.iconst 1, 1) := by decide +kernel
theorem dX8_shoot_13 : decode cX8_shoot 13 = .ok (.invokevirtual 103, 3) := by decide +kernel
theorem dX8_shoot_16 : decode cX8_shoot 16 = .ok (.ifCond .eq 5, 3) := by decide +kernel
theorem dX8_shoot_19 : decode cX8_shoot 19 = .ok (.iconst 0, 1) := by decide +kernel
theorem dX8_shoot_20 : decode cX8_shoot 20 = .ok (.ireturn, 1) := by decide +kernel
theorem dX8_shoot_21 : decode cX8_shoot 21 = .ok (.aload_n 0, 1) := by decide +kernel
theorem dX8_shoot_22 : decode cX8_shoot 22 = .ok (.invokevirtual 175, 3) := by decide +kernel
theorem dX8_shoot_25 : decode cX8_shoot 25 = .ok (.aload_n 0, 1) := by decide +kernel
theorem dX8_shoot_26 : decode cX8_shoot 26 = .ok (.getfield 16, 3) := by decide +kernel
theorem dX8_shoot_29 : decode cX8_shoot 29 = .ok (.iload_n 1, 1) := by decide +kernel
theorem dX8_shoot_30 : decode cX8_shoot 30 = .ok (.invokestatic 123, 3) := by decide +kernel
theorem dX8_shoot_33 : decode cX8_shoot 33 = .ok (.ireturn, 1) := by decide +kernel
set_option maxRecDepth 20000 in
theorem ggX8_ticks_X8_isTicks : GoodIn wsX8_ticks wsX8_isTicks := goodIn_r _ [5, 6, 7, 8, 4, 9] (by decide +kernel) (by decide +kernel)
set_option maxRecDepth 20000 in
theorem gX8_ticks_X8_isTicks : GoodIn wsX8_ticks (va_wsS RX8 178 yX8_isTicks wsX8_isTicks) := goodIn_app (goodIn_of _ (by decide +kernel)) ggX8_ticks_X8_isTicks
set_option maxRecDepth 20000 in
theorem ggX8_ticks_X8_refused : GoodIn wsX8_ticks wsX8_refused := goodIn_r _ [13, 14, 63, 64, 65, 66, 67, 68, 69, 70, 71, 72, 73, 74, 75] (by decide +kernel) (by decide +kernel)
set_option maxRecDepth 20000 in
theorem gX8_ticks_X8_refused : GoodIn wsX8_ticks (wsV RX8 103 RX8 yX8_refused wsX8_refused) := goodIn_app (goodIn_of _ (by decide +kernel)) ggX8_ticks_X8_refused
set_option maxRecDepth 20000 in
theorem ggX8_ticks_X8_remember : GoodIn wsX8_ticks wsX8_remember := goodIn_r _ [18, 19, 20, 1, 21, 22, 4, 23, 63, 64, 65, 66, 67, 68, 69, 70, 71, 72, 73, 74, 75] (by decide +kernel) (by decide +kernel)
set_option maxRecDepth 20000 in
theorem gX8_ticks_X8_remember : GoodIn wsX8_ticks (wsV RX8 175 RX8 yX8_remember wsX8_remember) := goodIn_app (goodIn_of _ (by decide +kernel)) ggX8_ticks_X8_remember
set_option maxRecDepth 20000 in
theorem ggX8_ticks_X8_ticksIn : GoodIn wsX8_ticks wsX8_ticksIn := goodIn_r _ [26, 27, 28, 4, 29, 30, 31, 32, 33, 34, 35, 36, 37, 38, 39, 40, 41, 42, 43, 44, 21, 22, 23, 45, 46, 47, 48, 49, 50, 51, 52, 53, 54, 55, 56, 57, 58, 59, 60, 61, 62] (by decide +kernel) (by decide +kernel)
set_option maxRecDepth 20000 in
theorem gX8_ticks_X8_ticksIn : GoodIn wsX8_ticks (va_wsS RX8 141 yX8_ticksIn wsX8_ticksIn) := goodIn_app (goodIn_of _ (by decide +kernel)) ggX8_ticks_X8_ticksIn
theorem dX8_ticks_0 : decode cX8_ticks 0 = .ok (.aload_n 0, 1) := by decide +kernel
theorem dX8_ticks_1 : decode cX8_ticks 1 = .ok (.iload_n 1, 1) := by decide +kernel
theorem dX8_ticks_2 : decode cX8_ticks 2 = .ok (.invokestatic 178, 3) := by decide +kernel
theorem dX8_ticks_5 : decode cX8_ticks 5 = .ok (.ifCond .eq 7, 3) := by decide +kernel
theorem dX8_ticks_8 : decode cX8_ticks 8 = .ok (.iconst 0, 1) := by decide +kernel
theorem dX8_ticks_9 : decode cX8_ticks 9 = .ok (.goto 4, 3) := by decide +kernel
theorem dX8_ticks_12 : decode cX8_ticks 12 = .ok (.iconst 1, 1) := by decide +kernel
theorem dX8_ticks_13 : decode cX8_ticks 13 = .ok (.invokevirtual 103, 3) := by decide +kernel
theorem dX8_ticks_16 : decode cX8_ticks 16 = .ok (.ifCond .eq 5, 3) := by decide +kernel
theorem dX8_ticks_19 : decode cX8_ticks 19 = .ok (.iconst 0, 1) := by decide +kernel
theorem dX8_ticks_20 : decode cX8_ticks 20 = .ok (.ireturn, 1) := by decide +kernel
theorem dX8_ticks_21 : decode cX8_ticks 21 = .ok (.aload_n 0, 1) := by decide +kernel
theorem dX8_ticks_22 : decode cX8_ticks 22 = .ok (.invokevirtual 175, 3) := by decide +kernel
theorem dX8_ticks_25 : decode cX8_ticks 25 = .ok (.aload_n 0, 1) := by decide +kernel
theorem dX8_ticks_26 : decode cX8_ticks 26 = .ok (.getfield 16, 3) := by decide +kernel
theorem dX8_ticks_29 : decode cX8_ticks 29 = .ok (.iload_n 1, 1) := by decide +kernel
theorem dX8_ticks_30 : decode cX8_ticks 30 = .ok (.invokestatic 141, 3) := by decide +kernel
theorem dX8_ticks_33 : decode cX8_ticks 33 = .ok (.ireturn, 1) := by decide +kernel
set_option maxRecDepth 20000 in
theorem ggX8_drop_X8_isFrame : GoodIn wsX8_drop wsX8_isFrame := goodIn_r _ [6, 1, 7, 8, 5, 9, 30, 31, 32, 33, 34, 35, 36, 37, 38, 39, 40, 41, 42] (by decide +kernel) (by decide +kernel)
set_option maxRecDepth 20000 in
theorem gX8_drop_X8_isFrame : GoodIn wsX8_drop (wsV RX8 153 RX8 yX8_isFrame wsX8_isFrame) := goodIn_app (goodIn_of _ (by decide +kernel)) ggX8_drop_X8_isFrame
set_option maxRecDepth 20000 in
theorem ggX8_drop_X8_refused : GoodIn wsX8_drop wsX8_refused := goodIn_r _ [13, 14, 30, 31, 32, 33, 34, 35, 36, 37, 38, 39, 40, 41, 42] (by decide +kernel) (by decide +kernel)
set_option maxRecDepth 20000 in
theorem gX8_drop_X8_refused : GoodIn wsX8_drop (wsV RX8 103 RX8 yX8_refused wsX8_refused) := goodIn_app (goodIn_of _ (by decide +kernel)) ggX8_drop_X8_refused
set_option maxRecDepth 20000 in
theorem ggX8_drop_X8_remember : GoodIn wsX8_drop wsX8_remember := goodIn_r _ [18, 19, 20, 1, 21, 22, 5, 23, 30, 31, 32, 33, 34, 35, 36, 37, 38, 39, 40, 41, 42] (by decide +kernel) (by decide +kernel)
set_option maxRecDepth 20000 in
theorem gX8_drop_X8_remember : GoodIn wsX8_drop (wsV RX8 175 RX8 yX8_remember wsX8_remember) := goodIn_app (goodIn_of _ (by decide +kernel)) ggX8_drop_X8_remember
set_option maxRecDepth 20000 in
theorem ggX8_drop_X8_dropIn : GoodIn wsX8_drop wsX8_dropIn := goodIn_r _ [26, 27, 28, 5, 29, 21, 22, 23] (by decide +kernel) (by decide +kernel)
set_option maxRecDepth 20000 in
theorem gX8_drop_X8_dropIn : GoodIn wsX8_drop (va_wsS RX8 85 yX8_dropIn wsX8_dropIn) := goodIn_app (goodIn_of _ (by decide +kernel)) ggX8_drop_X8_dropIn
theorem dX8_drop_0 : decode cX8_drop 0 = .ok (.aload_n 0, 1) := by decide +kernel
theorem dX8_drop_1 : decode cX8_drop 1 = .ok (.aload_n 0, 1) := by decide +kernel
theorem dX8_drop_2 : decode cX8_drop 2 = .ok (.iload_n 1, 1) := by decide +kernel
theorem dX8_drop_3 : decode cX8_drop 3 = .ok (.invokevirtual 153, 3) := by decide +kernel
theorem dX8_drop_6 : decode cX8_drop 6 = .ok (.ifCond .eq 7, 3) := by decide +kernel
theorem dX8_drop_9 : decode cX8_drop 9 = .ok (.iconst 0, 1) := by decide +kernel
theorem dX8_drop_10 : decode cX8_drop 10 = .ok (.goto 4, 3) := by decide +kernel
theorem dX8_drop_13 : decode cX8_drop 13 = .ok (.iconst 1, 1) := by decide +kernel
theorem dX8_drop_14 : decode cX8_drop 14 = .ok (.invokevirtual 103, 3) := by decide +kernel
theorem dX8_drop_17 : decode cX8_drop 17 = .ok (.ifCond .eq 5, 3) := by decide +kernel
theorem dX8_drop_20 : decode cX8_drop 20 = .ok (.iconst 0, 1) := by decide +kernel
theorem dX8_drop_21 : decode cX8_drop 21 = .ok (.ireturn, 1) := by decide +kernel
theorem dX8_drop_22 : decode cX8_drop 22 = .ok (.aload_n 0, 1) := by decide +kernel
theorem dX8_drop_23 : decode cX8_drop 23 = .ok (.invokevirtual 175, 3) := by decide +kernel
theorem dX8_drop_26 : decode cX8_drop 26 = .ok (.aload_n 0, 1) := by decide +kernel
theorem dX8_drop_27 : decode cX8_drop 27 = .ok (.getfield 16, 3) := by decide +kernel
theorem dX8_drop_30 : decode cX8_drop 30 = .ok (.iload_n 1, 1) := by decide +kernel
theorem dX8_drop_31 : decode cX8_drop 31 = .ok (.invokestatic 85, 3) := by decide +kernel
theorem dX8_drop_34 : decode cX8_drop 34 = .ok (.ireturn, 1) := by decide +kernel
set_option maxRecDepth 20000 in
theorem ggX8_format_X8_in : GoodIn wsX8_format wsX8_in := goodIn_r _ [7] (by decide +kernel) (by decide +kernel)
set_option maxRecDepth 20000 in
theorem gX8_format_X8_in : GoodIn wsX8_format (va_wsS RX8 96 yX8_in wsX8_in) := goodIn_app (goodIn_of _ (by decide +kernel)) ggX8_format_X8_in
set_option maxRecDepth 20000 in
theorem ggX8_format_X8_refused : GoodIn wsX8_format wsX8_refused := goodIn_r _ [11, 12, 22, 23, 24, 25, 26, 27, 28, 29, 30, 31, 32, 33, 34] (by decide +kernel) (by decide +kernel)
set_option maxRecDepth 20000 in
theorem gX8_format_X8_refused : GoodIn wsX8_format (wsV RX8 103 RX8 yX8_refused wsX8_refused) := goodIn_app (goodIn_of _ (by decide +kernel)) ggX8_format_X8_refused
set_option maxRecDepth 20000 in
theorem ggX8_format_X8_remember : GoodIn wsX8_format wsX8_remember := goodIn_r _ [16, 17, 18, 3, 19, 20, 6, 21, 22, 23, 24, 25, 26, 27, 28, 29, 30, 31, 32, 33, 34] (by decide +kernel) (by decide +kernel)
set_option maxRecDepth 20000 in
theorem gX8_format_X8_remember : GoodIn wsX8_format (wsV RX8 175 RX8 yX8_remember wsX8_remember) := goodIn_app (goodIn_of _ (by decide +kernel)) ggX8_format_X8_remember
theorem dX8_format_0 : decode cX8_format 0 = .ok (.aload_n 0, 1) := by decide +kernel
theorem dX8_format_1 : decode cX8_format 1 = .ok (.iload_n 1, 1) := by decide +kernel
theorem dX8_format_2 : decode cX8_format 2 = .ok (.i2l, 1) := by decide +kernel
theorem dX8_format_3 : decode cX8_format 3 = .ok (.ldc2_w 181, 3) := by decide +kernel
theorem dX8_format_6 : decode cX8_format 6 = .ok (.ldc2_w 183, 3) := by decide +kernel
theorem dX8_format_9 : decode cX8_format 9 = .ok (.invokestatic 96, 3) := by decide +kernel
theorem dX8_format_12 : decode cX8_format 12 = .ok (.ifCond .eq 7, 3) := by decide +kernel
theorem dX8_format_15 : decode cX8_format 15 = .ok (.iconst 0, 1) := by decide +kernel
theorem dX8_format_16 : decode cX8_format 16 = .ok (.goto 4, 3) := by decide +kernel
theorem dX8_format_19 : decode cX8_format 19 = .ok (.iconst 1, 1) := by decide +kernel
theorem dX8_format_20 : decode cX8_format 20 = .ok (.invokevirtual 103, 3) := by decide +kernel
theorem dX8_format_23 : decode cX8_format 23 = .ok (.ifCond .eq 5, 3) := by decide +kernel
theorem dX8_format_26 : decode cX8_format 26 = .ok (.iconst 0, 1) := by decide +kernel
theorem dX8_format_27 : decode cX8_format 27 = .ok (.ireturn, 1) := by decide +kernel
theorem dX8_format_28 : decode cX8_format 28 = .ok (.aload_n 0, 1) := by decide +kernel
theorem dX8_format_29 : decode cX8_format 29 = .ok (.invokevirtual 175, 3) := by decide +kernel
theorem dX8_format_32 : decode cX8_format 32 = .ok (.aload_n 0, 1) := by decide +kernel
theorem dX8_format_33 : decode cX8_format 33 = .ok (.getfield 16, 3) := by decide +kernel
theorem dX8_format_36 : decode cX8_format 36 = .ok (.bipush 16, 2) := by decide +kernel
theorem dX8_format_38 : decode cX8_format 38 = .ok (.iaload, 1) := by decide +kernel
theorem dX8_format_39 : decode cX8_format 39 = .ok (.aload_n 0, 1) := by decide +kernel
theorem dX8_format_40 : decode cX8_format 40 = .ok (.getfield 16, 3) := by decide +kernel
theorem dX8_format_43 : decode cX8_format 43 = .ok (.bipush 17, 2) := by decide +kernel
theorem dX8_format_45 : decode cX8_format 45 = .ok (.iaload, 1) := by decide +kernel
theorem dX8_format_46 : decode cX8_format 46 = .ok (.iadd, 1) := by decide +kernel
theorem dX8_format_47 : decode cX8_format 47 = .ok (.istore_n 2, 1) := by decide +kernel
theorem dX8_format_48 : decode cX8_format 48 = .ok (.aload_n 0, 1) := by decide +kernel
theorem dX8_format_49 : decode cX8_format 49 = .ok (.getfield 16, 3) := by decide +kernel
theorem dX8_format_52 : decode cX8_format 52 = .ok (.bipush 6, 2) := by decide +kernel
theorem dX8_format_54 : decode cX8_format 54 = .ok (.dup2, 1) := by decide +kernel
theorem dX8_format_55 : decode cX8_format 55 = .ok (.iaload, 1) := by decide +kernel
theorem dX8_format_56 : decode cX8_format 56 = .ok (.iload_n 2, 1) := by decide +kernel
theorem dX8_format_57 : decode cX8_format 57 = .ok (.iadd, 1) := by decide +kernel
theorem dX8_format_58 : decode cX8_format 58 = .ok (.iastore, 1) := by decide +kernel
theorem dX8_format_59 : decode cX8_format 59 = .ok (.aload_n 0, 1) := by decide +kernel
theorem dX8_format_60 : decode cX8_format 60 = .ok (.getfield 16, 3) := by decide +kernel
theorem dX8_format_63 : decode cX8_format 63 = .ok (.bipush 16, 2) := by decide +kernel
theorem dX8_format_65 : decode cX8_format 65 = .ok (.iconst 0, 1) := by decide +kernel
theorem dX8_format_66 : decode cX8_format 66 = .ok (.iastore, 1) := by decide +kernel
theorem dX8_format_67 : decode cX8_format 67 = .ok (.aload_n 0, 1) := by decide +kernel
theorem dX8_format_68 : decode cX8_format 68 = .ok (.getfield 16, 3) := by decide +kernel
theorem dX8_format_71 : decode cX8_format 71 = .ok (.bipush 17, 2) := by decide +kernel
theorem dX8_format_73 : decode cX8_format 73 = .ok (.iconst 0, 1) := by decide +kernel
theorem dX8_format_74 : decode cX8_format 74 = .ok (.iastore, 1) := by decide +kernel
theorem dX8_format_75 : decode cX8_format 75 = .ok (.aload_n 0, 1) := by decide +kernel
theorem dX8_format_76 : decode cX8_format 76 = .ok (.getfield 16, 3) := by decide +kernel
theorem dX8_format_79 : decode cX8_format 79 = .ok (.iconst 3, 1) := by decide +kernel
theorem dX8_format_80 : decode cX8_format 80 = .ok (.iload_n 1, 1) := by decide +kernel
theorem dX8_format_81 : decode cX8_format 81 = .ok (.iastore, 1) := by decide +kernel
theorem dX8_format_82 : decode cX8_format 82 = .ok (.iconst 0, 1) := by decide +kernel
theorem dX8_format_83 : decode cX8_format 83 = .ok (.istore_n 3, 1) := by decide +kernel
theorem dX8_format_84 : decode cX8_format 84 = .ok (.iload_n 3, 1) := by decide +kernel
theorem dX8_format_85 : decode cX8_format 85 = .ok (.bipush 48, 2) := by decide +kernel
theorem dX8_format_87 : decode cX8_format 87 = .ok (.if_icmp .ge 19, 3) := by decide +kernel
theorem dX8_format_90 : decode cX8_format 90 = .ok (.aload_n 0, 1) := by decide +kernel
theorem dX8_format_91 : decode cX8_format 91 = .ok (.getfield 16, 3) := by decide +kernel
theorem dX8_format_94 : decode cX8_format 94 = .ok (.bipush 19, 2) := by decide +kernel
theorem dX8_format_96 : decode cX8_format 96 = .ok (.iload_n 3, 1) := by decide +kernel
theorem dX8_format_97 : decode cX8_format 97 = .ok (.iadd, 1) := by decide +kernel
theorem dX8_format_98 : decode cX8_format 98 = .ok (.iconst (-1), 1) := by decide +kernel
theorem dX8_format_99 : decode cX8_format 99 = .ok (.iastore, 1) := by decide +kernel
theorem dX8_format_100 : decode cX8_format 100 = .ok (.iinc 3 1, 3) := by decide +kernel
theorem dX8_format_103 : decode cX8_format 103 = .ok (.goto (-19), 3) := by decide +kernel
theorem dX8_format_106 : decode cX8_format 106 = .ok (.iload_n 2, 1) := by decide +kernel
theorem dX8_format_107 : decode cX8_format 107 = .ok (.ireturn, 1) := by decide +kernel
set_option maxRecDepth 20000 in
theorem ggX8_isSetting_X8_in : GoodIn wsX8_isSetting wsX8_in := goodIn_r _ [7] (by decide +kernel) (by decide +kernel)
set_option maxRecDepth 20000 in
theorem gX8_isSetting_X8_in : GoodIn wsX8_isSetting (va_wsS RX8 96 yX8_in wsX8_in) := goodIn_app (goodIn_of _ (by decide +kernel)) ggX8_isSetting_X8_in
theorem dX8_isSetting_0 : decode cX8_isSetting 0 = .ok (.iload_n 0, 1) := by decide +kernel
theorem dX8_isSetting_1 : decode cX8_isSetting 1 = .ok (.ifCond .ne 15, 3) := by decide +kernel
theorem dX8_isSetting_4 : decode cX8_isSetting 4 = .ok (.iload_n 1, 1) := by decide +kernel
theorem dX8_isSetting_5 : decode cX8_isSetting 5 = .ok (.i2l, 1) := by decide +kernel
theorem dX8_isSetting_6 : decode cX8_isSetting 6 = .ok (.lconst 0, 1) := by decide +kernel
theorem dX8_isSetting_7 : decode cX8_isSetting 7 = .ok (.ldc2_w 181, 3) := by decide +kernel
theorem dX8_isSetting_10 : decode cX8_isSetting 10 = .ok (.invokestatic 96, 3) := by decide +kernel
theorem dX8_isSetting_13 : decode cX8_isSetting 13 = .ok (.ifCond .ne 37, 3) := by decide +kernel
theorem dX8_isSetting_16 : decode cX8_isSetting 16 = .ok (.iload_n 0, 1) := by decide +kernel
theorem dX8_isSetting_17 : decode cX8_isSetting 17 = .ok (.iconst 1, 1) := by decide +kernel
theorem dX8_isSetting_18 : decode cX8_isSetting 18 = .ok (.if_icmp .ne 15, 3) := by decide +kernel
theorem dX8_isSetting_21 : decode cX8_isSetting 21 = .ok (.iload_n 1, 1) := by decide +kernel
theorem dX8_isSetting_22 : decode cX8_isSetting 22 = .ok (.i2l, 1) := by decide +kernel
theorem dX8_isSetting_23 : decode cX8_isSetting 23 = .ok (.lconst 0, 1) := by decide +kernel
theorem dX8_isSetting_24 : decode cX8_isSetting 24 = .ok (.ldc2_w 114, 3) := by decide +kernel
theorem dX8_isSetting_27 : decode cX8_isSetting 27 = .ok (.invokestatic 96, 3) := by decide +kernel
theorem dX8_isSetting_30 : decode cX8_isSetting 30 = .ok (.ifCond .ne 20, 3) := by decide +kernel
theorem dX8_isSetting_33 : decode cX8_isSetting 33 = .ok (.iload_n 0, 1) := by decide +kernel
theorem dX8_isSetting_34 : decode cX8_isSetting 34 = .ok (.iconst 2, 1) := by decide +kernel
theorem dX8_isSetting_35 : decode cX8_isSetting 35 = .ok (.if_icmp .ne 19, 3) := by decide +kernel
theorem dX8_isSetting_38 : decode cX8_isSetting 38 = .ok (.iload_n 1, 1) := by decide +kernel
theorem dX8_isSetting_39 : decode cX8_isSetting 39 = .ok (.i2l, 1) := by decide +kernel
theorem dX8_isSetting_40 : decode cX8_isSetting 40 = .ok (.lconst 1, 1) := by decide +kernel
theorem dX8_isSetting_41 : decode cX8_isSetting 41 = .ok (.ldc2_w 185, 3) := by decide +kernel
theorem dX8_isSetting_44 : decode cX8_isSetting 44 = .ok (.invokestatic 96, 3) := by decide +kernel
theorem dX8_isSetting_47 : decode cX8_isSetting 47 = .ok (.ifCond .eq 7, 3) := by decide +kernel
theorem dX8_isSetting_50 : decode cX8_isSetting 50 = .ok (.iconst 1, 1) := by decide +kernel
theorem dX8_isSetting_51 : decode cX8_isSetting 51 = .ok (.goto 4, 3) := by decide +kernel
theorem dX8_isSetting_54 : decode cX8_isSetting 54 = .ok (.iconst 0, 1) := by decide +kernel
theorem dX8_isSetting_55 : decode cX8_isSetting 55 = .ok (.ireturn, 1) := by decide +kernel
set_option maxRecDepth 20000 in
theorem ggX8_set_X8_isSetting : GoodIn wsX8_set wsX8_isSetting := goodIn_r _ [5, 6, 7, 8, 9, 10, 4, 11] (by decide +kernel) (by decide +kernel)
set_option maxRecDepth 20000 in
theorem gX8_set_X8_isSetting : GoodIn wsX8_set (va_wsS RX8 187 yX8_isSetting wsX8_isSetting) := goodIn_app (goodIn_of _ (by decide +kernel)) ggX8_set_X8_isSetting
set_option maxRecDepth 20000 in
theorem ggX8_set_X8_refused : GoodIn wsX8_set wsX8_refused := goodIn_r _ [15, 16, 26, 27, 28, 29, 30, 31, 32, 33, 34, 35, 36, 37, 38] (by decide +kernel) (by decide +kernel)
set_option maxRecDepth 20000 in
theorem gX8_set_X8_refused : GoodIn wsX8_set (wsV RX8 103 RX8 yX8_refused wsX8_refused) := goodIn_app (goodIn_of _ (by decide +kernel)) ggX8_set_X8_refused
set_option maxRecDepth 20000 in
theorem ggX8_set_X8_remember : GoodIn wsX8_set wsX8_remember := goodIn_r _ [20, 21, 22, 1, 23, 24, 4, 25, 26, 27, 28, 29, 30, 31, 32, 33, 34, 35, 36, 37, 38] (by decide +kernel) (by decide +kernel)
set_option maxRecDepth 20000 in
theorem gX8_set_X8_remember : GoodIn wsX8_set (wsV RX8 175 RX8 yX8_remember wsX8_remember) := goodIn_app (goodIn_of _ (by decide +kernel)) ggX8_set_X8_remember
theorem dX8_set_0 : decode cX8_set 0 = .ok (.aload_n 0, 1) := by decide +kernel
theorem dX8_set_1 : decode cX8_set 1 = .ok (.iload_n 1, 1) := by decide +kernel
theorem dX8_set_2 : decode cX8_set 2 = .ok (.iload_n 2, 1) := by decide +kernel
theorem dX8_set_3 : decode cX8_set 3 = .ok (.invokestatic 187, 3) := by decide +kernel
theorem dX8_set_6 : decode cX8_set 6 = .ok (.ifCond .eq 7, 3) := by decide +kernel
theorem dX8_set_9 : decode cX8_set 9 = .ok (.iconst 0, 1) := by decide +kernel
theorem dX8_set_10 : decode cX8_set 10 = .ok (.goto 4, 3) := by decide +kernel
theorem dX8_set_13 : decode cX8_set 13 = .ok (.iconst 1, 1) := by decide +kernel
theorem dX8_set_14 : decode cX8_set 14 = .ok (.invokevirtual 103, 3) := by decide +kernel
theorem dX8_set_17 : decode cX8_set 17 = .ok (.ifCond .eq 5, 3) := by decide +kernel
theorem dX8_set_20 : decode cX8_set 20 = .ok (.iconst 0, 1) := by decide +kernel
theorem dX8_set_21 : decode cX8_set 21 = .ok (.ireturn, 1) := by decide +kernel
theorem dX8_set_22 : decode cX8_set 22 = .ok (.aload_n 0, 1) := by decide +kernel
theorem dX8_set_23 : decode cX8_set 23 = .ok (.invokevirtual 175, 3) := by decide +kernel
theorem dX8_set_26 : decode cX8_set 26 = .ok (.aload_n 0, 1) := by decide +kernel
theorem dX8_set_27 : decode cX8_set 27 = .ok (.getfield 16, 3) := by decide +kernel
theorem dX8_set_30 : decode cX8_set 30 = .ok (.iload_n 1, 1) := by decide +kernel
theorem dX8_set_31 : decode cX8_set 31 = .ok (.iaload, 1) := by decide +kernel
theorem dX8_set_32 : decode cX8_set 32 = .ok (.istore_n 3, 1) := by decide +kernel
theorem dX8_set_33 : decode cX8_set 33 = .ok (.aload_n 0, 1) := by decide +kernel
theorem dX8_set_34 : decode cX8_set 34 = .ok (.getfield 16, 3) := by decide +kernel
theorem dX8_set_37 : decode cX8_set 37 = .ok (.iload_n 1, 1) := by decide +kernel
theorem dX8_set_38 : decode cX8_set 38 = .ok (.iload_n 2, 1) := by decide +kernel
theorem dX8_set_39 : decode cX8_set 39 = .ok (.iastore, 1) := by decide +kernel
theorem dX8_set_40 : decode cX8_set 40 = .ok (.iload_n 3, 1) := by decide +kernel
theorem dX8_set_41 : decode cX8_set 41 = .ok (.ireturn, 1) := by decide +kernel
set_option maxRecDepth 20000 in
theorem ggX8_undo_X8_refused : GoodIn wsX8_undo wsX8_refused := goodIn_r _ [8, 9, 13, 14, 15, 16, 17, 18, 19, 20, 21, 22, 23, 24, 25] (by decide +kernel) (by decide +kernel)
set_option maxRecDepth 20000 in
theorem gX8_undo_X8_refused : GoodIn wsX8_undo (wsV RX8 103 RX8 yX8_refused wsX8_refused) := goodIn_app (goodIn_of _ (by decide +kernel)) ggX8_undo_X8_refused
set_option maxRecDepth 20000 in
theorem ggX8_undo_X8_copy : GoodIn wsX8_undo wsX8_copy := goodIn_r _ [12] (by decide +kernel) (by decide +kernel)
set_option maxRecDepth 20000 in
theorem gX8_undo_X8_copy : GoodIn wsX8_undo (va_wsS RX8 45 yX8_copy wsX8_copy) := goodIn_app (goodIn_of _ (by decide +kernel)) ggX8_undo_X8_copy
theorem dX8_undo_0 : decode cX8_undo 0 = .ok (.aload_n 0, 1) := by decide +kernel
theorem dX8_undo_1 : decode cX8_undo 1 = .ok (.aload_n 0, 1) := by decide +kernel
theorem dX8_undo_2 : decode cX8_undo 2 = .ok (.getfield 42, 3) := by decide +kernel
theorem dX8_undo_5 : decode cX8_undo 5 = .ok (.ifCond .ne 7, 3) := by decide +kernel
theorem dX8_undo_8 : decode cX8_undo 8 = .ok (.iconst 1, 1) := by decide +kernel
theorem dX8_undo_9 : decode cX8_undo 9 = .ok (.goto 4, 3) := by decide +kernel
theorem dX8_undo_12 : decode cX8_undo 12 = .ok (.iconst 0, 1) := by decide +kernel
theorem dX8_undo_13 : decode cX8_undo 13 = .ok (.invokevirtual 103, 3) := by decide +kernel
theorem dX8_undo_16 : decode cX8_undo 16 = .ok (.ifCond .eq 5, 3) := by decide +kernel
theorem dX8_undo_19 : decode cX8_undo 19 = .ok (.iconst 0, 1) := by decide +kernel
theorem dX8_undo_20 : decode cX8_undo 20 = .ok (.ireturn, 1) := by decide +kernel
theorem dX8_undo_21 : decode cX8_undo 21 = .ok (.aload_n 0, 1) := by decide +kernel
theorem dX8_undo_22 : decode cX8_undo 22 = .ok (.dup, 1) := by decide +kernel
theorem dX8_undo_23 : decode cX8_undo 23 = .ok (.getfield 42, 3) := by decide +kernel
theorem dX8_undo_26 : decode cX8_undo 26 = .ok (.iconst 1, 1) := by decide +kernel
theorem dX8_undo_27 : decode cX8_undo 27 = .ok (.isub, 1) := by decide +kernel
theorem dX8_undo_28 : decode cX8_undo 28 = .ok (.putfield 42, 3) := by decide +kernel
theorem dX8_undo_31 : decode cX8_undo 31 = .ok (.aload_n 0, 1) := by decide +kernel
theorem dX8_undo_32 : decode cX8_undo 32 = .ok (.getfield 22, 3) := by decide +kernel
theorem dX8_undo_35 : decode cX8_undo 35 = .ok (.sipush 357, 3) := by decide +kernel
theorem dX8_undo_38 : decode cX8_undo 38 = .ok (.aload_n 0, 1) := by decide +kernel
theorem dX8_undo_39 : decode cX8_undo 39 = .ok (.getfield 42, 3) := by decide +kernel
theorem dX8_undo_42 : decode cX8_undo 42 = .ok (.imul, 1) := by decide +kernel
theorem dX8_undo_43 : decode cX8_undo 43 = .ok (.aload_n 0, 1) := by decide +kernel
theorem dX8_undo_44 : decode cX8_undo 44 = .ok (.getfield 16, 3) := by decide +kernel
theorem dX8_undo_47 : decode cX8_undo 47 = .ok (.iconst 0, 1) := by decide +kernel
theorem dX8_undo_48 : decode cX8_undo 48 = .ok (.sipush 357, 3) := by decide +kernel
theorem dX8_undo_51 : decode cX8_undo 51 = .ok (.invokestatic 45, 3) := by decide +kernel
theorem dX8_undo_54 : decode cX8_undo 54 = .ok (.aload_n 0, 1) := by decide +kernel
theorem dX8_undo_55 : decode cX8_undo 55 = .ok (.getfield 42, 3) := by decide +kernel
theorem dX8_undo_58 : decode cX8_undo 58 = .ok (.ireturn, 1) := by decide +kernel
set_option maxRecDepth 20000 in
theorem ggX8_waitsStill_X8_waitAt : GoodIn wsX8_waitsStill wsX8_waitAt := goodIn_r _ [5] (by decide +kernel) (by decide +kernel)
set_option maxRecDepth 20000 in
theorem gX8_waitsStill_X8_waitAt : GoodIn wsX8_waitsStill (va_wsS RX8 60 yX8_waitAt wsX8_waitAt) := goodIn_app (goodIn_of _ (by decide +kernel)) ggX8_waitsStill_X8_waitAt
theorem dX8_waitsStill_0 : decode cX8_waitsStill 0 = .ok (.iconst 0, 1) := by decide +kernel
theorem dX8_waitsStill_1 : decode cX8_waitsStill 1 = .ok (.istore_n 2, 1) := by decide +kernel
theorem dX8_waitsStill_2 : decode cX8_waitsStill 2 = .ok (.iconst 0, 1) := by decide +kernel
theorem dX8_waitsStill_3 : decode cX8_waitsStill 3 = .ok (.istore_n 3, 1) := by decide +kernel
theorem dX8_waitsStill_4 : decode cX8_waitsStill 4 = .ok (.iload_n 3, 1) := by decide +kernel
theorem dX8_waitsStill_5 : decode cX8_waitsStill 5 = .ok (.aload_n 0, 1) := by decide +kernel
theorem dX8_waitsStill_6 : decode cX8_waitsStill 6 = .ok (.getfield 19, 3) := by decide +kernel
theorem dX8_waitsStill_9 : decode cX8_waitsStill 9 = .ok (.bipush 17, 2) := by decide +kernel
theorem dX8_waitsStill_11 : decode cX8_waitsStill 11 = .ok (.iaload, 1) := by decide +kernel
theorem dX8_waitsStill_12 : decode cX8_waitsStill 12 = .ok (.if_icmp .ge 33, 3) := by decide +kernel
theorem dX8_waitsStill_15 : decode cX8_waitsStill 15 = .ok (.iload_n 2, 1) := by decide +kernel
theorem dX8_waitsStill_16 : decode cX8_waitsStill 16 = .ok (.ifCond .ne 17, 3) := by decide +kernel
theorem dX8_waitsStill_19 : decode cX8_waitsStill 19 = .ok (.aload_n 0, 1) := by decide +kernel
theorem dX8_waitsStill_20 : decode cX8_waitsStill 20 = .ok (.getfield 19, 3) := by decide +kernel
theorem dX8_waitsStill_23 : decode cX8_waitsStill 23 = .ok (.iload_n 3, 1) := by decide +kernel
theorem dX8_waitsStill_24 : decode cX8_waitsStill 24 = .ok (.iconst 0, 1) := by decide +kernel
theorem dX8_waitsStill_25 : decode cX8_waitsStill 25 = .ok (.invokestatic 60, 3) := by decide +kernel
theorem dX8_waitsStill_28 : decode cX8_waitsStill 28 = .ok (.iaload, 1) := by decide +kernel
theorem dX8_waitsStill_29 : decode cX8_waitsStill 29 = .ok (.iload_n 1, 1) := by decide +kernel
theorem dX8_waitsStill_30 : decode cX8_waitsStill 30 = .ok (.if_icmp .ne 7, 3) := by decide +kernel
theorem dX8_waitsStill_33 : decode cX8_waitsStill 33 = .ok (.iconst 1, 1) := by decide +kernel
theorem dX8_waitsStill_34 : decode cX8_waitsStill 34 = .ok (.goto 4, 3) := by decide +kernel
theorem dX8_waitsStill_37 : decode cX8_waitsStill 37 = .ok (.iconst 0, 1) := by decide +kernel
theorem dX8_waitsStill_38 : decode cX8_waitsStill 38 = .ok (.istore_n 2, 1) := by decide +kernel
theorem dX8_waitsStill_39 : decode cX8_waitsStill 39 = .ok (.iinc 3 1, 3) := by decide +kernel
theorem dX8_waitsStill_42 : decode cX8_waitsStill 42 = .ok (.goto (-38), 3) := by decide +kernel
theorem dX8_waitsStill_45 : decode cX8_waitsStill 45 = .ok (.iload_n 2, 1) := by decide +kernel
theorem dX8_waitsStill_46 : decode cX8_waitsStill 46 = .ok (.ireturn, 1) := by decide +kernel
set_option maxRecDepth 20000 in
theorem ggX8_storedIn_X8_isWaiting : GoodIn wsX8_storedIn wsX8_isWaiting := goodIn_r _ [7, 2, 8, 9, 6, 10, 63, 64, 65, 66, 67, 68, 69, 70, 71, 72, 73, 74, 75] (by decide +kernel) (by decide +kernel)
set_option maxRecDepth 20000 in
theorem gX8_storedIn_X8_isWaiting : GoodIn wsX8_storedIn (wsV RX8 161 RX8 yX8_isWaiting wsX8_isWaiting) := goodIn_app (goodIn_of _ (by decide +kernel)) ggX8_storedIn_X8_isWaiting
set_option maxRecDepth 20000 in
theorem ggX8_storedIn_X8_refused : GoodIn wsX8_storedIn wsX8_refused := goodIn_r _ [14, 15, 63, 64, 65, 66, 67, 68, 69, 70, 71, 72, 73, 74, 75] (by decide +kernel) (by decide +kernel)
set_option maxRecDepth 20000 in
theorem gX8_storedIn_X8_refused : GoodIn wsX8_storedIn (wsV RX8 103 RX8 yX8_refused wsX8_refused) := goodIn_app (goodIn_of _ (by decide +kernel)) ggX8_storedIn_X8_refused
set_option maxRecDepth 20000 in
theorem ggX8_storedIn_X8_tryIt : GoodIn wsX8_storedIn wsX8_tryIt := goodIn_r _ [19, 2, 1, 20, 21, 6, 22, 63, 64, 65, 66, 67, 68, 69, 70, 71, 72, 73, 74, 75] (by decide +kernel) (by decide +kernel)
set_option maxRecDepth 20000 in
theorem gX8_storedIn_X8_tryIt : GoodIn wsX8_storedIn (wsV RX8 191 RX8 yX8_tryIt wsX8_tryIt) := goodIn_app (goodIn_of _ (by decide +kernel)) ggX8_storedIn_X8_tryIt
set_option maxRecDepth 20000 in
theorem ggX8_storedIn_X8_tick : GoodIn wsX8_storedIn wsX8_tick := goodIn_r _ [25, 26, 27, 6, 28, 29, 30, 31, 32, 33, 34, 35, 36, 37, 38, 39, 40, 20, 21, 22, 41, 42, 43, 44, 45, 46, 47, 48, 49, 50, 51, 52, 53, 54, 55, 56, 57, 58] (by decide +kernel) (by decide +kernel)
set_option maxRecDepth 20000 in
theorem gX8_storedIn_X8_tick : GoodIn wsX8_storedIn (va_wsS RX8 91 yX8_tick wsX8_tick) := goodIn_app (goodIn_of _ (by decide +kernel)) ggX8_storedIn_X8_tick
set_option maxRecDepth 20000 in
theorem ggX8_storedIn_X8_waitAt : GoodIn wsX8_storedIn wsX8_waitAt := goodIn_r _ [34] (by decide +kernel) (by decide +kernel)
set_option maxRecDepth 20000 in
theorem gX8_storedIn_X8_waitAt : GoodIn wsX8_storedIn (va_wsS RX8 60 yX8_waitAt wsX8_waitAt) := goodIn_app (goodIn_of _ (by decide +kernel)) ggX8_storedIn_X8_waitAt
set_option maxRecDepth 20000 in
theorem ggX8_storedIn_X8_waitsStill : GoodIn wsX8_storedIn wsX8_waitsStill := goodIn_r _ [62, 1, 32, 33, 6, 34, 63, 64, 65, 66, 67, 68, 69, 70, 71, 72, 73, 74, 75] (by decide +kernel) (by decide +kernel)
set_option maxRecDepth 20000 in
theorem gX8_storedIn_X8_waitsStill : GoodIn wsX8_storedIn (wsV RX8 194 RX8 yX8_waitsStill wsX8_waitsStill) := goodIn_app (goodIn_of _ (by decide +kernel)) ggX8_storedIn_X8_waitsStill
theorem dX8_storedIn_0 : decode cX8_storedIn 0 = .ok (.aload_n 0, 1) := by decide +kernel
theorem dX8_storedIn_1 : decode cX8_storedIn 1 = .ok (.aload_n 0, 1) := by decide +kernel
theorem dX8_storedIn_2 : decode cX8_storedIn 2 = .ok (.iload_n 1, 1) := by decide +kernel
theorem dX8_storedIn_3 : decode cX8_storedIn 3 = .ok (.invokevirtual 161, 3) := by decide +kernel
theorem dX8_storedIn_6 : decode cX8_storedIn 6 = .ok (.ifCond .eq 7, 3) := by decide +kernel
theorem dX8_storedIn_9 : decode cX8_storedIn 9 = .ok (.iconst 0, 1) := by decide +kernel
theorem dX8_storedIn_10 : decode cX8_storedIn 10 = .ok (.goto 4, 3) := by decide +kernel
theorem dX8_storedIn_13 : decode cX8_storedIn 13 = .ok (.iconst 1, 1) := by decide +kernel
theorem dX8_storedIn_14 : decode cX8_storedIn 14 = .ok (.invokevirtual 103, 3) := by decide +kernel
theorem dX8_storedIn_17 : decode cX8_storedIn 17 = .ok (.ifCond .eq 5, 3) := by decide +kernel
theorem dX8_storedIn_20 : decode cX8_storedIn 20 = .ok (.iconst 0, 1) := by decide +kernel
theorem dX8_storedIn_21 : decode cX8_storedIn 21 = .ok (.ireturn, 1) := by decide +kernel
theorem dX8_storedIn_22 : decode cX8_storedIn 22 = .ok (.aload_n 0, 1) := by decide +kernel
theorem dX8_storedIn_23 : decode cX8_storedIn 23 = .ok (.invokevirtual 191, 3) := by decide +kernel
theorem dX8_storedIn_26 : decode cX8_storedIn 26 = .ok (.iconst 1, 1) := by decide +kernel
theorem dX8_storedIn_27 : decode cX8_storedIn 27 = .ok (.istore_n 2, 1) := by decide +kernel
theorem dX8_storedIn_28 : decode cX8_storedIn 28 = .ok (.iload_n 2, 1) := by decide +kernel
theorem dX8_storedIn_29 : decode cX8_storedIn 29 = .ok (.bipush 100, 2) := by decide +kernel
theorem dX8_storedIn_31 : decode cX8_storedIn 31 = .ok (.if_icmp .ge 36, 3) := by decide +kernel
theorem dX8_storedIn_34 : decode cX8_storedIn 34 = .ok (.aload_n 0, 1) := by decide +kernel
theorem dX8_storedIn_35 : decode cX8_storedIn 35 = .ok (.getfield 19, 3) := by decide +kernel
theorem dX8_storedIn_38 : decode cX8_storedIn 38 = .ok (.invokestatic 91, 3) := by decide +kernel
theorem dX8_storedIn_41 : decode cX8_storedIn 41 = .ok (.pop, 1) := by decide +kernel
theorem dX8_storedIn_42 : decode cX8_storedIn 42 = .ok (.aload_n 0, 1) := by decide +kernel
theorem dX8_storedIn_43 : decode cX8_storedIn 43 = .ok (.aload_n 0, 1) := by decide +kernel
theorem dX8_storedIn_44 : decode cX8_storedIn 44 = .ok (.getfield 16, 3) := by decide +kernel
theorem dX8_storedIn_47 : decode cX8_storedIn 47 = .ok (.iload_n 1, 1) := by decide +kernel
theorem dX8_storedIn_48 : decode cX8_storedIn 48 = .ok (.iconst 0, 1) := by decide +kernel
theorem dX8_storedIn_49 : decode cX8_storedIn 49 = .ok (.invokestatic 60, 3) := by decide +kernel
theorem dX8_storedIn_52 : decode cX8_storedIn 52 = .ok (.iaload, 1) := by decide +kernel
theorem dX8_storedIn_53 : decode cX8_storedIn 53 = .ok (.invokevirtual 194, 3) := by decide +kernel
theorem dX8_storedIn_56 : decode cX8_storedIn 56 = .ok (.ifCond .ne 5, 3) := by decide +kernel
theorem dX8_storedIn_59 : decode cX8_storedIn 59 = .ok (.iload_n 2, 1) := by decide +kernel
theorem dX8_storedIn_60 : decode cX8_storedIn 60 = .ok (.ireturn, 1) := by decide +kernel
theorem dX8_storedIn_61 : decode cX8_storedIn 61 = .ok (.iinc 2 1, 3) := by decide +kernel
theorem dX8_storedIn_64 : decode cX8_storedIn 64 = .ok (.goto (-36), 3) := by decide +kernel
theorem dX8_storedIn_67 : decode cX8_storedIn 67 = .ok (.iconst (-1), 1) := by decide +kernel
theorem dX8_storedIn_68 : decode cX8_storedIn 68 = .ok (.ireturn, 1) := by decide +kernel
set_option maxRecDepth 20000 in
theorem ggX8_least_X8_leastOf : GoodIn wsX8_least wsX8_leastOf := goodIn_r _ [6, 7, 8, 5, 9, 10, 11, 12, 13, 14, 15] (by decide +kernel) (by decide +kernel)
set_option maxRecDepth 20000 in
theorem gX8_least_X8_leastOf : GoodIn wsX8_least (va_wsS RX8 81 yX8_leastOf wsX8_leastOf) := goodIn_app (goodIn_of _ (by decide +kernel)) ggX8_least_X8_leastOf
set_option maxRecDepth 20000 in
theorem ggX8_least_X8_keptAt : GoodIn wsX8_least wsX8_keptAt := goodIn_r _ [12] (by decide +kernel) (by decide +kernel)
set_option maxRecDepth 20000 in
theorem gX8_least_X8_keptAt : GoodIn wsX8_least (va_wsS RX8 49 yX8_keptAt wsX8_keptAt) := goodIn_app (goodIn_of _ (by decide +kernel)) ggX8_least_X8_keptAt
theorem dX8_least_0 : decode cX8_least 0 = .ok (.aload_n 0, 1) := by decide +kernel
theorem dX8_least_1 : decode cX8_least 1 = .ok (.iconst 0, 1) := by decide +kernel
theorem dX8_least_2 : decode cX8_least 2 = .ok (.putfield 36, 3) := by decide +kernel
theorem dX8_least_5 : decode cX8_least 5 = .ok (.aload_n 0, 1) := by decide +kernel
theorem dX8_least_6 : decode cX8_least 6 = .ok (.getfield 16, 3) := by decide +kernel
theorem dX8_least_9 : decode cX8_least 9 = .ok (.invokestatic 81, 3) := by decide +kernel
theorem dX8_least_12 : decode cX8_least 12 = .ok (.istore_n 1, 1) := by decide +kernel
theorem dX8_least_13 : decode cX8_least 13 = .ok (.iload_n 1, 1) := by decide +kernel
theorem dX8_least_14 : decode cX8_least 14 = .ok (.ifCond .ge 7, 3) := by decide +kernel
theorem dX8_least_17 : decode cX8_least 17 = .ok (.iconst (-1), 1) := by decide +kernel
theorem dX8_least_18 : decode cX8_least 18 = .ok (.goto 13, 3) := by decide +kernel
theorem dX8_least_21 : decode cX8_least 21 = .ok (.aload_n 0, 1) := by decide +kernel
theorem dX8_least_22 : decode cX8_least 22 = .ok (.getfield 16, 3) := by decide +kernel
theorem dX8_least_25 : decode cX8_least 25 = .ok (.iload_n 1, 1) := by decide +kernel
theorem dX8_least_26 : decode cX8_least 26 = .ok (.iconst 0, 1) := by decide +kernel
theorem dX8_least_27 : decode cX8_least 27 = .ok (.invokestatic 49, 3) := by decide +kernel
theorem dX8_least_30 : decode cX8_least 30 = .ok (.iaload, 1) := by decide +kernel
theorem dX8_least_31 : decode cX8_least 31 = .ok (.ireturn, 1) := by decide +kernel
set_option maxRecDepth 20000 in
theorem ggX8_room_X8_in : GoodIn wsX8_room wsX8_in := goodIn_r _ [6] (by decide +kernel) (by decide +kernel)
set_option maxRecDepth 20000 in
theorem gX8_room_X8_in : GoodIn wsX8_room (va_wsS RX8 96 yX8_in wsX8_in) := goodIn_app (goodIn_of _ (by decide +kernel)) ggX8_room_X8_in
set_option maxRecDepth 20000 in
theorem ggX8_room_X8_refused : GoodIn wsX8_room wsX8_refused := goodIn_r _ [10, 11, 18, 19, 20, 21, 22, 23, 24, 25, 26, 27, 28, 29, 30] (by decide +kernel) (by decide +kernel)
set_option maxRecDepth 20000 in
theorem gX8_room_X8_refused : GoodIn wsX8_room (wsV RX8 103 RX8 yX8_refused wsX8_refused) := goodIn_app (goodIn_of _ (by decide +kernel)) ggX8_room_X8_refused
set_option maxRecDepth 20000 in
theorem ggX8_room_X8_count : GoodIn wsX8_room wsX8_count := goodIn_r _ [14] (by decide +kernel) (by decide +kernel)
set_option maxRecDepth 20000 in
theorem gX8_room_X8_count : GoodIn wsX8_room (va_wsS RX8 67 yX8_count wsX8_count) := goodIn_app (goodIn_of _ (by decide +kernel)) ggX8_room_X8_count
set_option maxRecDepth 20000 in
theorem ggX8_room_X8_sizeOf : GoodIn wsX8_room wsX8_sizeOf := goodIn_r _ [17] (by decide +kernel) (by decide +kernel)
set_option maxRecDepth 20000 in
theorem gX8_room_X8_sizeOf : GoodIn wsX8_room (va_wsS RX8 56 yX8_sizeOf wsX8_sizeOf) := goodIn_app (goodIn_of _ (by decide +kernel)) ggX8_room_X8_sizeOf
theorem dX8_room_0 : decode cX8_room 0 = .ok (.aload_n 0, 1) := by decide +kernel
theorem dX8_room_1 : decode cX8_room 1 = .ok (.iload_n 1, 1) := by decide +kernel
theorem dX8_room_2 : decode cX8_room 2 = .ok (.i2l, 1) := by decide +kernel
theorem dX8_room_3 : decode cX8_room 3 = .ok (.lconst 0, 1) := by decide +kernel
theorem dX8_room_4 : decode cX8_room 4 = .ok (.ldc2_w 197, 3) := by decide +kernel
theorem dX8_room_7 : decode cX8_room 7 = .ok (.invokestatic 96, 3) := by decide +kernel
theorem dX8_room_10 : decode cX8_room 10 = .ok (.ifCond .eq 7, 3) := by decide +kernel
theorem dX8_room_13 : decode cX8_room 13 = .ok (.iconst 0, 1) := by decide +kernel
theorem dX8_room_14 : decode cX8_room 14 = .ok (.goto 4, 3) := by decide +kernel
theorem dX8_room_17 : decode cX8_room 17 = .ok (.iconst 1, 1) := by decide +kernel
theorem dX8_room_18 : decode cX8_room 18 = .ok (.invokevirtual 103, 3) := by decide +kernel
theorem dX8_room_21 : decode cX8_room 21 = .ok (.ifCond .eq 7, 3) := by decide +kernel
theorem dX8_room_24 : decode cX8_room 24 = .ok (.iconst 0, 1) := by decide +kernel
theorem dX8_room_25 : decode cX8_room 25 = .ok (.goto 26, 3) := by decide +kernel
theorem dX8_room_28 : decode cX8_room 28 = .ok (.aload_n 0, 1) := by decide +kernel
theorem dX8_room_29 : decode cX8_room 29 = .ok (.getfield 16, 3) := by decide +kernel
theorem dX8_room_32 : decode cX8_room 32 = .ok (.iconst (-1), 1) := by decide +kernel
theorem dX8_room_33 : decode cX8_room 33 = .ok (.invokestatic 67, 3) := by decide +kernel
theorem dX8_room_36 : decode cX8_room 36 = .ok (.aload_n 0, 1) := by decide +kernel
theorem dX8_room_37 : decode cX8_room 37 = .ok (.getfield 16, 3) := by decide +kernel
theorem dX8_room_40 : decode cX8_room 40 = .ok (.bipush (-2), 2) := by decide +kernel
theorem dX8_room_42 : decode cX8_room 42 = .ok (.invokestatic 67, 3) := by decide +kernel
theorem dX8_room_45 : decode cX8_room 45 = .ok (.iadd, 1) := by decide +kernel
theorem dX8_room_46 : decode cX8_room 46 = .ok (.iload_n 1, 1) := by decide +kernel
theorem dX8_room_47 : decode cX8_room 47 = .ok (.invokestatic 56, 3) := by decide +kernel
theorem dX8_room_50 : decode cX8_room 50 = .ok (.idiv, 1) := by decide +kernel
theorem dX8_room_51 : decode cX8_room 51 = .ok (.ireturn, 1) := by decide +kernel
set_option maxRecDepth 20000 in
theorem ggX8_leastPace_X8_tryIt : GoodIn wsX8_leastPace wsX8_tryIt := goodIn_r _ [8, 3, 2, 9, 10, 7, 11, 48, 49, 50, 51, 52, 53, 54, 55, 56, 57, 58, 59, 60] (by decide +kernel) (by decide +kernel)
set_option maxRecDepth 20000 in
theorem gX8_leastPace_X8_tryIt : GoodIn wsX8_leastPace (wsV RX8 191 RX8 yX8_tryIt wsX8_tryIt) := goodIn_app (goodIn_of _ (by decide +kernel)) ggX8_leastPace_X8_tryIt
set_option maxRecDepth 20000 in
theorem ggX8_leastPace_X8_tick : GoodIn wsX8_leastPace wsX8_tick := goodIn_r _ [14, 15, 16, 7, 17, 18, 19, 20, 21, 22, 23, 24, 25, 26, 27, 28, 29, 9, 10, 11, 30, 31, 32, 33, 34, 35, 36, 37, 38, 39, 40, 41, 42, 43, 44, 45, 46, 47] (by decide +kernel) (by decide +kernel)
set_option maxRecDepth 20000 in
theorem gX8_leastPace_X8_tick : GoodIn wsX8_leastPace (va_wsS RX8 91 yX8_tick wsX8_tick) := goodIn_app (goodIn_of _ (by decide +kernel)) ggX8_leastPace_X8_tick
theorem dX8_leastPace_0 : decode cX8_leastPace 0 = .ok (.aload_n 0, 1) := by decide +kernel
theorem dX8_leastPace_1 : decode cX8_leastPace 1 = .ok (.iconst 0, 1) := by decide +kernel
theorem dX8_leastPace_2 : decode cX8_leastPace 2 = .ok (.putfield 36, 3) := by decide +kernel
theorem dX8_leastPace_5 : decode cX8_leastPace 5 = .ok (.iconst 0, 1) := by decide +kernel
theorem dX8_leastPace_6 : decode cX8_leastPace 6 = .ok (.istore_n 1, 1) := by decide +kernel
theorem dX8_leastPace_7 : decode cX8_leastPace 7 = .ok (.iload_n 1, 1) := by decide +kernel
theorem dX8_leastPace_8 : decode cX8_leastPace 8 = .ok (.bipush 8, 2) := by decide +kernel
theorem dX8_leastPace_10 : decode cX8_leastPace 10 = .ok (.if_icmp .gt 63, 3) := by decide +kernel
theorem dX8_leastPace_13 : decode cX8_leastPace 13 = .ok (.aload_n 0, 1) := by decide +kernel
theorem dX8_leastPace_14 : decode cX8_leastPace 14 = .ok (.invokevirtual 191, 3) := by decide +kernel
theorem dX8_leastPace_17 : decode cX8_leastPace 17 = .ok (.aload_n 0, 1) := by decide +kernel
theorem dX8_leastPace_18 : decode cX8_leastPace 18 = .ok (.getfield 19, 3) := by decide +kernel
theorem dX8_leastPace_21 : decode cX8_leastPace 21 = .ok (.iconst 0, 1) := by decide +kernel
theorem dX8_leastPace_22 : decode cX8_leastPace 22 = .ok (.iload_n 1, 1) := by decide +kernel
theorem dX8_leastPace_23 : decode cX8_leastPace 23 = .ok (.iastore, 1) := by decide +kernel
theorem dX8_leastPace_24 : decode cX8_leastPace 24 = .ok (.iconst 0, 1) := by decide +kernel
theorem dX8_leastPace_25 : decode cX8_leastPace 25 = .ok (.istore_n 2, 1) := by decide +kernel
theorem dX8_leastPace_26 : decode cX8_leastPace 26 = .ok (.iload_n 2, 1) := by decide +kernel
theorem dX8_leastPace_27 : decode cX8_leastPace 27 = .ok (.iconst 5, 1) := by decide +kernel
theorem dX8_leastPace_28 : decode cX8_leastPace 28 = .ok (.if_icmp .ge 17, 3) := by decide +kernel
theorem dX8_leastPace_31 : decode cX8_leastPace 31 = .ok (.aload_n 0, 1) := by decide +kernel
theorem dX8_leastPace_32 : decode cX8_leastPace 32 = .ok (.getfield 19, 3) := by decide +kernel
theorem dX8_leastPace_35 : decode cX8_leastPace 35 = .ok (.invokestatic 91, 3) := by decide +kernel
theorem dX8_leastPace_38 : decode cX8_leastPace 38 = .ok (.pop, 1) := by decide +kernel
theorem dX8_leastPace_39 : decode cX8_leastPace 39 = .ok (.iinc 2 1, 3) := by decide +kernel
theorem dX8_leastPace_42 : decode cX8_leastPace 42 = .ok (.goto (-16), 3) := by decide +kernel
theorem dX8_leastPace_45 : decode cX8_leastPace 45 = .ok (.aload_n 0, 1) := by decide +kernel
theorem dX8_leastPace_46 : decode cX8_leastPace 46 = .ok (.getfield 16, 3) := by decide +kernel
theorem dX8_leastPace_49 : decode cX8_leastPace 49 = .ok (.bipush 17, 2) := by decide +kernel
theorem dX8_leastPace_51 : decode cX8_leastPace 51 = .ok (.iaload, 1) := by decide +kernel
theorem dX8_leastPace_52 : decode cX8_leastPace 52 = .ok (.ifCond .eq 13, 3) := by decide +kernel
theorem dX8_leastPace_55 : decode cX8_leastPace 55 = .ok (.aload_n 0, 1) := by decide +kernel
theorem dX8_leastPace_56 : decode cX8_leastPace 56 = .ok (.getfield 19, 3) := by decide +kernel
theorem dX8_leastPace_59 : decode cX8_leastPace 59 = .ok (.bipush 17, 2) := by decide +kernel
theorem dX8_leastPace_61 : decode cX8_leastPace 61 = .ok (.iaload, 1) := by decide +kernel
theorem dX8_leastPace_62 : decode cX8_leastPace 62 = .ok (.ifCond .ne 5, 3) := by decide +kernel
theorem dX8_leastPace_65 : decode cX8_leastPace 65 = .ok (.iload_n 1, 1) := by decide +kernel
theorem dX8_leastPace_66 : decode cX8_leastPace 66 = .ok (.ireturn, 1) := by decide +kernel
theorem dX8_leastPace_67 : decode cX8_leastPace 67 = .ok (.iinc 1 1, 3) := by decide +kernel
theorem dX8_leastPace_70 : decode cX8_leastPace 70 = .ok (.goto (-63), 3) := by decide +kernel
theorem dX8_leastPace_73 : decode cX8_leastPace 73 = .ok (.iconst (-1), 1) := by decide +kernel
theorem dX8_leastPace_74 : decode cX8_leastPace 74 = .ok (.ireturn, 1) := by decide +kernel
set_option maxRecDepth 20000 in
theorem ggX8_drops_X8_isPicture : GoodIn wsX8_drops wsX8_isPicture := goodIn_r _ [6, 7, 8, 9, 5, 10] (by decide +kernel) (by decide +kernel)
set_option maxRecDepth 20000 in
theorem gX8_drops_X8_isPicture : GoodIn wsX8_drops (va_wsS RX8 172 yX8_isPicture wsX8_isPicture) := goodIn_app (goodIn_of _ (by decide +kernel)) ggX8_drops_X8_isPicture
set_option maxRecDepth 20000 in
theorem ggX8_drops_X8_isTicks : GoodIn wsX8_drops wsX8_isTicks := goodIn_r _ [13, 14, 8, 9, 5, 10] (by decide +kernel) (by decide +kernel)
set_option maxRecDepth 20000 in
theorem gX8_drops_X8_isTicks : GoodIn wsX8_drops (va_wsS RX8 178 yX8_isTicks wsX8_isTicks) := goodIn_app (goodIn_of _ (by decide +kernel)) ggX8_drops_X8_isTicks
set_option maxRecDepth 20000 in
theorem ggX8_drops_X8_refused : GoodIn wsX8_drops wsX8_refused := goodIn_r _ [18, 19, 72, 73, 74, 75, 76, 77, 78, 79, 80, 81, 82, 83, 84] (by decide +kernel) (by decide +kernel)
set_option maxRecDepth 20000 in
theorem gX8_drops_X8_refused : GoodIn wsX8_drops (wsV RX8 103 RX8 yX8_refused wsX8_refused) := goodIn_app (goodIn_of _ (by decide +kernel)) ggX8_drops_X8_refused
set_option maxRecDepth 20000 in
theorem ggX8_drops_X8_tryIt : GoodIn wsX8_drops wsX8_tryIt := goodIn_r _ [23, 2, 1, 24, 25, 5, 26, 72, 73, 74, 75, 76, 77, 78, 79, 80, 81, 82, 83, 84] (by decide +kernel) (by decide +kernel)
set_option maxRecDepth 20000 in
theorem gX8_drops_X8_tryIt : GoodIn wsX8_drops (wsV RX8 191 RX8 yX8_tryIt wsX8_tryIt) := goodIn_app (goodIn_of _ (by decide +kernel)) ggX8_drops_X8_tryIt
set_option maxRecDepth 20000 in
theorem ggX8_drops_X8_shootIn : GoodIn wsX8_drops wsX8_shootIn := goodIn_r _ [29, 30, 31, 5, 32, 33, 34, 35, 36, 37, 38] (by decide +kernel) (by decide +kernel)
set_option maxRecDepth 20000 in
theorem gX8_drops_X8_shootIn : GoodIn wsX8_drops (va_wsS RX8 123 yX8_shootIn wsX8_shootIn) := goodIn_app (goodIn_of _ (by decide +kernel)) ggX8_drops_X8_shootIn
set_option maxRecDepth 20000 in
theorem ggX8_drops_X8_ticksIn : GoodIn wsX8_drops wsX8_ticksIn := goodIn_r _ [41, 42, 43, 5, 44, 45, 46, 47, 48, 49, 50, 36, 37, 38, 51, 52, 53, 54, 55, 56, 24, 25, 26, 57, 58, 59, 60, 61, 62, 63, 64, 65, 30, 31, 32, 66, 67, 68, 69, 70, 71] (by decide +kernel) (by decide +kernel)
set_option maxRecDepth 20000 in
theorem gX8_drops_X8_ticksIn : GoodIn wsX8_drops (va_wsS RX8 141 yX8_ticksIn wsX8_ticksIn) := goodIn_app (goodIn_of _ (by decide +kernel)) ggX8_drops_X8_ticksIn
theorem dX8_drops_0 : decode cX8_drops 0 = .ok (.aload_n 0, 1) := by decide +kernel
theorem dX8_drops_1 : decode cX8_drops 1 = .ok (.iload_n 1, 1) := by decide +kernel
theorem dX8_drops_2 : decode cX8_drops 2 = .ok (.invokestatic 172, 3) := by decide +kernel
theorem dX8_drops_5 : decode cX8_drops 5 = .ok (.ifCond .eq 14, 3) := by decide +kernel
theorem dX8_drops_8 : decode cX8_drops 8 = .ok (.iload_n 2, 1) := by decide +kernel
theorem dX8_drops_9 : decode cX8_drops 9 = .ok (.invokestatic 178, 3) := by decide +kernel
theorem dX8_drops_12 : decode cX8_drops 12 = .ok (.ifCond .eq 7, 3) := by decide +kernel
theorem dX8_drops_15 : decode cX8_drops 15 = .ok (.iconst 0, 1) := by decide +kernel
theorem dX8_drops_16 : decode cX8_drops 16 = .ok (.goto 4, 3) := by decide +kernel
theorem dX8_drops_19 : decode cX8_drops 19 = .ok (.iconst 1, 1) := by decide +kernel
theorem dX8_drops_20 : decode cX8_drops 20 = .ok (.invokevirtual 103, 3) := by decide +kernel
theorem dX8_drops_23 : decode cX8_drops 23 = .ok (.ifCond .eq 5, 3) := by decide +kernel
theorem dX8_drops_26 : decode cX8_drops 26 = .ok (.iconst 0, 1) := by decide +kernel
theorem dX8_drops_27 : decode cX8_drops 27 = .ok (.ireturn, 1) := by decide +kernel
theorem dX8_drops_28 : decode cX8_drops 28 = .ok (.aload_n 0, 1) := by decide +kernel
theorem dX8_drops_29 : decode cX8_drops 29 = .ok (.invokevirtual 191, 3) := by decide +kernel
theorem dX8_drops_32 : decode cX8_drops 32 = .ok (.aload_n 0, 1) := by decide +kernel
theorem dX8_drops_33 : decode cX8_drops 33 = .ok (.getfield 19, 3) := by decide +kernel
theorem dX8_drops_36 : decode cX8_drops 36 = .ok (.iload_n 1, 1) := by decide +kernel
theorem dX8_drops_37 : decode cX8_drops 37 = .ok (.invokestatic 123, 3) := by decide +kernel
theorem dX8_drops_40 : decode cX8_drops 40 = .ok (.pop, 1) := by decide +kernel
theorem dX8_drops_41 : decode cX8_drops 41 = .ok (.aload_n 0, 1) := by decide +kernel
theorem dX8_drops_42 : decode cX8_drops 42 = .ok (.getfield 19, 3) := by decide +kernel
theorem dX8_drops_45 : decode cX8_drops 45 = .ok (.iload_n 2, 1) := by decide +kernel
theorem dX8_drops_46 : decode cX8_drops 46 = .ok (.invokestatic 141, 3) := by decide +kernel
theorem dX8_drops_49 : decode cX8_drops 49 = .ok (.pop, 1) := by decide +kernel
theorem dX8_drops_50 : decode cX8_drops 50 = .ok (.aload_n 0, 1) := by decide +kernel
theorem dX8_drops_51 : decode cX8_drops 51 = .ok (.getfield 19, 3) := by decide +kernel
theorem dX8_drops_54 : decode cX8_drops 54 = .ok (.bipush 6, 2) := by decide +kernel
theorem dX8_drops_56 : decode cX8_drops 56 = .ok (.iaload, 1) := by decide +kernel
theorem dX8_drops_57 : decode cX8_drops 57 = .ok (.aload_n 0, 1) := by decide +kernel
theorem dX8_drops_58 : decode cX8_drops 58 = .ok (.getfield 16, 3) := by decide +kernel
theorem dX8_drops_61 : decode cX8_drops 61 = .ok (.bipush 6, 2) := by decide +kernel
theorem dX8_drops_63 : decode cX8_drops 63 = .ok (.iaload, 1) := by decide +kernel
theorem dX8_drops_64 : decode cX8_drops 64 = .ok (.isub, 1) := by decide +kernel
theorem dX8_drops_65 : decode cX8_drops 65 = .ok (.ireturn, 1) := by decide +kernel
set_option maxRecDepth 20000 in
theorem ggX8_goes_X8_isTicks : GoodIn wsX8_goes wsX8_isTicks := goodIn_r _ [5, 6, 7, 8, 4, 9] (by decide +kernel) (by decide +kernel)
set_option maxRecDepth 20000 in
theorem gX8_goes_X8_isTicks : GoodIn wsX8_goes (va_wsS RX8 178 yX8_isTicks wsX8_isTicks) := goodIn_app (goodIn_of _ (by decide +kernel)) ggX8_goes_X8_isTicks
set_option maxRecDepth 20000 in
theorem ggX8_goes_X8_ticksIn : GoodIn wsX8_goes wsX8_ticksIn := goodIn_r _ [12, 13, 14, 4, 15, 16, 17, 18, 19, 20, 21, 22, 23, 24, 25, 26, 27, 28, 29, 30, 31, 32, 33, 34, 35, 36, 37, 38, 39, 40, 41, 42, 43, 44, 45, 46, 47, 48, 49, 50, 51] (by decide +kernel) (by decide +kernel)
set_option maxRecDepth 20000 in
theorem gX8_goes_X8_ticksIn : GoodIn wsX8_goes (va_wsS RX8 141 yX8_ticksIn wsX8_ticksIn) := goodIn_app (goodIn_of _ (by decide +kernel)) ggX8_goes_X8_ticksIn
theorem dX8_goes_0 : decode cX8_goes 0 = .ok (.iload_n 1, 1) := by decide +kernel
theorem dX8_goes_1 : decode cX8_goes 1 = .ok (.invokestatic 178, 3) := by decide +kernel
theorem dX8_goes_4 : decode cX8_goes 4 = .ok (.ifCond .ne 5, 3) := by decide +kernel
theorem dX8_goes_7 : decode cX8_goes 7 = .ok (.iconst 0, 1) := by decide +kernel
theorem dX8_goes_8 : decode cX8_goes 8 = .ok (.ireturn, 1) := by decide +kernel
theorem dX8_goes_9 : decode cX8_goes 9 = .ok (.aload_n 0, 1) := by decide +kernel
theorem dX8_goes_10 : decode cX8_goes 10 = .ok (.getfield 19, 3) := by decide +kernel
theorem dX8_goes_13 : decode cX8_goes 13 = .ok (.iload_n 1, 1) := by decide +kernel
theorem dX8_goes_14 : decode cX8_goes 14 = .ok (.invokestatic 141, 3) := by decide +kernel
theorem dX8_goes_17 : decode cX8_goes 17 = .ok (.pop, 1) := by decide +kernel
theorem dX8_goes_18 : decode cX8_goes 18 = .ok (.iconst 1, 1) := by decide +kernel
theorem dX8_goes_19 : decode cX8_goes 19 = .ok (.ireturn, 1) := by decide +kernel
set_option maxRecDepth 20000 in
theorem ggX8_dropsOne_X8_dropIn : GoodIn wsX8_dropsOne wsX8_dropIn := goodIn_r _ [5, 6, 7, 4, 8, 9, 10, 11] (by decide +kernel) (by decide +kernel)
set_option maxRecDepth 20000 in
theorem gX8_dropsOne_X8_dropIn : GoodIn wsX8_dropsOne (va_wsS RX8 85 yX8_dropIn wsX8_dropIn) := goodIn_app (goodIn_of _ (by decide +kernel)) ggX8_dropsOne_X8_dropIn
theorem dX8_dropsOne_0 : decode cX8_dropsOne 0 = .ok (.iload_n 1, 1) := by decide +kernel
theorem dX8_dropsOne_1 : decode cX8_dropsOne 1 = .ok (.aload_n 0, 1) := by decide +kernel
theorem dX8_dropsOne_2 : decode cX8_dropsOne 2 = .ok (.getfield 19, 3) := by decide +kernel
theorem dX8_dropsOne_5 : decode cX8_dropsOne 5 = .ok (.bipush 16, 2) := by decide +kernel
theorem dX8_dropsOne_7 : decode cX8_dropsOne 7 = .ok (.iaload, 1) := by decide +kernel
theorem dX8_dropsOne_8 : decode cX8_dropsOne 8 = .ok (.if_icmp .lt 5, 3) := by decide +kernel
theorem dX8_dropsOne_11 : decode cX8_dropsOne 11 = .ok (.iconst 0, 1) := by decide +kernel
theorem dX8_dropsOne_12 : decode cX8_dropsOne 12 = .ok (.ireturn, 1) := by decide +kernel
theorem dX8_dropsOne_13 : decode cX8_dropsOne 13 = .ok (.aload_n 0, 1) := by decide +kernel
theorem dX8_dropsOne_14 : decode cX8_dropsOne 14 = .ok (.getfield 19, 3) := by decide +kernel
theorem dX8_dropsOne_17 : decode cX8_dropsOne 17 = .ok (.iload_n 1, 1) := by decide +kernel
theorem dX8_dropsOne_18 : decode cX8_dropsOne 18 = .ok (.invokestatic 85, 3) := by decide +kernel
theorem dX8_dropsOne_21 : decode cX8_dropsOne 21 = .ok (.pop, 1) := by decide +kernel
theorem dX8_dropsOne_22 : decode cX8_dropsOne 22 = .ok (.iconst 1, 1) := by decide +kernel
theorem dX8_dropsOne_23 : decode cX8_dropsOne 23 = .ok (.ireturn, 1) := by decide +kernel
set_option maxRecDepth 20000 in
theorem ggX8_sets_X8_isSetting : GoodIn wsX8_sets wsX8_isSetting := goodIn_r _ [5, 6, 7, 8, 9, 10, 4, 11] (by decide +kernel) (by decide +kernel)
set_option maxRecDepth 20000 in
theorem gX8_sets_X8_isSetting : GoodIn wsX8_sets (va_wsS RX8 187 yX8_isSetting wsX8_isSetting) := goodIn_app (goodIn_of _ (by decide +kernel)) ggX8_sets_X8_isSetting
theorem dX8_sets_0 : decode cX8_sets 0 = .ok (.iload_n 1, 1) := by decide +kernel
theorem dX8_sets_1 : decode cX8_sets 1 = .ok (.iload_n 2, 1) := by decide +kernel
theorem dX8_sets_2 : decode cX8_sets 2 = .ok (.invokestatic 187, 3) := by decide +kernel
theorem dX8_sets_5 : decode cX8_sets 5 = .ok (.ifCond .ne 5, 3) := by decide +kernel
theorem dX8_sets_8 : decode cX8_sets 8 = .ok (.iconst 0, 1) := by decide +kernel
theorem dX8_sets_9 : decode cX8_sets 9 = .ok (.ireturn, 1) := by decide +kernel
theorem dX8_sets_10 : decode cX8_sets 10 = .ok (.aload_n 0, 1) := by decide +kernel
theorem dX8_sets_11 : decode cX8_sets 11 = .ok (.getfield 19, 3) := by decide +kernel
theorem dX8_sets_14 : decode cX8_sets 14 = .ok (.iload_n 1, 1) := by decide +kernel
theorem dX8_sets_15 : decode cX8_sets 15 = .ok (.iload_n 2, 1) := by decide +kernel
theorem dX8_sets_16 : decode cX8_sets 16 = .ok (.iastore, 1) := by decide +kernel
theorem dX8_sets_17 : decode cX8_sets 17 = .ok (.iconst 1, 1) := by decide +kernel
theorem dX8_sets_18 : decode cX8_sets 18 = .ok (.ireturn, 1) := by decide +kernel
set_option maxRecDepth 20000 in
theorem ggX8_keeps_X8_keptAt : GoodIn wsX8_keeps wsX8_keptAt := goodIn_r _ [5] (by decide +kernel) (by decide +kernel)
set_option maxRecDepth 20000 in
theorem gX8_keeps_X8_keptAt : GoodIn wsX8_keeps (va_wsS RX8 49 yX8_keptAt wsX8_keptAt) := goodIn_app (goodIn_of _ (by decide +kernel)) ggX8_keeps_X8_keptAt
theorem dX8_keeps_0 : decode cX8_keeps 0 = .ok (.iconst 0, 1) := by decide +kernel
theorem dX8_keeps_1 : decode cX8_keeps 1 = .ok (.istore_n 2, 1) := by decide +kernel
theorem dX8_keeps_2 : decode cX8_keeps 2 = .ok (.iconst 0, 1) := by decide +kernel
theorem dX8_keeps_3 : decode cX8_keeps 3 = .ok (.istore_n 3, 1) := by decide +kernel
theorem dX8_keeps_4 : decode cX8_keeps 4 = .ok (.iload_n 3, 1) := by decide +kernel
theorem dX8_keeps_5 : decode cX8_keeps 5 = .ok (.aload_n 0, 1) := by decide +kernel
theorem dX8_keeps_6 : decode cX8_keeps 6 = .ok (.getfield 19, 3) := by decide +kernel
theorem dX8_keeps_9 : decode cX8_keeps 9 = .ok (.bipush 16, 2) := by decide +kernel
theorem dX8_keeps_11 : decode cX8_keeps 11 = .ok (.iaload, 1) := by decide +kernel
theorem dX8_keeps_12 : decode cX8_keeps 12 = .ok (.if_icmp .ge 33, 3) := by decide +kernel
theorem dX8_keeps_15 : decode cX8_keeps 15 = .ok (.iload_n 2, 1) := by decide +kernel
theorem dX8_keeps_16 : decode cX8_keeps 16 = .ok (.ifCond .ne 17, 3) := by decide +kernel
theorem dX8_keeps_19 : decode cX8_keeps 19 = .ok (.aload_n 0, 1) := by decide +kernel
theorem dX8_keeps_20 : decode cX8_keeps 20 = .ok (.getfield 19, 3) := by decide +kernel
theorem dX8_keeps_23 : decode cX8_keeps 23 = .ok (.iload_n 3, 1) := by decide +kernel
theorem dX8_keeps_24 : decode cX8_keeps 24 = .ok (.iconst 0, 1) := by decide +kernel
theorem dX8_keeps_25 : decode cX8_keeps 25 = .ok (.invokestatic 49, 3) := by decide +kernel
theorem dX8_keeps_28 : decode cX8_keeps 28 = .ok (.iaload, 1) := by decide +kernel
theorem dX8_keeps_29 : decode cX8_keeps 29 = .ok (.iload_n 1, 1) := by decide +kernel
theorem dX8_keeps_30 : decode cX8_keeps 30 = .ok (.if_icmp .ne 7, 3) := by decide +kernel
theorem dX8_keeps_33 : decode cX8_keeps 33 = .ok (.iconst 1, 1) := by decide +kernel
theorem dX8_keeps_34 : decode cX8_keeps 34 = .ok (.goto 4, 3) := by decide +kernel
theorem dX8_keeps_37 : decode cX8_keeps 37 = .ok (.iconst 0, 1) := by decide +kernel
theorem dX8_keeps_38 : decode cX8_keeps 38 = .ok (.istore_n 2, 1) := by decide +kernel
theorem dX8_keeps_39 : decode cX8_keeps 39 = .ok (.iinc 3 1, 3) := by decide +kernel
theorem dX8_keeps_42 : decode cX8_keeps 42 = .ok (.goto (-38), 3) := by decide +kernel
theorem dX8_keeps_45 : decode cX8_keeps 45 = .ok (.iload_n 2, 1) := by decide +kernel
theorem dX8_keeps_46 : decode cX8_keeps 46 = .ok (.ireturn, 1) := by decide +kernel
set_option maxRecDepth 20000 in
theorem ggX8_does_X8_shootIn : GoodIn wsX8_does wsX8_shootIn := goodIn_r _ [7, 8, 9, 6, 10, 11, 12, 13, 14, 15, 16] (by decide +kernel) (by decide +kernel)
set_option maxRecDepth 20000 in
theorem gX8_does_X8_shootIn : GoodIn wsX8_does (va_wsS RX8 123 yX8_shootIn wsX8_shootIn) := goodIn_app (goodIn_of _ (by decide +kernel)) ggX8_does_X8_shootIn
set_option maxRecDepth 20000 in
theorem ggX8_does_X8_goes : GoodIn wsX8_does wsX8_goes := goodIn_r _ [20, 2, 21, 22, 6, 23, 24, 25, 26, 27, 28, 29, 30, 31, 32, 33, 34, 35, 36, 37, 38, 39, 14, 15, 16, 40, 41, 42, 43, 44, 45, 46, 47, 48, 49, 50, 51, 52, 53, 54, 55, 56, 57, 8, 9, 10, 58, 59, 60, 61, 62, 63, 82, 83, 84, 85, 86, 87, 88, 89, 90, 91, 92, 93, 94] (by decide +kernel) (by decide +kernel)
set_option maxRecDepth 20000 in
theorem gX8_does_X8_goes : GoodIn wsX8_does (wsV RX8 200 RX8 yX8_goes wsX8_goes) := goodIn_app (goodIn_of _ (by decide +kernel)) ggX8_does_X8_goes
set_option maxRecDepth 20000 in
theorem ggX8_does_X8_dropsOne : GoodIn wsX8_does wsX8_dropsOne := goodIn_r _ [67, 2, 58, 59, 6, 60, 43, 44, 45, 46, 47, 48, 82, 83, 84, 85, 86, 87, 88, 89, 90, 91, 92, 93, 94] (by decide +kernel) (by decide +kernel)
set_option maxRecDepth 20000 in
theorem gX8_does_X8_dropsOne : GoodIn wsX8_does (wsV RX8 203 RX8 yX8_dropsOne wsX8_dropsOne) := goodIn_app (goodIn_of _ (by decide +kernel)) ggX8_does_X8_dropsOne
set_option maxRecDepth 20000 in
theorem ggX8_does_X8_sets : GoodIn wsX8_does wsX8_sets := goodIn_r _ [71, 2, 72, 73, 6, 74, 75, 76, 77, 25, 26, 27, 82, 83, 84, 85, 86, 87, 88, 89, 90, 91, 92, 93, 94] (by decide +kernel) (by decide +kernel)
set_option maxRecDepth 20000 in
theorem gX8_does_X8_sets : GoodIn wsX8_does (wsV RX8 207 RX8 yX8_sets wsX8_sets) := goodIn_app (goodIn_of _ (by decide +kernel)) ggX8_does_X8_sets
set_option maxRecDepth 20000 in
theorem ggX8_does_X8_count : GoodIn wsX8_does wsX8_count := goodIn_r _ [39] (by decide +kernel) (by decide +kernel)
set_option maxRecDepth 20000 in
theorem gX8_does_X8_count : GoodIn wsX8_does (va_wsS RX8 67 yX8_count wsX8_count) := goodIn_app (goodIn_of _ (by decide +kernel)) ggX8_does_X8_count
set_option maxRecDepth 20000 in
theorem ggX8_does_X8_keeps : GoodIn wsX8_does wsX8_keeps := goodIn_r _ [81, 2, 43, 44, 6, 45, 82, 83, 84, 85, 86, 87, 88, 89, 90, 91, 92, 93, 94] (by decide +kernel) (by decide +kernel)
set_option maxRecDepth 20000 in
theorem gX8_does_X8_keeps : GoodIn wsX8_does (wsV RX8 210 RX8 yX8_keeps wsX8_keeps) := goodIn_app (goodIn_of _ (by decide +kernel)) ggX8_does_X8_keeps
theorem dX8_does_0 : decode cX8_does 0 = .ok (.iload_n 1, 1) := by decide +kernel
theorem dX8_does_1 : decode cX8_does 1 = .ok (.ldc 199, 2) := by decide +kernel
theorem dX8_does_3 : decode cX8_does 3 = .ok (.idiv, 1) := by decide +kernel
theorem dX8_does_4 : decode cX8_does 4 = .ok (.istore_n 2, 1) := by decide +kernel
theorem dX8_does_5 : decode cX8_does 5 = .ok (.iload_n 1, 1) := by decide +kernel
theorem dX8_does_6 : decode cX8_does 6 = .ok (.ldc 199, 2) := by decide +kernel
theorem dX8_does_8 : decode cX8_does 8 = .ok (.irem, 1) := by decide +kernel
theorem dX8_does_9 : decode cX8_does 9 = .ok (.istore_n 3, 1) := by decide +kernel
theorem dX8_does_10 : decode cX8_does 10 = .ok (.iload_n 1, 1) := by decide +kernel
theorem dX8_does_11 : decode cX8_does 11 = .ok (.bipush 100, 2) := by decide +kernel
theorem dX8_does_13 : decode cX8_does 13 = .ok (.irem, 1) := by decide +kernel
theorem dX8_does_14 : decode cX8_does 14 = .ok (.istore 4, 2) := by decide +kernel
theorem dX8_does_16 : decode cX8_does 16 = .ok (.iload_n 3, 1) := by decide +kernel
theorem dX8_does_17 : decode cX8_does 17 = .ok (.bipush 100, 2) := by decide +kernel
theorem dX8_does_19 : decode cX8_does 19 = .ok (.if_icmp .ge 7, 3) := by decide +kernel
theorem dX8_does_22 : decode cX8_does 22 = .ok (.iconst 1, 1) := by decide +kernel
theorem dX8_does_23 : decode cX8_does 23 = .ok (.goto 4, 3) := by decide +kernel
theorem dX8_does_26 : decode cX8_does 26 = .ok (.iconst 0, 1) := by decide +kernel
theorem dX8_does_27 : decode cX8_does 27 = .ok (.istore 5, 2) := by decide +kernel
theorem dX8_does_29 : decode cX8_does 29 = .ok (.iload_n 2, 1) := by decide +kernel
theorem dX8_does_30 : decode cX8_does 30 = .ok (.tableswitch 245 1 9 #[50, 61, 81, 101, 131, 154, 177, 200, 224], 50) := by decide +kernel
theorem dX8_does_80 : decode cX8_does 80 = .ok (.aload_n 0, 1) := by decide +kernel
theorem dX8_does_81 : decode cX8_does 81 = .ok (.getfield 19, 3) := by decide +kernel
theorem dX8_does_84 : decode cX8_does 84 = .ok (.iload_n 3, 1) := by decide +kernel
theorem dX8_does_85 : decode cX8_does 85 = .ok (.invokestatic 123, 3) := by decide +kernel
theorem dX8_does_88 : decode cX8_does 88 = .ok (.pop, 1) := by decide +kernel
theorem dX8_does_89 : decode cX8_does 89 = .ok (.iconst 1, 1) := by decide +kernel
theorem dX8_does_90 : decode cX8_does 90 = .ok (.ireturn, 1) := by decide +kernel
theorem dX8_does_91 : decode cX8_does 91 = .ok (.iload 5, 2) := by decide +kernel
theorem dX8_does_93 : decode cX8_does 93 = .ok (.ifCond .eq 16, 3) := by decide +kernel
theorem dX8_does_96 : decode cX8_does 96 = .ok (.aload_n 0, 1) := by decide +kernel
theorem dX8_does_97 : decode cX8_does 97 = .ok (.iload 4, 2) := by decide +kernel
theorem dX8_does_99 : decode cX8_does 99 = .ok (.invokevirtual 200, 3) := by decide +kernel
theorem dX8_does_102 : decode cX8_does 102 = .ok (.ifCond .eq 7, 3) := by decide +kernel
theorem dX8_does_105 : decode cX8_does 105 = .ok (.iconst 1, 1) := by decide +kernel
theorem dX8_does_106 : decode cX8_does 106 = .ok (.goto 4, 3) := by decide +kernel
theorem dX8_does_109 : decode cX8_does 109 = .ok (.iconst 0, 1) := by decide +kernel
theorem dX8_does_110 : decode cX8_does 110 = .ok (.ireturn, 1) := by decide +kernel
theorem dX8_does_111 : decode cX8_does 111 = .ok (.iload 5, 2) := by decide +kernel
theorem dX8_does_113 : decode cX8_does 113 = .ok (.ifCond .eq 16, 3) := by decide +kernel
theorem dX8_does_116 : decode cX8_does 116 = .ok (.aload_n 0, 1) := by decide +kernel
theorem dX8_does_117 : decode cX8_does 117 = .ok (.iload 4, 2) := by decide +kernel
theorem dX8_does_119 : decode cX8_does 119 = .ok (.invokevirtual 203, 3) := by decide +kernel
theorem dX8_does_122 : decode cX8_does 122 = .ok (.ifCond .eq 7, 3) := by decide +kernel
theorem dX8_does_125 : decode cX8_does 125 = .ok (.iconst 1, 1) := by decide +kernel
theorem dX8_does_126 : decode cX8_does 126 = .ok (.goto 4, 3) := by decide +kernel
theorem dX8_does_129 : decode cX8_does 129 = .ok (.iconst 0, 1) := by decide +kernel
theorem dX8_does_130 : decode cX8_does 130 = .ok (.ireturn, 1) := by decide +kernel
theorem dX8_does_131 : decode cX8_does 131 = .ok (.iload_n 3, 1) := by decide +kernel
theorem dX8_does_132 : decode cX8_does 132 = .ok (.bipush 100, 2) := by decide +kernel
theorem dX8_does_134 : decode cX8_does 134 = .ok (.idiv, 1) := by decide +kernel
theorem dX8_does_135 : decode cX8_does 135 = .ok (.sipush 1000, 3) := by decide +kernel
theorem dX8_does_138 : decode cX8_does 138 = .ok (.irem, 1) := by decide +kernel
theorem dX8_does_139 : decode cX8_does 139 = .ok (.ifCond .ne 20, 3) := by decide +kernel
theorem dX8_does_142 : decode cX8_does 142 = .ok (.aload_n 0, 1) := by decide +kernel
theorem dX8_does_143 : decode cX8_does 143 = .ok (.iload_n 3, 1) := by decide +kernel
theorem dX8_does_144 : decode cX8_does 144 = .ok (.ldc 206, 2) := by decide +kernel
theorem dX8_does_146 : decode cX8_does 146 = .ok (.idiv, 1) := by decide +kernel
theorem dX8_does_147 : decode cX8_does 147 = .ok (.iload 4, 2) := by decide +kernel
theorem dX8_does_149 : decode cX8_does 149 = .ok (.invokevirtual 207, 3) := by decide +kernel
theorem dX8_does_152 : decode cX8_does 152 = .ok (.ifCond .eq 7, 3) := by decide +kernel
theorem dX8_does_155 : decode cX8_does 155 = .ok (.iconst 1, 1) := by decide +kernel
theorem dX8_does_156 : decode cX8_does 156 = .ok (.goto 4, 3) := by decide +kernel
theorem dX8_does_159 : decode cX8_does 159 = .ok (.iconst 0, 1) := by decide +kernel
theorem dX8_does_160 : decode cX8_does 160 = .ok (.ireturn, 1) := by decide +kernel
theorem dX8_does_161 : decode cX8_does 161 = .ok (.iload 5, 2) := by decide +kernel
theorem dX8_does_163 : decode cX8_does 163 = .ok (.ifCond .eq 19, 3) := by decide +kernel
theorem dX8_does_166 : decode cX8_does 166 = .ok (.aload_n 0, 1) := by decide +kernel
theorem dX8_does_167 : decode cX8_does 167 = .ok (.getfield 19, 3) := by decide +kernel
theorem dX8_does_170 : decode cX8_does 170 = .ok (.bipush 16, 2) := by decide +kernel
theorem dX8_does_172 : decode cX8_does 172 = .ok (.iaload, 1) := by decide +kernel
theorem dX8_does_173 : decode cX8_does 173 = .ok (.iload 4, 2) := by decide +kernel
theorem dX8_does_175 : decode cX8_does 175 = .ok (.if_icmp .lt 7, 3) := by decide +kernel
theorem dX8_does_178 : decode cX8_does 178 = .ok (.iconst 1, 1) := by decide +kernel
theorem dX8_does_179 : decode cX8_does 179 = .ok (.goto 4, 3) := by decide +kernel
theorem dX8_does_182 : decode cX8_does 182 = .ok (.iconst 0, 1) := by decide +kernel
theorem dX8_does_183 : decode cX8_does 183 = .ok (.ireturn, 1) := by decide +kernel
theorem dX8_does_184 : decode cX8_does 184 = .ok (.iload 5, 2) := by decide +kernel
theorem dX8_does_186 : decode cX8_does 186 = .ok (.ifCond .eq 19, 3) := by decide +kernel
theorem dX8_does_189 : decode cX8_does 189 = .ok (.aload_n 0, 1) := by decide +kernel
theorem dX8_does_190 : decode cX8_does 190 = .ok (.getfield 19, 3) := by decide +kernel
theorem dX8_does_193 : decode cX8_does 193 = .ok (.bipush 6, 2) := by decide +kernel
theorem dX8_does_195 : decode cX8_does 195 = .ok (.iaload, 1) := by decide +kernel
theorem dX8_does_196 : decode cX8_does 196 = .ok (.iload 4, 2) := by decide +kernel
theorem dX8_does_198 : decode cX8_does 198 = .ok (.if_icmp .gt 7, 3) := by decide +kernel
theorem dX8_does_201 : decode cX8_does 201 = .ok (.iconst 1, 1) := by decide +kernel
theorem dX8_does_202 : decode cX8_does 202 = .ok (.goto 4, 3) := by decide +kernel
theorem dX8_does_205 : decode cX8_does 205 = .ok (.iconst 0, 1) := by decide +kernel
theorem dX8_does_206 : decode cX8_does 206 = .ok (.ireturn, 1) := by decide +kernel
theorem dX8_does_207 : decode cX8_does 207 = .ok (.iload 5, 2) := by decide +kernel
theorem dX8_does_209 : decode cX8_does 209 = .ok (.ifCond .eq 19, 3) := by decide +kernel
theorem dX8_does_212 : decode cX8_does 212 = .ok (.aload_n 0, 1) := by decide +kernel
theorem dX8_does_213 : decode cX8_does 213 = .ok (.getfield 19, 3) := by decide +kernel
theorem dX8_does_216 : decode cX8_does 216 = .ok (.bipush 10, 2) := by decide +kernel
theorem dX8_does_218 : decode cX8_does 218 = .ok (.iaload, 1) := by decide +kernel
theorem dX8_does_219 : decode cX8_does 219 = .ok (.iload 4, 2) := by decide +kernel
theorem dX8_does_221 : decode cX8_does 221 = .ok (.if_icmp .gt 7, 3) := by decide +kernel
theorem dX8_does_224 : decode cX8_does 224 = .ok (.iconst 1, 1) := by decide +kernel
theorem dX8_does_225 : decode cX8_does 225 = .ok (.goto 4, 3) := by decide +kernel
theorem dX8_does_228 : decode cX8_does 228 = .ok (.iconst 0, 1) := by decide +kernel
theorem dX8_does_229 : decode cX8_does 229 = .ok (.ireturn, 1) := by decide +kernel
theorem dX8_does_230 : decode cX8_does 230 = .ok (.iload 5, 2) := by decide +kernel
theorem dX8_does_232 : decode cX8_does 232 = .ok (.ifCond .eq 20, 3) := by decide +kernel
theorem dX8_does_235 : decode cX8_does 235 = .ok (.aload_n 0, 1) := by decide +kernel
theorem dX8_does_236 : decode cX8_does 236 = .ok (.getfield 19, 3) := by decide +kernel
theorem dX8_does_239 : decode cX8_does 239 = .ok (.iconst (-1), 1) := by decide +kernel
theorem dX8_does_240 : decode cX8_does 240 = .ok (.invokestatic 67, 3) := by decide +kernel
theorem dX8_does_243 : decode cX8_does 243 = .ok (.iload 4, 2) := by decide +kernel
theorem dX8_does_245 : decode cX8_does 245 = .ok (.if_icmp .lt 7, 3) := by decide +kernel
theorem dX8_does_248 : decode cX8_does 248 = .ok (.iconst 1, 1) := by decide +kernel
theorem dX8_does_249 : decode cX8_does 249 = .ok (.goto 4, 3) := by decide +kernel
theorem dX8_does_252 : decode cX8_does 252 = .ok (.iconst 0, 1) := by decide +kernel
theorem dX8_does_253 : decode cX8_does 253 = .ok (.ireturn, 1) := by decide +kernel
theorem dX8_does_254 : decode cX8_does 254 = .ok (.iload_n 3, 1) := by decide +kernel
theorem dX8_does_255 : decode cX8_does 255 = .ok (.sipush 10000, 3) := by decide +kernel
theorem dX8_does_258 : decode cX8_does 258 = .ok (.if_icmp .ge 15, 3) := by decide +kernel
theorem dX8_does_261 : decode cX8_does 261 = .ok (.aload_n 0, 1) := by decide +kernel
theorem dX8_does_262 : decode cX8_does 262 = .ok (.iload_n 3, 1) := by decide +kernel
theorem dX8_does_263 : decode cX8_does 263 = .ok (.invokevirtual 210, 3) := by decide +kernel
theorem dX8_does_266 : decode cX8_does 266 = .ok (.ifCond .eq 7, 3) := by decide +kernel
theorem dX8_does_269 : decode cX8_does 269 = .ok (.iconst 1, 1) := by decide +kernel
theorem dX8_does_270 : decode cX8_does 270 = .ok (.goto 4, 3) := by decide +kernel
theorem dX8_does_273 : decode cX8_does 273 = .ok (.iconst 0, 1) := by decide +kernel
theorem dX8_does_274 : decode cX8_does 274 = .ok (.ireturn, 1) := by decide +kernel
theorem dX8_does_275 : decode cX8_does 275 = .ok (.iconst 0, 1) := by decide +kernel
theorem dX8_does_276 : decode cX8_does 276 = .ok (.ireturn, 1) := by decide +kernel
set_option maxRecDepth 20000 in
theorem ggX8_runScript_X8_in : GoodIn wsX8_runScript wsX8_in := goodIn_r _ [6] (by decide +kernel) (by decide +kernel)
set_option maxRecDepth 20000 in
theorem gX8_runScript_X8_in : GoodIn wsX8_runScript (va_wsS RX8 96 yX8_in wsX8_in) := goodIn_app (goodIn_of _ (by decide +kernel)) ggX8_runScript_X8_in
set_option maxRecDepth 20000 in
theorem ggX8_runScript_X8_tenTo : GoodIn wsX8_runScript wsX8_tenTo := goodIn_r _ [9, 10] (by decide +kernel) (by decide +kernel)
set_option maxRecDepth 20000 in
theorem gX8_runScript_X8_tenTo : GoodIn wsX8_runScript (va_wsS RX8 213 yX8_tenTo wsX8_tenTo) := goodIn_app (goodIn_of _ (by decide +kernel)) ggX8_runScript_X8_tenTo
set_option maxRecDepth 20000 in
theorem ggX8_runScript_X8_refused : GoodIn wsX8_runScript wsX8_refused := goodIn_r _ [14, 15, 102, 103, 104, 105, 106, 107, 108, 109, 110, 111, 112, 113, 114] (by decide +kernel) (by decide +kernel)
set_option maxRecDepth 20000 in
theorem gX8_runScript_X8_refused : GoodIn wsX8_runScript (wsV RX8 103 RX8 yX8_refused wsX8_refused) := goodIn_app (goodIn_of _ (by decide +kernel)) ggX8_runScript_X8_refused
set_option maxRecDepth 20000 in
theorem ggX8_runScript_X8_tryIt : GoodIn wsX8_runScript wsX8_tryIt := goodIn_r _ [19, 20, 21, 22, 23, 5, 24, 102, 103, 104, 105, 106, 107, 108, 109, 110, 111, 112, 113, 114] (by decide +kernel) (by decide +kernel)
set_option maxRecDepth 20000 in
theorem gX8_runScript_X8_tryIt : GoodIn wsX8_runScript (wsV RX8 191 RX8 yX8_tryIt wsX8_tryIt) := goodIn_app (goodIn_of _ (by decide +kernel)) ggX8_runScript_X8_tryIt
set_option maxRecDepth 20000 in
theorem ggX8_runScript_X8_does : GoodIn wsX8_runScript wsX8_does := goodIn_r _ [28, 29, 21, 30, 31, 32, 5, 33, 34, 35, 36, 37, 38, 39, 40, 41, 42, 43, 44, 45, 46, 47, 48, 49, 50, 3, 4, 6, 51, 52, 53, 54, 55, 56, 57, 58, 59, 60, 61, 62, 63, 64, 65, 66, 67, 68, 22, 23, 24, 69, 70, 71, 72, 73, 74, 75, 76, 77, 78, 79, 80, 81, 82, 83, 84, 85, 86, 87, 88, 89, 90, 91, 92, 93, 94, 95, 96, 97, 98, 99, 100, 101, 102, 103, 104, 105, 106, 107, 108, 109, 110, 111, 112, 113, 114] (by decide +kernel) (by decide +kernel)
set_option maxRecDepth 20000 in
theorem gX8_runScript_X8_does : GoodIn wsX8_runScript (wsV RX8 219 RX8 yX8_does wsX8_does) := goodIn_app (goodIn_of _ (by decide +kernel)) ggX8_runScript_X8_does
theorem dX8_runScript_0 : decode cX8_runScript 0 = .ok (.iload_n 1, 1) := by decide +kernel
theorem dX8_runScript_1 : decode cX8_runScript 1 = .ok (.i2l, 1) := by decide +kernel
theorem dX8_runScript_2 : decode cX8_runScript 2 = .ok (.lconst 1, 1) := by decide +kernel
theorem dX8_runScript_3 : decode cX8_runScript 3 = .ok (.ldc2_w 166, 3) := by decide +kernel
theorem dX8_runScript_6 : decode cX8_runScript 6 = .ok (.invokestatic 96, 3) := by decide +kernel
theorem dX8_runScript_9 : decode cX8_runScript 9 = .ok (.istore 4, 2) := by decide +kernel
theorem dX8_runScript_11 : decode cX8_runScript 11 = .ok (.aload_n 0, 1) := by decide +kernel
theorem dX8_runScript_12 : decode cX8_runScript 12 = .ok (.iload 4, 2) := by decide +kernel
theorem dX8_runScript_14 : decode cX8_runScript 14 = .ok (.ifCond .eq 33, 3) := by decide +kernel
theorem dX8_runScript_17 : decode cX8_runScript 17 = .ok (.lload_n 2, 1) := by decide +kernel
theorem dX8_runScript_18 : decode cX8_runScript 18 = .ok (.lconst 0, 1) := by decide +kernel
theorem dX8_runScript_19 : decode cX8_runScript 19 = .ok (.iload 4, 2) := by decide +kernel
theorem dX8_runScript_21 : decode cX8_runScript 21 = .ok (.ifCond .eq 10, 3) := by decide +kernel
theorem dX8_runScript_24 : decode cX8_runScript 24 = .ok (.bipush 7, 2) := by decide +kernel
theorem dX8_runScript_26 : decode cX8_runScript 26 = .ok (.iload_n 1, 1) := by decide +kernel
theorem dX8_runScript_27 : decode cX8_runScript 27 = .ok (.imul, 1) := by decide +kernel
theorem dX8_runScript_28 : decode cX8_runScript 28 = .ok (.goto 4, 3) := by decide +kernel
theorem dX8_runScript_31 : decode cX8_runScript 31 = .ok (.iconst 0, 1) := by decide +kernel
theorem dX8_runScript_32 : decode cX8_runScript 32 = .ok (.invokestatic 213, 3) := by decide +kernel
theorem dX8_runScript_35 : decode cX8_runScript 35 = .ok (.lconst 1, 1) := by decide +kernel
theorem dX8_runScript_36 : decode cX8_runScript 36 = .ok (.lsub, 1) := by decide +kernel
theorem dX8_runScript_37 : decode cX8_runScript 37 = .ok (.invokestatic 96, 3) := by decide +kernel
theorem dX8_runScript_40 : decode cX8_runScript 40 = .ok (.ifCond .eq 7, 3) := by decide +kernel
theorem dX8_runScript_43 : decode cX8_runScript 43 = .ok (.iconst 0, 1) := by decide +kernel
theorem dX8_runScript_44 : decode cX8_runScript 44 = .ok (.goto 4, 3) := by decide +kernel
theorem dX8_runScript_47 : decode cX8_runScript 47 = .ok (.iconst 1, 1) := by decide +kernel
theorem dX8_runScript_48 : decode cX8_runScript 48 = .ok (.invokevirtual 103, 3) := by decide +kernel
theorem dX8_runScript_51 : decode cX8_runScript 51 = .ok (.ifCond .eq 5, 3) := by decide +kernel
theorem dX8_runScript_54 : decode cX8_runScript 54 = .ok (.iconst 0, 1) := by decide +kernel
theorem dX8_runScript_55 : decode cX8_runScript 55 = .ok (.ireturn, 1) := by decide +kernel
theorem dX8_runScript_56 : decode cX8_runScript 56 = .ok (.aload_n 0, 1) := by decide +kernel
theorem dX8_runScript_57 : decode cX8_runScript 57 = .ok (.invokevirtual 191, 3) := by decide +kernel
theorem dX8_runScript_60 : decode cX8_runScript 60 = .ok (.iconst 0, 1) := by decide +kernel
theorem dX8_runScript_61 : decode cX8_runScript 61 = .ok (.istore 5, 2) := by decide +kernel
theorem dX8_runScript_63 : decode cX8_runScript 63 = .ok (.iload 5, 2) := by decide +kernel
theorem dX8_runScript_65 : decode cX8_runScript 65 = .ok (.iload_n 1, 1) := by decide +kernel
theorem dX8_runScript_66 : decode cX8_runScript 66 = .ok (.if_icmp .ge 38, 3) := by decide +kernel
theorem dX8_runScript_69 : decode cX8_runScript 69 = .ok (.aload_n 0, 1) := by decide +kernel
theorem dX8_runScript_70 : decode cX8_runScript 70 = .ok (.lload_n 2, 1) := by decide +kernel
theorem dX8_runScript_71 : decode cX8_runScript 71 = .ok (.bipush 7, 2) := by decide +kernel
theorem dX8_runScript_73 : decode cX8_runScript 73 = .ok (.iload_n 1, 1) := by decide +kernel
theorem dX8_runScript_74 : decode cX8_runScript 74 = .ok (.iconst 1, 1) := by decide +kernel
theorem dX8_runScript_75 : decode cX8_runScript 75 = .ok (.isub, 1) := by decide +kernel
theorem dX8_runScript_76 : decode cX8_runScript 76 = .ok (.iload 5, 2) := by decide +kernel
theorem dX8_runScript_78 : decode cX8_runScript 78 = .ok (.isub, 1) := by decide +kernel
theorem dX8_runScript_79 : decode cX8_runScript 79 = .ok (.imul, 1) := by decide +kernel
theorem dX8_runScript_80 : decode cX8_runScript 80 = .ok (.invokestatic 213, 3) := by decide +kernel
theorem dX8_runScript_83 : decode cX8_runScript 83 = .ok (.ldiv, 1) := by decide +kernel
theorem dX8_runScript_84 : decode cX8_runScript 84 = .ok (.ldc2_w 217, 3) := by decide +kernel
theorem dX8_runScript_87 : decode cX8_runScript 87 = .ok (.lrem, 1) := by decide +kernel
theorem dX8_runScript_88 : decode cX8_runScript 88 = .ok (.l2i, 1) := by decide +kernel
theorem dX8_runScript_89 : decode cX8_runScript 89 = .ok (.invokevirtual 219, 3) := by decide +kernel
theorem dX8_runScript_92 : decode cX8_runScript 92 = .ok (.ifCond .ne 6, 3) := by decide +kernel
theorem dX8_runScript_95 : decode cX8_runScript 95 = .ok (.iload 5, 2) := by decide +kernel
theorem dX8_runScript_97 : decode cX8_runScript 97 = .ok (.ireturn, 1) := by decide +kernel
theorem dX8_runScript_98 : decode cX8_runScript 98 = .ok (.iinc 5 1, 3) := by decide +kernel
theorem dX8_runScript_101 : decode cX8_runScript 101 = .ok (.goto (-38), 3) := by decide +kernel
theorem dX8_runScript_104 : decode cX8_runScript 104 = .ok (.iconst (-1), 1) := by decide +kernel
theorem dX8_runScript_105 : decode cX8_runScript 105 = .ok (.ireturn, 1) := by decide +kernel
set_option maxRecDepth 20000 in
theorem ggX8_simulate_X8_in : GoodIn wsX8_simulate wsX8_in := goodIn_r _ [11] (by decide +kernel) (by decide +kernel)
set_option maxRecDepth 20000 in
theorem gX8_simulate_X8_in : GoodIn wsX8_simulate (va_wsS RX8 96 yX8_in wsX8_in) := goodIn_app (goodIn_of _ (by decide +kernel)) ggX8_simulate_X8_in
set_option maxRecDepth 20000 in
theorem ggX8_simulate_X8_refused : GoodIn wsX8_simulate wsX8_refused := goodIn_r _ [15, 16, 66, 67, 68, 69, 70, 71, 72, 73, 74, 75, 76, 77, 78] (by decide +kernel) (by decide +kernel)
set_option maxRecDepth 20000 in
theorem gX8_simulate_X8_refused : GoodIn wsX8_simulate (wsV RX8 103 RX8 yX8_refused wsX8_refused) := goodIn_app (goodIn_of _ (by decide +kernel)) ggX8_simulate_X8_refused
set_option maxRecDepth 20000 in
theorem ggX8_simulate_X8_tryIt : GoodIn wsX8_simulate wsX8_tryIt := goodIn_r _ [20, 7, 6, 21, 22, 10, 23, 66, 67, 68, 69, 70, 71, 72, 73, 74, 75, 76, 77, 78] (by decide +kernel) (by decide +kernel)
set_option maxRecDepth 20000 in
theorem gX8_simulate_X8_tryIt : GoodIn wsX8_simulate (wsV RX8 191 RX8 yX8_tryIt wsX8_tryIt) := goodIn_app (goodIn_of _ (by decide +kernel)) ggX8_simulate_X8_tryIt
set_option maxRecDepth 20000 in
theorem ggX8_simulate_X8_shootIn : GoodIn wsX8_simulate wsX8_shootIn := goodIn_r _ [26, 27, 28, 10, 29, 30, 31, 32, 33, 34, 35] (by decide +kernel) (by decide +kernel)
set_option maxRecDepth 20000 in
theorem gX8_simulate_X8_shootIn : GoodIn wsX8_simulate (va_wsS RX8 123 yX8_shootIn wsX8_shootIn) := goodIn_app (goodIn_of _ (by decide +kernel)) ggX8_simulate_X8_shootIn
set_option maxRecDepth 20000 in
theorem ggX8_simulate_X8_tick : GoodIn wsX8_simulate wsX8_tick := goodIn_r _ [38, 39, 40, 10, 41, 42, 43, 44, 33, 34, 35, 45, 46, 47, 48, 49, 50, 21, 22, 23, 51, 52, 53, 54, 55, 56, 57, 58, 59, 27, 28, 29, 60, 61, 62, 63, 64, 65] (by decide +kernel) (by decide +kernel)
set_option maxRecDepth 20000 in
theorem gX8_simulate_X8_tick : GoodIn wsX8_simulate (va_wsS RX8 91 yX8_tick wsX8_tick) := goodIn_app (goodIn_of _ (by decide +kernel)) ggX8_simulate_X8_tick
theorem dX8_simulate_0 : decode cX8_simulate 0 = .ok (.aload_n 0, 1) := by decide +kernel
theorem dX8_simulate_1 : decode cX8_simulate 1 = .ok (.iload_n 3, 1) := by decide +kernel
theorem dX8_simulate_2 : decode cX8_simulate 2 = .ok (.i2l, 1) := by decide +kernel
theorem dX8_simulate_3 : decode cX8_simulate 3 = .ok (.lconst 1, 1) := by decide +kernel
theorem dX8_simulate_4 : decode cX8_simulate 4 = .ok (.ldc2_w 222, 3) := by decide +kernel
theorem dX8_simulate_7 : decode cX8_simulate 7 = .ok (.invokestatic 96, 3) := by decide +kernel
theorem dX8_simulate_10 : decode cX8_simulate 10 = .ok (.ifCond .eq 7, 3) := by decide +kernel
theorem dX8_simulate_13 : decode cX8_simulate 13 = .ok (.iconst 0, 1) := by decide +kernel
theorem dX8_simulate_14 : decode cX8_simulate 14 = .ok (.goto 4, 3) := by decide +kernel
theorem dX8_simulate_17 : decode cX8_simulate 17 = .ok (.iconst 1, 1) := by decide +kernel
theorem dX8_simulate_18 : decode cX8_simulate 18 = .ok (.invokevirtual 103, 3) := by decide +kernel
theorem dX8_simulate_21 : decode cX8_simulate 21 = .ok (.ifCond .eq 5, 3) := by decide +kernel
theorem dX8_simulate_24 : decode cX8_simulate 24 = .ok (.iconst 0, 1) := by decide +kernel
theorem dX8_simulate_25 : decode cX8_simulate 25 = .ok (.ireturn, 1) := by decide +kernel
theorem dX8_simulate_26 : decode cX8_simulate 26 = .ok (.aload_n 0, 1) := by decide +kernel
theorem dX8_simulate_27 : decode cX8_simulate 27 = .ok (.invokevirtual 191, 3) := by decide +kernel
theorem dX8_simulate_30 : decode cX8_simulate 30 = .ok (.lload_n 1, 1) := by decide +kernel
theorem dX8_simulate_31 : decode cX8_simulate 31 = .ok (.lstore 4, 2) := by decide +kernel
theorem dX8_simulate_33 : decode cX8_simulate 33 = .ok (.ldc 224, 2) := by decide +kernel
theorem dX8_simulate_35 : decode cX8_simulate 35 = .ok (.istore 6, 2) := by decide +kernel
theorem dX8_simulate_37 : decode cX8_simulate 37 = .ok (.iconst 0, 1) := by decide +kernel
theorem dX8_simulate_38 : decode cX8_simulate 38 = .ok (.istore 7, 2) := by decide +kernel
theorem dX8_simulate_40 : decode cX8_simulate 40 = .ok (.iload 7, 2) := by decide +kernel
theorem dX8_simulate_42 : decode cX8_simulate 42 = .ok (.iload_n 3, 1) := by decide +kernel
theorem dX8_simulate_43 : decode cX8_simulate 43 = .ok (.if_icmp .ge 107, 3) := by decide +kernel
theorem dX8_simulate_46 : decode cX8_simulate 46 = .ok (.lload 4, 2) := by decide +kernel
theorem dX8_simulate_48 : decode cX8_simulate 48 = .ok (.ldc2_w 225, 3) := by decide +kernel
theorem dX8_simulate_51 : decode cX8_simulate 51 = .ok (.lmul, 1) := by decide +kernel
theorem dX8_simulate_52 : decode cX8_simulate 52 = .ok (.ldc2_w 227, 3) := by decide +kernel
theorem dX8_simulate_55 : decode cX8_simulate 55 = .ok (.ladd, 1) := by decide +kernel
theorem dX8_simulate_56 : decode cX8_simulate 56 = .ok (.lstore 4, 2) := by decide +kernel
theorem dX8_simulate_58 : decode cX8_simulate 58 = .ok (.lload 4, 2) := by decide +kernel
theorem dX8_simulate_60 : decode cX8_simulate 60 = .ok (.bipush 33, 2) := by decide +kernel
theorem dX8_simulate_62 : decode cX8_simulate 62 = .ok (.lushr, 1) := by decide +kernel
theorem dX8_simulate_63 : decode cX8_simulate 63 = .ok (.l2i, 1) := by decide +kernel
theorem dX8_simulate_64 : decode cX8_simulate 64 = .ok (.istore 8, 2) := by decide +kernel
theorem dX8_simulate_66 : decode cX8_simulate 66 = .ok (.iload 8, 2) := by decide +kernel
theorem dX8_simulate_68 : decode cX8_simulate 68 = .ok (.iconst 4, 1) := by decide +kernel
theorem dX8_simulate_69 : decode cX8_simulate 69 = .ok (.irem, 1) := by decide +kernel
theorem dX8_simulate_70 : decode cX8_simulate 70 = .ok (.ifCond .ne 14, 3) := by decide +kernel
theorem dX8_simulate_73 : decode cX8_simulate 73 = .ok (.iload 8, 2) := by decide +kernel
theorem dX8_simulate_75 : decode cX8_simulate 75 = .ok (.bipush 64, 2) := by decide +kernel
theorem dX8_simulate_77 : decode cX8_simulate 77 = .ok (.idiv, 1) := by decide +kernel
theorem dX8_simulate_78 : decode cX8_simulate 78 = .ok (.ldc 199, 2) := by decide +kernel
theorem dX8_simulate_80 : decode cX8_simulate 80 = .ok (.irem, 1) := by decide +kernel
theorem dX8_simulate_81 : decode cX8_simulate 81 = .ok (.goto 33, 3) := by decide +kernel
theorem dX8_simulate_84 : decode cX8_simulate 84 = .ok (.iload 8, 2) := by decide +kernel
theorem dX8_simulate_86 : decode cX8_simulate 86 = .ok (.iconst 4, 1) := by decide +kernel
theorem dX8_simulate_87 : decode cX8_simulate 87 = .ok (.irem, 1) := by decide +kernel
theorem dX8_simulate_88 : decode cX8_simulate 88 = .ok (.iconst 1, 1) := by decide +kernel
theorem dX8_simulate_89 : decode cX8_simulate 89 = .ok (.if_icmp .ne 23, 3) := by decide +kernel
theorem dX8_simulate_92 : decode cX8_simulate 92 = .ok (.iload 6, 2) := by decide +kernel
theorem dX8_simulate_94 : decode cX8_simulate 94 = .ok (.bipush 10, 2) := by decide +kernel
theorem dX8_simulate_96 : decode cX8_simulate 96 = .ok (.idiv, 1) := by decide +kernel
theorem dX8_simulate_97 : decode cX8_simulate 97 = .ok (.bipush 10, 2) := by decide +kernel
theorem dX8_simulate_99 : decode cX8_simulate 99 = .ok (.imul, 1) := by decide +kernel
theorem dX8_simulate_100 : decode cX8_simulate 100 = .ok (.iload 8, 2) := by decide +kernel
theorem dX8_simulate_102 : decode cX8_simulate 102 = .ok (.bipush 64, 2) := by decide +kernel
theorem dX8_simulate_104 : decode cX8_simulate 104 = .ok (.idiv, 1) := by decide +kernel
theorem dX8_simulate_105 : decode cX8_simulate 105 = .ok (.bipush 10, 2) := by decide +kernel
theorem dX8_simulate_107 : decode cX8_simulate 107 = .ok (.irem, 1) := by decide +kernel
theorem dX8_simulate_108 : decode cX8_simulate 108 = .ok (.iadd, 1) := by decide +kernel
theorem dX8_simulate_109 : decode cX8_simulate 109 = .ok (.goto 5, 3) := by decide +kernel
theorem dX8_simulate_112 : decode cX8_simulate 112 = .ok (.iload 6, 2) := by decide +kernel
theorem dX8_simulate_114 : decode cX8_simulate 114 = .ok (.istore 6, 2) := by decide +kernel
theorem dX8_simulate_116 : decode cX8_simulate 116 = .ok (.iload 8, 2) := by decide +kernel
theorem dX8_simulate_118 : decode cX8_simulate 118 = .ok (.iconst 4, 1) := by decide +kernel
theorem dX8_simulate_119 : decode cX8_simulate 119 = .ok (.idiv, 1) := by decide +kernel
theorem dX8_simulate_120 : decode cX8_simulate 120 = .ok (.iconst 4, 1) := by decide +kernel
theorem dX8_simulate_121 : decode cX8_simulate 121 = .ok (.irem, 1) := by decide +kernel
theorem dX8_simulate_122 : decode cX8_simulate 122 = .ok (.iconst 3, 1) := by decide +kernel
theorem dX8_simulate_123 : decode cX8_simulate 123 = .ok (.if_icmp .ge 13, 3) := by decide +kernel
theorem dX8_simulate_126 : decode cX8_simulate 126 = .ok (.aload_n 0, 1) := by decide +kernel
theorem dX8_simulate_127 : decode cX8_simulate 127 = .ok (.getfield 19, 3) := by decide +kernel
theorem dX8_simulate_130 : decode cX8_simulate 130 = .ok (.iload 6, 2) := by decide +kernel
theorem dX8_simulate_132 : decode cX8_simulate 132 = .ok (.invokestatic 123, 3) := by decide +kernel
theorem dX8_simulate_135 : decode cX8_simulate 135 = .ok (.pop, 1) := by decide +kernel
theorem dX8_simulate_136 : decode cX8_simulate 136 = .ok (.aload_n 0, 1) := by decide +kernel
theorem dX8_simulate_137 : decode cX8_simulate 137 = .ok (.getfield 19, 3) := by decide +kernel
theorem dX8_simulate_140 : decode cX8_simulate 140 = .ok (.invokestatic 91, 3) := by decide +kernel
theorem dX8_simulate_143 : decode cX8_simulate 143 = .ok (.pop, 1) := by decide +kernel
theorem dX8_simulate_144 : decode cX8_simulate 144 = .ok (.iinc 7 1, 3) := by decide +kernel
theorem dX8_simulate_147 : decode cX8_simulate 147 = .ok (.goto (-107), 3) := by decide +kernel
theorem dX8_simulate_150 : decode cX8_simulate 150 = .ok (.sipush 10000, 3) := by decide +kernel
theorem dX8_simulate_153 : decode cX8_simulate 153 = .ok (.aload_n 0, 1) := by decide +kernel
theorem dX8_simulate_154 : decode cX8_simulate 154 = .ok (.getfield 19, 3) := by decide +kernel
theorem dX8_simulate_157 : decode cX8_simulate 157 = .ok (.bipush 6, 2) := by decide +kernel
theorem dX8_simulate_159 : decode cX8_simulate 159 = .ok (.iaload, 1) := by decide +kernel
theorem dX8_simulate_160 : decode cX8_simulate 160 = .ok (.aload_n 0, 1) := by decide +kernel
theorem dX8_simulate_161 : decode cX8_simulate 161 = .ok (.getfield 16, 3) := by decide +kernel
theorem dX8_simulate_164 : decode cX8_simulate 164 = .ok (.bipush 6, 2) := by decide +kernel
theorem dX8_simulate_166 : decode cX8_simulate 166 = .ok (.iaload, 1) := by decide +kernel
theorem dX8_simulate_167 : decode cX8_simulate 167 = .ok (.isub, 1) := by decide +kernel
theorem dX8_simulate_168 : decode cX8_simulate 168 = .ok (.imul, 1) := by decide +kernel
theorem dX8_simulate_169 : decode cX8_simulate 169 = .ok (.bipush 100, 2) := by decide +kernel
theorem dX8_simulate_171 : decode cX8_simulate 171 = .ok (.aload_n 0, 1) := by decide +kernel
theorem dX8_simulate_172 : decode cX8_simulate 172 = .ok (.getfield 19, 3) := by decide +kernel
theorem dX8_simulate_175 : decode cX8_simulate 175 = .ok (.bipush 7, 2) := by decide +kernel
theorem dX8_simulate_177 : decode cX8_simulate 177 = .ok (.iaload, 1) := by decide +kernel
theorem dX8_simulate_178 : decode cX8_simulate 178 = .ok (.aload_n 0, 1) := by decide +kernel
theorem dX8_simulate_179 : decode cX8_simulate 179 = .ok (.getfield 16, 3) := by decide +kernel
theorem dX8_simulate_182 : decode cX8_simulate 182 = .ok (.bipush 7, 2) := by decide +kernel
theorem dX8_simulate_184 : decode cX8_simulate 184 = .ok (.iaload, 1) := by decide +kernel
theorem dX8_simulate_185 : decode cX8_simulate 185 = .ok (.isub, 1) := by decide +kernel
theorem dX8_simulate_186 : decode cX8_simulate 186 = .ok (.imul, 1) := by decide +kernel
theorem dX8_simulate_187 : decode cX8_simulate 187 = .ok (.iadd, 1) := by decide +kernel
theorem dX8_simulate_188 : decode cX8_simulate 188 = .ok (.aload_n 0, 1) := by decide +kernel
theorem dX8_simulate_189 : decode cX8_simulate 189 = .ok (.getfield 19, 3) := by decide +kernel
theorem dX8_simulate_192 : decode cX8_simulate 192 = .ok (.bipush 16, 2) := by decide +kernel
theorem dX8_simulate_194 : decode cX8_simulate 194 = .ok (.iaload, 1) := by decide +kernel
theorem dX8_simulate_195 : decode cX8_simulate 195 = .ok (.iadd, 1) := by decide +kernel
theorem dX8_simulate_196 : decode cX8_simulate 196 = .ok (.ireturn, 1) := by decide +kernel
set_option maxRecDepth 20000 in
theorem ggX8_save_X8_in : GoodIn wsX8_save wsX8_in := goodIn_r _ [7] (by decide +kernel) (by decide +kernel)
set_option maxRecDepth 20000 in
theorem gX8_save_X8_in : GoodIn wsX8_save (va_wsS RX8 96 yX8_in wsX8_in) := goodIn_app (goodIn_of _ (by decide +kernel)) ggX8_save_X8_in
set_option maxRecDepth 20000 in
theorem ggX8_save_X8_refused : GoodIn wsX8_save wsX8_refused := goodIn_r _ [11, 12, 16, 17, 18, 19, 20, 21, 22, 23, 24, 25, 26, 27, 28] (by decide +kernel) (by decide +kernel)
set_option maxRecDepth 20000 in
theorem gX8_save_X8_refused : GoodIn wsX8_save (wsV RX8 103 RX8 yX8_refused wsX8_refused) := goodIn_app (goodIn_of _ (by decide +kernel)) ggX8_save_X8_refused
set_option maxRecDepth 20000 in
theorem ggX8_save_X8_copy : GoodIn wsX8_save wsX8_copy := goodIn_r _ [15] (by decide +kernel) (by decide +kernel)
set_option maxRecDepth 20000 in
theorem gX8_save_X8_copy : GoodIn wsX8_save (va_wsS RX8 45 yX8_copy wsX8_copy) := goodIn_app (goodIn_of _ (by decide +kernel)) ggX8_save_X8_copy
theorem dX8_save_0 : decode cX8_save 0 = .ok (.aload_n 0, 1) := by decide +kernel
theorem dX8_save_1 : decode cX8_save 1 = .ok (.iload_n 1, 1) := by decide +kernel
theorem dX8_save_2 : decode cX8_save 2 = .ok (.i2l, 1) := by decide +kernel
theorem dX8_save_3 : decode cX8_save 3 = .ok (.lconst 0, 1) := by decide +kernel
theorem dX8_save_4 : decode cX8_save 4 = .ok (.lconst 1, 1) := by decide +kernel
theorem dX8_save_5 : decode cX8_save 5 = .ok (.invokestatic 96, 3) := by decide +kernel
theorem dX8_save_8 : decode cX8_save 8 = .ok (.ifCond .eq 7, 3) := by decide +kernel
theorem dX8_save_11 : decode cX8_save 11 = .ok (.iconst 0, 1) := by decide +kernel
theorem dX8_save_12 : decode cX8_save 12 = .ok (.goto 4, 3) := by decide +kernel
theorem dX8_save_15 : decode cX8_save 15 = .ok (.iconst 1, 1) := by decide +kernel
theorem dX8_save_16 : decode cX8_save 16 = .ok (.invokevirtual 103, 3) := by decide +kernel
theorem dX8_save_19 : decode cX8_save 19 = .ok (.ifCond .eq 5, 3) := by decide +kernel
theorem dX8_save_22 : decode cX8_save 22 = .ok (.iconst 0, 1) := by decide +kernel
theorem dX8_save_23 : decode cX8_save 23 = .ok (.ireturn, 1) := by decide +kernel
theorem dX8_save_24 : decode cX8_save 24 = .ok (.aload_n 0, 1) := by decide +kernel
theorem dX8_save_25 : decode cX8_save 25 = .ok (.getfield 16, 3) := by decide +kernel
theorem dX8_save_28 : decode cX8_save 28 = .ok (.iconst 0, 1) := by decide +kernel
theorem dX8_save_29 : decode cX8_save 29 = .ok (.aload_n 0, 1) := by decide +kernel
theorem dX8_save_30 : decode cX8_save 30 = .ok (.getfield 25, 3) := by decide +kernel
theorem dX8_save_33 : decode cX8_save 33 = .ok (.sipush 357, 3) := by decide +kernel
theorem dX8_save_36 : decode cX8_save 36 = .ok (.iload_n 1, 1) := by decide +kernel
theorem dX8_save_37 : decode cX8_save 37 = .ok (.imul, 1) := by decide +kernel
theorem dX8_save_38 : decode cX8_save 38 = .ok (.sipush 357, 3) := by decide +kernel
theorem dX8_save_41 : decode cX8_save 41 = .ok (.invokestatic 45, 3) := by decide +kernel
theorem dX8_save_44 : decode cX8_save 44 = .ok (.aload_n 0, 1) := by decide +kernel
theorem dX8_save_45 : decode cX8_save 45 = .ok (.getfield 28, 3) := by decide +kernel
theorem dX8_save_48 : decode cX8_save 48 = .ok (.iload_n 1, 1) := by decide +kernel
theorem dX8_save_49 : decode cX8_save 49 = .ok (.iconst 1, 1) := by decide +kernel
theorem dX8_save_50 : decode cX8_save 50 = .ok (.bastore, 1) := by decide +kernel
theorem dX8_save_51 : decode cX8_save 51 = .ok (.aload_n 0, 1) := by decide +kernel
theorem dX8_save_52 : decode cX8_save 52 = .ok (.getfield 16, 3) := by decide +kernel
theorem dX8_save_55 : decode cX8_save 55 = .ok (.bipush 16, 2) := by decide +kernel
theorem dX8_save_57 : decode cX8_save 57 = .ok (.iaload, 1) := by decide +kernel
theorem dX8_save_58 : decode cX8_save 58 = .ok (.ireturn, 1) := by decide +kernel
set_option maxRecDepth 20000 in
theorem ggX8_restore_X8_in : GoodIn wsX8_restore wsX8_in := goodIn_r _ [8] (by decide +kernel) (by decide +kernel)
set_option maxRecDepth 20000 in
theorem gX8_restore_X8_in : GoodIn wsX8_restore (va_wsS RX8 96 yX8_in wsX8_in) := goodIn_app (goodIn_of _ (by decide +kernel)) ggX8_restore_X8_in
set_option maxRecDepth 20000 in
theorem ggX8_restore_X8_refused : GoodIn wsX8_restore wsX8_refused := goodIn_r _ [12, 13, 17, 18, 19, 20, 21, 22, 23, 24, 25, 26, 27, 28, 29] (by decide +kernel) (by decide +kernel)
set_option maxRecDepth 20000 in
theorem gX8_restore_X8_refused : GoodIn wsX8_restore (wsV RX8 103 RX8 yX8_refused wsX8_refused) := goodIn_app (goodIn_of _ (by decide +kernel)) ggX8_restore_X8_refused
set_option maxRecDepth 20000 in
theorem ggX8_restore_X8_copy : GoodIn wsX8_restore wsX8_copy := goodIn_r _ [16] (by decide +kernel) (by decide +kernel)
set_option maxRecDepth 20000 in
theorem gX8_restore_X8_copy : GoodIn wsX8_restore (va_wsS RX8 45 yX8_copy wsX8_copy) := goodIn_app (goodIn_of _ (by decide +kernel)) ggX8_restore_X8_copy
theorem dX8_restore_0 : decode cX8_restore 0 = .ok (.aload_n 0, 1) := by decide +kernel
theorem dX8_restore_1 : decode cX8_restore 1 = .ok (.iload_n 1, 1) := by decide +kernel
theorem dX8_restore_2 : decode cX8_restore 2 = .ok (.i2l, 1) := by decide +kernel
theorem dX8_restore_3 : decode cX8_restore 3 = .ok (.lconst 0, 1) := by decide +kernel
theorem dX8_restore_4 : decode cX8_restore 4 = .ok (.lconst 1, 1) := by decide +kernel
theorem dX8_restore_5 : decode cX8_restore 5 = .ok (.invokestatic 96, 3) := by decide +kernel
theorem dX8_restore_8 : decode cX8_restore 8 = .ok (.ifCond .ne 7, 3) := by decide +kernel
theorem dX8_restore_11 : decode cX8_restore 11 = .ok (.iconst 1, 1) := by decide +kernel
theorem dX8_restore_12 : decode cX8_restore 12 = .ok (.goto 17, 3) := by decide +kernel
theorem dX8_restore_15 : decode cX8_restore 15 = .ok (.aload_n 0, 1) := by decide +kernel
theorem dX8_restore_16 : decode cX8_restore 16 = .ok (.getfield 28, 3) := by decide +kernel
theorem dX8_restore_19 : decode cX8_restore 19 = .ok (.iload_n 1, 1) := by decide +kernel
theorem dX8_restore_20 : decode cX8_restore 20 = .ok (.baload, 1) := by decide +kernel
theorem dX8_restore_21 : decode cX8_restore 21 = .ok (.ifCond .eq 7, 3) := by decide +kernel
theorem dX8_restore_24 : decode cX8_restore 24 = .ok (.iconst 0, 1) := by decide +kernel
theorem dX8_restore_25 : decode cX8_restore 25 = .ok (.goto 4, 3) := by decide +kernel
theorem dX8_restore_28 : decode cX8_restore 28 = .ok (.iconst 2, 1) := by decide +kernel
theorem dX8_restore_29 : decode cX8_restore 29 = .ok (.invokevirtual 103, 3) := by decide +kernel
theorem dX8_restore_32 : decode cX8_restore 32 = .ok (.ifCond .eq 5, 3) := by decide +kernel
theorem dX8_restore_35 : decode cX8_restore 35 = .ok (.iconst 0, 1) := by decide +kernel
theorem dX8_restore_36 : decode cX8_restore 36 = .ok (.ireturn, 1) := by decide +kernel
theorem dX8_restore_37 : decode cX8_restore 37 = .ok (.aload_n 0, 1) := by decide +kernel
theorem dX8_restore_38 : decode cX8_restore 38 = .ok (.getfield 25, 3) := by decide +kernel
theorem dX8_restore_41 : decode cX8_restore 41 = .ok (.sipush 357, 3) := by decide +kernel
theorem dX8_restore_44 : decode cX8_restore 44 = .ok (.iload_n 1, 1) := by decide +kernel
theorem dX8_restore_45 : decode cX8_restore 45 = .ok (.imul, 1) := by decide +kernel
theorem dX8_restore_46 : decode cX8_restore 46 = .ok (.aload_n 0, 1) := by decide +kernel
theorem dX8_restore_47 : decode cX8_restore 47 = .ok (.getfield 16, 3) := by decide +kernel
theorem dX8_restore_50 : decode cX8_restore 50 = .ok (.iconst 0, 1) := by decide +kernel
theorem dX8_restore_51 : decode cX8_restore 51 = .ok (.sipush 357, 3) := by decide +kernel
theorem dX8_restore_54 : decode cX8_restore 54 = .ok (.invokestatic 45, 3) := by decide +kernel
theorem dX8_restore_57 : decode cX8_restore 57 = .ok (.aload_n 0, 1) := by decide +kernel
theorem dX8_restore_58 : decode cX8_restore 58 = .ok (.iconst 0, 1) := by decide +kernel
theorem dX8_restore_59 : decode cX8_restore 59 = .ok (.putfield 42, 3) := by decide +kernel
theorem dX8_restore_62 : decode cX8_restore 62 = .ok (.aload_n 0, 1) := by decide +kernel
theorem dX8_restore_63 : decode cX8_restore 63 = .ok (.getfield 16, 3) := by decide +kernel
theorem dX8_restore_66 : decode cX8_restore 66 = .ok (.bipush 16, 2) := by decide +kernel
theorem dX8_restore_68 : decode cX8_restore 68 = .ok (.iaload, 1) := by decide +kernel
theorem dX8_restore_69 : decode cX8_restore 69 = .ok (.ireturn, 1) := by decide +kernel
