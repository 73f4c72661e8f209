-- decode rows, class X7
set_option maxRecDepth 20000 in
theorem ggX7_init_X6_init : GoodIn wsX7_init wsX6_init := goodIn_r _ [23, 24, 2, 3, 25, 26, 107, 108] (by decide +kernel) (by decide +kernel)
set_option maxRecDepth 20000 in
theorem gX7_init_X6_init_n11 : GoodIn wsX7_init (wsX6_init) := ggX7_init_X6_init
set_option maxRecDepth 20000 in
theorem ggX7_init_X5_init : GoodIn wsX7_init wsX5_init := goodIn_r _ [29, 30, 2, 3, 31, 32, 33, 34, 35, 36, 37, 38, 39, 40, 41, 42, 43, 44, 45, 46, 47, 48, 49, 50, 51, 52, 53, 54, 55, 56, 57, 58, 59, 60, 61, 10, 62, 63, 64, 65, 66, 67, 68, 69, 70, 71, 72, 73, 74, 75, 76, 77, 78, 79, 80, 81, 82, 83, 84, 85, 86, 87, 88, 89, 90, 91, 92, 93, 115, 116, 117, 118, 119, 120, 121, 122, 123, 124, 125, 131, 132, 133, 134, 135, 136, 137, 138, 139, 140, 141, 142, 143] (by decide +kernel) (by decide +kernel)
set_option maxRecDepth 20000 in
theorem gX7_init_X5_init : GoodIn wsX7_init (wsX5_init) := ggX7_init_X5_init
set_option maxRecDepth 20000 in
theorem ggX7_init_X2_init : GoodIn wsX7_init wsX2_init := goodIn_r _ [96, 97, 2, 3, 98, 99, 9, 10, 100, 28, 29, 30, 31, 32, 33, 34, 35, 36, 37, 38, 39, 40, 41, 42, 43, 44, 45, 46, 47, 48, 49, 50, 51, 52, 53, 54, 55, 56, 57, 58, 59, 60, 61, 62, 63, 64, 65, 66, 67, 68, 69, 70, 71, 72, 73, 74, 75, 76, 77, 78, 79, 80, 81, 82, 83, 84, 85, 86, 87, 88, 89, 90, 91, 92, 93, 126, 127, 128, 115, 116, 117, 118, 119, 120, 121, 122, 123, 124, 125, 131, 132, 133, 134, 135, 136, 137, 138, 139, 140, 141, 142, 143] (by decide +kernel) (by decide +kernel)
set_option maxRecDepth 20000 in
theorem gX7_init_X2_init : GoodIn wsX7_init (wsX2_init) := ggX7_init_X2_init
set_option maxRecDepth 20000 in
theorem ggX7_init_X4_init : GoodIn wsX7_init wsX4_init := goodIn_r _ [102, 103, 2, 3, 104, 9, 10, 105, 106, 28, 29, 30, 31, 32, 33, 34, 35, 36, 37, 38, 39, 40, 41, 42, 43, 44, 45, 46, 47, 48, 49, 50, 51, 52, 53, 54, 55, 56, 57, 58, 59, 60, 61, 62, 63, 64, 65, 66, 67, 68, 69, 70, 71, 72, 73, 74, 75, 76, 77, 78, 79, 80, 81, 82, 83, 84, 85, 86, 87, 88, 89, 90, 91, 92, 93, 115, 116, 117, 118, 119, 120, 121, 122, 123, 124, 125, 129, 130, 131, 132, 133, 134, 135, 136, 137, 138, 139, 140, 141, 142, 143] (by decide +kernel) (by decide +kernel)
set_option maxRecDepth 20000 in
theorem gX7_init_X4_init_n35 : GoodIn wsX7_init (wsX4_init) := ggX7_init_X4_init
theorem dX7_init_0 : decode cX7_init 0 = .ok (.aload_n 0, 1) := by decide +kernel
theorem dX7_init_1 : decode cX7_init 1 = .ok (.invokespecial 3, 3) := by decide +kernel
theorem dX7_init_4 : decode cX7_init 4 = .ok (.aload_n 0, 1) := by decide +kernel
theorem dX7_init_5 : decode cX7_init 5 = .ok (.new 9, 3) := by decide +kernel
theorem dX7_init_8 : decode cX7_init 8 = .ok (.dup, 1) := by decide +kernel
theorem dX7_init_9 : decode cX7_init 9 = .ok (.invokespecial 11, 3) := by decide +kernel
theorem dX7_init_12 : decode cX7_init 12 = .ok (.putfield 12, 3) := by decide +kernel
theorem dX7_init_15 : decode cX7_init 15 = .ok (.aload_n 0, 1) := by decide +kernel
theorem dX7_init_16 : decode cX7_init 16 = .ok (.new 16, 3) := by decide +kernel
theorem dX7_init_19 : decode cX7_init 19 = .ok (.dup, 1) := by decide +kernel
theorem dX7_init_20 : decode cX7_init 20 = .ok (.invokespecial 18, 3) := by decide +kernel
theorem dX7_init_23 : decode cX7_init 23 = .ok (.putfield 19, 3) := by decide +kernel
theorem dX7_init_26 : decode cX7_init 26 = .ok (.aload_n 0, 1) := by decide +kernel
theorem dX7_init_27 : decode cX7_init 27 = .ok (.new 16, 3) := by decide +kernel
theorem dX7_init_30 : decode cX7_init 30 = .ok (.dup, 1) := by decide +kernel
theorem dX7_init_31 : decode cX7_init 31 = .ok (.invokespecial 18, 3) := by decide +kernel
theorem dX7_init_34 : decode cX7_init 34 = .ok (.putfield 23, 3) := by decide +kernel
theorem dX7_init_37 : decode cX7_init 37 = .ok (.aload_n 0, 1) := by decide +kernel
theorem dX7_init_38 : decode cX7_init 38 = .ok (.new 26, 3) := by decide +kernel
theorem dX7_init_41 : decode cX7_init 41 = .ok (.dup, 1) := by decide +kernel
theorem dX7_init_42 : decode cX7_init 42 = .ok (.invokespecial 28, 3) := by decide +kernel
theorem dX7_init_45 : decode cX7_init 45 = .ok (.putfield 29, 3) := by decide +kernel
theorem dX7_init_48 : decode cX7_init 48 = .ok (.aload_n 0, 1) := by decide +kernel
theorem dX7_init_49 : decode cX7_init 49 = .ok (.new 33, 3) := by decide +kernel
theorem dX7_init_52 : decode cX7_init 52 = .ok (.dup, 1) := by decide +kernel
theorem dX7_init_53 : decode cX7_init 53 = .ok (.invokespecial 35, 3) := by decide +kernel
theorem dX7_init_56 : decode cX7_init 56 = .ok (.putfield 36, 3) := by decide +kernel
theorem dX7_init_59 : decode cX7_init 59 = .ok (.aload_n 0, 1) := by decide +kernel
theorem dX7_init_60 : decode cX7_init 60 = .ok (.new 33, 3) := by decide +kernel
theorem dX7_init_63 : decode cX7_init 63 = .ok (.dup, 1) := by decide +kernel
theorem dX7_init_64 : decode cX7_init 64 = .ok (.invokespecial 35, 3) := by decide +kernel
theorem dX7_init_67 : decode cX7_init 67 = .ok (.putfield 40, 3) := by decide +kernel
theorem dX7_init_70 : decode cX7_init 70 = .ok (.return_, 1) := by decide +kernel
set_option maxRecDepth 20000 in
theorem ggX7_append_X6_add : GoodIn wsX7_append wsX6_add := goodIn_r _ [10, 11, 12, 19, 20] (by decide +kernel) (by decide +kernel)
set_option maxRecDepth 20000 in
theorem gX7_append_X6_add : GoodIn wsX7_append (wsV RX7 59 RX6 yX6_add wsX6_add) := goodIn_app (goodIn_of _ (by decide +kernel)) ggX7_append_X6_add
theorem dX7_append_0 : decode cX7_append 0 = .ok (.iload_n 1, 1) := by decide +kernel
theorem dX7_append_1 : decode cX7_append 1 = .ok (.ifCond .lt 10, 3) := by decide +kernel
theorem dX7_append_4 : decode cX7_append 4 = .ok (.iload_n 1, 1) := by decide +kernel
theorem dX7_append_5 : decode cX7_append 5 = .ok (.sipush 255, 3) := by decide +kernel
theorem dX7_append_8 : decode cX7_append 8 = .ok (.if_icmp .le 13, 3) := by decide +kernel
theorem dX7_append_11 : decode cX7_append 11 = .ok (.new 43, 3) := by decide +kernel
theorem dX7_append_14 : decode cX7_append 14 = .ok (.dup, 1) := by decide +kernel
theorem dX7_append_15 : decode cX7_append 15 = .ok (.ldc 45, 2) := by decide +kernel
theorem dX7_append_17 : decode cX7_append 17 = .ok (.invokespecial 47, 3) := by decide +kernel
theorem dX7_append_20 : decode cX7_append 20 = .ok (.athrow, 1) := by decide +kernel
theorem dX7_append_21 : decode cX7_append 21 = .ok (.aload_n 0, 1) := by decide +kernel
theorem dX7_append_22 : decode cX7_append 22 = .ok (.getfield 12, 3) := by decide +kernel
theorem dX7_append_25 : decode cX7_append 25 = .ok (.getfield 50, 3) := by decide +kernel
theorem dX7_append_28 : decode cX7_append 28 = .ok (.bipush 120, 2) := by decide +kernel
theorem dX7_append_30 : decode cX7_append 30 = .ok (.if_icmp .lt 13, 3) := by decide +kernel
theorem dX7_append_33 : decode cX7_append 33 = .ok (.new 54, 3) := by decide +kernel
theorem dX7_append_36 : decode cX7_append 36 = .ok (.dup, 1) := by decide +kernel
theorem dX7_append_37 : decode cX7_append 37 = .ok (.ldc 56, 2) := by decide +kernel
theorem dX7_append_39 : decode cX7_append 39 = .ok (.invokespecial 58, 3) := by decide +kernel
theorem dX7_append_42 : decode cX7_append 42 = .ok (.athrow, 1) := by decide +kernel
theorem dX7_append_43 : decode cX7_append 43 = .ok (.aload_n 0, 1) := by decide +kernel
theorem dX7_append_44 : decode cX7_append 44 = .ok (.getfield 12, 3) := by decide +kernel
theorem dX7_append_47 : decode cX7_append 47 = .ok (.iload_n 1, 1) := by decide +kernel
theorem dX7_append_48 : decode cX7_append 48 = .ok (.invokevirtual 59, 3) := by decide +kernel
theorem dX7_append_51 : decode cX7_append 51 = .ok (.aload_n 0, 1) := by decide +kernel
theorem dX7_append_52 : decode cX7_append 52 = .ok (.getfield 12, 3) := by decide +kernel
theorem dX7_append_55 : decode cX7_append 55 = .ok (.getfield 50, 3) := by decide +kernel
theorem dX7_append_58 : decode cX7_append 58 = .ok (.ireturn, 1) := by decide +kernel
theorem dX7_clearText_0 : decode cX7_clearText 0 = .ok (.aload_n 0, 1) := by decide +kernel
theorem dX7_clearText_1 : decode cX7_clearText 1 = .ok (.getfield 12, 3) := by decide +kernel
theorem dX7_clearText_4 : decode cX7_clearText 4 = .ok (.getfield 50, 3) := by decide +kernel
theorem dX7_clearText_7 : decode cX7_clearText 7 = .ok (.istore_n 1, 1) := by decide +kernel
theorem dX7_clearText_8 : decode cX7_clearText 8 = .ok (.aload_n 0, 1) := by decide +kernel
theorem dX7_clearText_9 : decode cX7_clearText 9 = .ok (.getfield 12, 3) := by decide +kernel
theorem dX7_clearText_12 : decode cX7_clearText 12 = .ok (.iconst 0, 1) := by decide +kernel
theorem dX7_clearText_13 : decode cX7_clearText 13 = .ok (.putfield 50, 3) := by decide +kernel
theorem dX7_clearText_16 : decode cX7_clearText 16 = .ok (.iload_n 1, 1) := by decide +kernel
theorem dX7_clearText_17 : decode cX7_clearText 17 = .ok (.ireturn, 1) := by decide +kernel
set_option maxRecDepth 20000 in
theorem ggX7_errorPosition_X6_firstError : GoodIn wsX7_errorPosition wsX6_firstError := goodIn_r _ [6, 7, 8, 9, 10, 5, 11, 12, 13, 14, 15, 16, 17, 18, 19, 20, 21, 22, 23, 24, 25, 26, 27, 28, 29, 30, 31, 32, 39, 40] (by decide +kernel) (by decide +kernel)
set_option maxRecDepth 20000 in
theorem gX7_errorPosition_X6_firstError : GoodIn wsX7_errorPosition (wsV RX7 63 RX6 yX6_firstError wsX6_firstError) := goodIn_app (goodIn_of _ (by decide +kernel)) ggX7_errorPosition_X6_firstError
theorem dX7_errorPosition_0 : decode cX7_errorPosition 0 = .ok (.aload_n 0, 1) := by decide +kernel
theorem dX7_errorPosition_1 : decode cX7_errorPosition 1 = .ok (.getfield 12, 3) := by decide +kernel
theorem dX7_errorPosition_4 : decode cX7_errorPosition 4 = .ok (.invokevirtual 63, 3) := by decide +kernel
theorem dX7_errorPosition_7 : decode cX7_errorPosition 7 = .ok (.ireturn, 1) := by decide +kernel
set_option maxRecDepth 20000 in
theorem ggX7_load_X6_firstError : GoodIn wsX7_load wsX6_firstError := goodIn_r _ [12, 13, 14, 15, 16, 11, 17, 18, 19, 20, 21, 22, 23, 24, 25, 26, 27, 28, 29, 30, 31, 32, 33, 34, 35, 36, 37, 38, 214, 215] (by decide +kernel) (by decide +kernel)
set_option maxRecDepth 20000 in
theorem gX7_load_X6_firstError : GoodIn wsX7_load (wsV RX7 63 RX6 yX6_firstError wsX6_firstError) := goodIn_app (goodIn_of _ (by decide +kernel)) ggX7_load_X6_firstError
set_option maxRecDepth 20000 in
theorem ggX7_load_X6_number : GoodIn wsX7_load wsX6_number := goodIn_r _ [42, 27, 28, 29, 11, 30, 18, 19, 20, 21, 13, 22, 214, 215] (by decide +kernel) (by decide +kernel)
set_option maxRecDepth 20000 in
theorem gX7_load_X6_number : GoodIn wsX7_load (wsV RX7 69 RX6 yX6_number wsX6_number) := goodIn_app (goodIn_of _ (by decide +kernel)) ggX7_load_X6_number
set_option maxRecDepth 20000 in
theorem ggX7_load_X5_begin : GoodIn wsX7_load wsX5_begin := goodIn_r _ [47, 48, 49, 50, 51, 52, 53, 54, 55, 56, 57, 58, 59, 60, 61, 62, 63, 64, 65, 66, 67, 68, 69, 70, 71, 72, 73, 74, 75, 76, 77, 78, 79, 80, 81, 82, 83, 84, 85, 86, 201, 202, 203, 204, 205, 206, 207, 208, 209, 210, 211, 216, 217, 218, 219, 220, 221, 222, 223, 224, 225, 226, 227, 228] (by decide +kernel) (by decide +kernel)
set_option maxRecDepth 20000 in
theorem gX7_load_X5_begin : GoodIn wsX7_load (wsV RX7 73 RX5 yX5_begin wsX5_begin) := goodIn_app (goodIn_of _ (by decide +kernel)) ggX7_load_X5_begin
set_option maxRecDepth 20000 in
theorem ggX7_load_X2_forget : GoodIn wsX7_load wsX2_forget := goodIn_r _ [91, 92, 93, 229, 230, 231] (by decide +kernel) (by decide +kernel)
set_option maxRecDepth 20000 in
theorem gX7_load_X2_forget : GoodIn wsX7_load (wsV RX7 80 RX2 yX2_forget wsX2_forget) := goodIn_app (goodIn_of _ (by decide +kernel)) ggX7_load_X2_forget
set_option maxRecDepth 20000 in
theorem ggX7_load_X7_doCommands : GoodIn wsX7_load wsX7_doCommands := goodIn_r _ [97, 3, 4, 98, 19, 20, 11, 21, 13, 22, 99, 36, 37, 38, 39, 40, 41, 42, 27, 28, 29, 30, 18, 100, 101, 102, 46, 103, 62, 58, 56, 55, 60, 57, 104, 105, 106, 107, 108, 109, 110, 111, 112, 113, 114, 115, 116, 117, 118, 119, 120, 53, 48, 121, 122, 123, 66, 124, 71, 68, 70, 125, 126, 127, 128, 129, 130, 131, 132, 133, 134, 135, 136, 54, 61, 137, 138, 139, 140, 141, 142, 143, 144, 145, 146, 147, 148, 149, 150, 69, 151, 152, 153, 154, 155, 50, 51, 52, 156, 157, 158, 159, 160, 161, 162, 163, 164, 165, 166, 167, 168, 169, 170, 171, 59, 172, 173, 174, 175, 176, 177, 178, 179, 180, 181, 182, 75, 183, 86, 77, 184, 185, 186, 187, 84, 85, 188, 189, 190, 191, 78, 192, 79, 80, 81, 82, 83, 193, 194, 195, 196, 197, 198, 199, 200, 214, 215, 201, 202, 203, 204, 205, 206, 207, 208, 209, 210, 211, 222, 223, 224, 225, 226, 227, 228, 216, 217, 218, 219, 220, 221] (by decide +kernel) (by decide +kernel)
set_option maxRecDepth 20000 in
theorem gX7_load_X7_doCommands : GoodIn wsX7_load (wsV RX7 87 RX7 yX7_doCommands wsX7_doCommands) := goodIn_app (goodIn_of _ (by decide +kernel)) ggX7_load_X7_doCommands
theorem dX7_load_0 : decode cX7_load 0 = .ok (.aload_n 0, 1) := by decide +kernel
theorem dX7_load_1 : decode cX7_load 1 = .ok (.getfield 12, 3) := by decide +kernel
theorem dX7_load_4 : decode cX7_load 4 = .ok (.invokevirtual 63, 3) := by decide +kernel
theorem dX7_load_7 : decode cX7_load 7 = .ok (.iconst (-1), 1) := by decide +kernel
theorem dX7_load_8 : decode cX7_load 8 = .ok (.if_icmp .eq 13, 3) := by decide +kernel
theorem dX7_load_11 : decode cX7_load 11 = .ok (.new 54, 3) := by decide +kernel
theorem dX7_load_14 : decode cX7_load 14 = .ok (.dup, 1) := by decide +kernel
theorem dX7_load_15 : decode cX7_load 15 = .ok (.ldc 67, 2) := by decide +kernel
theorem dX7_load_17 : decode cX7_load 17 = .ok (.invokespecial 58, 3) := by decide +kernel
theorem dX7_load_20 : decode cX7_load 20 = .ok (.athrow, 1) := by decide +kernel
theorem dX7_load_21 : decode cX7_load 21 = .ok (.aload_n 0, 1) := by decide +kernel
theorem dX7_load_22 : decode cX7_load 22 = .ok (.getfield 19, 3) := by decide +kernel
theorem dX7_load_25 : decode cX7_load 25 = .ok (.aload_n 0, 1) := by decide +kernel
theorem dX7_load_26 : decode cX7_load 26 = .ok (.getfield 12, 3) := by decide +kernel
theorem dX7_load_29 : decode cX7_load 29 = .ok (.iconst 1, 1) := by decide +kernel
theorem dX7_load_30 : decode cX7_load 30 = .ok (.iconst 2, 1) := by decide +kernel
theorem dX7_load_31 : decode cX7_load 31 = .ok (.invokevirtual 69, 3) := by decide +kernel
theorem dX7_load_34 : decode cX7_load 34 = .ok (.invokevirtual 73, 3) := by decide +kernel
theorem dX7_load_37 : decode cX7_load 37 = .ok (.aload_n 0, 1) := by decide +kernel
theorem dX7_load_38 : decode cX7_load 38 = .ok (.getfield 19, 3) := by decide +kernel
theorem dX7_load_41 : decode cX7_load 41 = .ok (.getfield 76, 3) := by decide +kernel
theorem dX7_load_44 : decode cX7_load 44 = .ok (.iconst 0, 1) := by decide +kernel
theorem dX7_load_45 : decode cX7_load 45 = .ok (.aload_n 0, 1) := by decide +kernel
theorem dX7_load_46 : decode cX7_load 46 = .ok (.getfield 12, 3) := by decide +kernel
theorem dX7_load_49 : decode cX7_load 49 = .ok (.iconst 3, 1) := by decide +kernel
theorem dX7_load_50 : decode cX7_load 50 = .ok (.iconst 1, 1) := by decide +kernel
theorem dX7_load_51 : decode cX7_load 51 = .ok (.invokevirtual 69, 3) := by decide +kernel
theorem dX7_load_54 : decode cX7_load 54 = .ok (.iastore, 1) := by decide +kernel
theorem dX7_load_55 : decode cX7_load 55 = .ok (.aload_n 0, 1) := by decide +kernel
theorem dX7_load_56 : decode cX7_load 56 = .ok (.getfield 19, 3) := by decide +kernel
theorem dX7_load_59 : decode cX7_load 59 = .ok (.getfield 76, 3) := by decide +kernel
theorem dX7_load_62 : decode cX7_load 62 = .ok (.iconst 1, 1) := by decide +kernel
theorem dX7_load_63 : decode cX7_load 63 = .ok (.aload_n 0, 1) := by decide +kernel
theorem dX7_load_64 : decode cX7_load 64 = .ok (.getfield 12, 3) := by decide +kernel
theorem dX7_load_67 : decode cX7_load 67 = .ok (.iconst 4, 1) := by decide +kernel
theorem dX7_load_68 : decode cX7_load 68 = .ok (.iconst 1, 1) := by decide +kernel
theorem dX7_load_69 : decode cX7_load 69 = .ok (.invokevirtual 69, 3) := by decide +kernel
theorem dX7_load_72 : decode cX7_load 72 = .ok (.iastore, 1) := by decide +kernel
theorem dX7_load_73 : decode cX7_load 73 = .ok (.aload_n 0, 1) := by decide +kernel
theorem dX7_load_74 : decode cX7_load 74 = .ok (.getfield 19, 3) := by decide +kernel
theorem dX7_load_77 : decode cX7_load 77 = .ok (.getfield 76, 3) := by decide +kernel
theorem dX7_load_80 : decode cX7_load 80 = .ok (.iconst 2, 1) := by decide +kernel
theorem dX7_load_81 : decode cX7_load 81 = .ok (.aload_n 0, 1) := by decide +kernel
theorem dX7_load_82 : decode cX7_load 82 = .ok (.getfield 12, 3) := by decide +kernel
theorem dX7_load_85 : decode cX7_load 85 = .ok (.iconst 5, 1) := by decide +kernel
theorem dX7_load_86 : decode cX7_load 86 = .ok (.iconst 2, 1) := by decide +kernel
theorem dX7_load_87 : decode cX7_load 87 = .ok (.invokevirtual 69, 3) := by decide +kernel
theorem dX7_load_90 : decode cX7_load 90 = .ok (.iastore, 1) := by decide +kernel
theorem dX7_load_91 : decode cX7_load 91 = .ok (.aload_n 0, 1) := by decide +kernel
theorem dX7_load_92 : decode cX7_load 92 = .ok (.getfield 29, 3) := by decide +kernel
theorem dX7_load_95 : decode cX7_load 95 = .ok (.invokevirtual 80, 3) := by decide +kernel
theorem dX7_load_98 : decode cX7_load 98 = .ok (.aload_n 0, 1) := by decide +kernel
theorem dX7_load_99 : decode cX7_load 99 = .ok (.getfield 36, 3) := by decide +kernel
theorem dX7_load_102 : decode cX7_load 102 = .ok (.iconst 0, 1) := by decide +kernel
theorem dX7_load_103 : decode cX7_load 103 = .ok (.putfield 83, 3) := by decide +kernel
theorem dX7_load_106 : decode cX7_load 106 = .ok (.aload_n 0, 1) := by decide +kernel
theorem dX7_load_107 : decode cX7_load 107 = .ok (.getfield 40, 3) := by decide +kernel
theorem dX7_load_110 : decode cX7_load 110 = .ok (.iconst 0, 1) := by decide +kernel
theorem dX7_load_111 : decode cX7_load 111 = .ok (.putfield 83, 3) := by decide +kernel
theorem dX7_load_114 : decode cX7_load 114 = .ok (.aload_n 0, 1) := by decide +kernel
theorem dX7_load_115 : decode cX7_load 115 = .ok (.invokevirtual 87, 3) := by decide +kernel
theorem dX7_load_118 : decode cX7_load 118 = .ok (.ireturn, 1) := by decide +kernel
set_option maxRecDepth 20000 in
theorem ggX7_doCommands_X6_signAt : GoodIn wsX7_doCommands wsX6_signAt := goodIn_r _ [7, 8, 9, 155, 156] (by decide +kernel) (by decide +kernel)
set_option maxRecDepth 20000 in
theorem gX7_doCommands_X6_signAt : GoodIn wsX7_doCommands (wsV RX7 90 RX6 yX6_signAt wsX6_signAt) := goodIn_app (goodIn_of _ (by decide +kernel)) ggX7_doCommands_X6_signAt
set_option maxRecDepth 20000 in
theorem ggX7_doCommands_X7_digitsBehind : GoodIn wsX7_doCommands wsX7_digitsBehind := goodIn_r _ [13] (by decide +kernel) (by decide +kernel)
set_option maxRecDepth 20000 in
theorem gX7_doCommands_X7_digitsBehind : GoodIn wsX7_doCommands (va_wsS RX7 94 yX7_digitsBehind wsX7_digitsBehind) := goodIn_app (goodIn_of _ (by decide +kernel)) ggX7_doCommands_X7_digitsBehind
set_option maxRecDepth 20000 in
theorem ggX7_doCommands_X6_number : GoodIn wsX7_doCommands wsX6_number := goodIn_r _ [17, 18, 19, 20, 6, 21, 22, 4, 5, 7, 8, 9, 155, 156] (by decide +kernel) (by decide +kernel)
set_option maxRecDepth 20000 in
theorem gX7_doCommands_X6_number : GoodIn wsX7_doCommands (wsV RX7 69 RX6 yX6_number wsX6_number) := goodIn_app (goodIn_of _ (by decide +kernel)) ggX7_doCommands_X6_number
set_option maxRecDepth 20000 in
theorem ggX7_doCommands_X5_receive : GoodIn wsX7_doCommands wsX5_receive := goodIn_r _ [27, 28, 29, 30, 31, 32, 33, 34, 12, 35, 36, 37, 38, 39, 40, 41, 42, 43, 44, 45, 46, 157, 158, 159, 160, 161, 162, 163, 164, 165, 166, 167, 168, 169, 170, 171, 172, 173, 174, 175, 176] (by decide +kernel) (by decide +kernel)
set_option maxRecDepth 20000 in
theorem gX7_doCommands_X5_receive : GoodIn wsX7_doCommands (wsV RX7 97 RX5 yX5_receive wsX5_receive) := goodIn_app (goodIn_of _ (by decide +kernel)) ggX7_doCommands_X5_receive
set_option maxRecDepth 20000 in
theorem ggX7_doCommands_X5_pass : GoodIn wsX7_doCommands wsX5_pass := goodIn_r _ [50, 51, 52, 53, 54, 55, 56, 57, 58, 59, 60, 61, 62, 63, 26, 64, 31, 65, 66, 67, 39, 68, 41, 46, 69, 70, 71, 72, 73, 33, 30, 74, 36, 37, 38, 40, 42, 43, 44, 45, 75, 76, 77, 78, 79, 80, 81, 82, 83, 34, 12, 35, 84, 85, 86, 87, 88, 89, 90, 91, 92, 93, 94, 95, 96, 97, 98, 99, 100, 101, 102, 103, 104, 105, 106, 107, 108, 109, 110, 111, 112, 113, 114, 115, 116, 117, 118, 119, 120, 121, 122, 123, 124, 125, 126, 127, 128, 129, 130, 131, 132, 133, 134, 135, 136, 137, 138, 139, 140, 141, 142, 143, 144, 145, 146, 157, 158, 159, 160, 161, 162, 163, 164, 165, 166, 167, 177, 178, 179, 180, 175, 176, 168, 169, 170, 171, 172, 173, 174] (by decide +kernel) (by decide +kernel)
set_option maxRecDepth 20000 in
theorem gX7_doCommands_X5_pass : GoodIn wsX7_doCommands (wsV RX7 100 RX5 yX5_pass wsX5_pass) := goodIn_app (goodIn_of _ (by decide +kernel)) ggX7_doCommands_X5_pass
set_option maxRecDepth 20000 in
theorem ggX7_doCommands_X1_has : GoodIn wsX7_doCommands wsX1_has := goodIn_r _ [82, 41, 175, 176] (by decide +kernel) (by decide +kernel)
set_option maxRecDepth 20000 in
theorem gX7_doCommands_X1_has : GoodIn wsX7_doCommands (wsV RX7 107 RX1 yX1_has wsX1_has) := goodIn_app (goodIn_of _ (by decide +kernel)) ggX7_doCommands_X1_has
set_option maxRecDepth 20000 in
theorem ggX7_doCommands_X5_dropKept : GoodIn wsX7_doCommands wsX5_dropKept := goodIn_r _ [113, 51, 73, 114, 65, 66, 67, 39, 68, 41, 46, 115, 116, 117, 56, 118, 89, 59, 58, 90, 91, 92, 93, 94, 95, 96, 97, 79, 80, 81, 82, 75, 76, 77, 78, 42, 43, 44, 45, 83, 34, 12, 35, 157, 158, 159, 160, 161, 162, 163, 164, 165, 166, 167, 175, 176, 177, 178, 179, 180] (by decide +kernel) (by decide +kernel)
set_option maxRecDepth 20000 in
theorem gX7_doCommands_X5_dropKept : GoodIn wsX7_doCommands (wsV RX7 113 RX5 yX5_dropKept wsX5_dropKept) := goodIn_app (goodIn_of _ (by decide +kernel)) ggX7_doCommands_X5_dropKept
theorem dX7_doCommands_0 : decode cX7_doCommands 0 = .ok (.iconst 0, 1) := by decide +kernel
theorem dX7_doCommands_1 : decode cX7_doCommands 1 = .ok (.istore_n 1, 1) := by decide +kernel
theorem dX7_doCommands_2 : decode cX7_doCommands 2 = .ok (.bipush 7, 2) := by decide +kernel
theorem dX7_doCommands_4 : decode cX7_doCommands 4 = .ok (.istore_n 2, 1) := by decide +kernel
theorem dX7_doCommands_5 : decode cX7_doCommands 5 = .ok (.iconst 0, 1) := by decide +kernel
theorem dX7_doCommands_6 : decode cX7_doCommands 6 = .ok (.istore_n 3, 1) := by decide +kernel
theorem dX7_doCommands_7 : decode cX7_doCommands 7 = .ok (.iload_n 3, 1) := by decide +kernel
theorem dX7_doCommands_8 : decode cX7_doCommands 8 = .ok (.bipush 120, 2) := by decide +kernel
theorem dX7_doCommands_10 : decode cX7_doCommands 10 = .ok (.if_icmp .ge 129, 3) := by decide +kernel
theorem dX7_doCommands_13 : decode cX7_doCommands 13 = .ok (.iload_n 2, 1) := by decide +kernel
theorem dX7_doCommands_14 : decode cX7_doCommands 14 = .ok (.aload_n 0, 1) := by decide +kernel
theorem dX7_doCommands_15 : decode cX7_doCommands 15 = .ok (.getfield 12, 3) := by decide +kernel
theorem dX7_doCommands_18 : decode cX7_doCommands 18 = .ok (.getfield 50, 3) := by decide +kernel
theorem dX7_doCommands_21 : decode cX7_doCommands 21 = .ok (.if_icmp .ge 118, 3) := by decide +kernel
theorem dX7_doCommands_24 : decode cX7_doCommands 24 = .ok (.aload_n 0, 1) := by decide +kernel
theorem dX7_doCommands_25 : decode cX7_doCommands 25 = .ok (.getfield 12, 3) := by decide +kernel
theorem dX7_doCommands_28 : decode cX7_doCommands 28 = .ok (.iload_n 2, 1) := by decide +kernel
theorem dX7_doCommands_29 : decode cX7_doCommands 29 = .ok (.invokevirtual 90, 3) := by decide +kernel
theorem dX7_doCommands_32 : decode cX7_doCommands 32 = .ok (.istore 4, 2) := by decide +kernel
theorem dX7_doCommands_34 : decode cX7_doCommands 34 = .ok (.iload 4, 2) := by decide +kernel
theorem dX7_doCommands_36 : decode cX7_doCommands 36 = .ok (.invokestatic 94, 3) := by decide +kernel
theorem dX7_doCommands_39 : decode cX7_doCommands 39 = .ok (.istore 5, 2) := by decide +kernel
theorem dX7_doCommands_41 : decode cX7_doCommands 41 = .ok (.aload_n 0, 1) := by decide +kernel
theorem dX7_doCommands_42 : decode cX7_doCommands 42 = .ok (.getfield 12, 3) := by decide +kernel
theorem dX7_doCommands_45 : decode cX7_doCommands 45 = .ok (.iload_n 2, 1) := by decide +kernel
theorem dX7_doCommands_46 : decode cX7_doCommands 46 = .ok (.iconst 1, 1) := by decide +kernel
theorem dX7_doCommands_47 : decode cX7_doCommands 47 = .ok (.iadd, 1) := by decide +kernel
theorem dX7_doCommands_48 : decode cX7_doCommands 48 = .ok (.iload 5, 2) := by decide +kernel
theorem dX7_doCommands_50 : decode cX7_doCommands 50 = .ok (.invokevirtual 69, 3) := by decide +kernel
theorem dX7_doCommands_53 : decode cX7_doCommands 53 = .ok (.istore 6, 2) := by decide +kernel
theorem dX7_doCommands_55 : decode cX7_doCommands 55 = .ok (.iload 4, 2) := by decide +kernel
theorem dX7_doCommands_57 : decode cX7_doCommands 57 = .ok (.bipush 115, 2) := by decide +kernel
theorem dX7_doCommands_59 : decode cX7_doCommands 59 = .ok (.if_icmp .ne 16, 3) := by decide +kernel
theorem dX7_doCommands_62 : decode cX7_doCommands 62 = .ok (.aload_n 0, 1) := by decide +kernel
theorem dX7_doCommands_63 : decode cX7_doCommands 63 = .ok (.getfield 19, 3) := by decide +kernel
theorem dX7_doCommands_66 : decode cX7_doCommands 66 = .ok (.iload 6, 2) := by decide +kernel
theorem dX7_doCommands_68 : decode cX7_doCommands 68 = .ok (.invokevirtual 97, 3) := by decide +kernel
theorem dX7_doCommands_71 : decode cX7_doCommands 71 = .ok (.pop, 1) := by decide +kernel
theorem dX7_doCommands_72 : decode cX7_doCommands 72 = .ok (.goto 54, 3) := by decide +kernel
theorem dX7_doCommands_75 : decode cX7_doCommands 75 = .ok (.iload 4, 2) := by decide +kernel
theorem dX7_doCommands_77 : decode cX7_doCommands 77 = .ok (.bipush 110, 2) := by decide +kernel
theorem dX7_doCommands_79 : decode cX7_doCommands 79 = .ok (.if_icmp .ne 16, 3) := by decide +kernel
theorem dX7_doCommands_82 : decode cX7_doCommands 82 = .ok (.aload_n 0, 1) := by decide +kernel
theorem dX7_doCommands_83 : decode cX7_doCommands 83 = .ok (.getfield 19, 3) := by decide +kernel
theorem dX7_doCommands_86 : decode cX7_doCommands 86 = .ok (.iload 6, 2) := by decide +kernel
theorem dX7_doCommands_88 : decode cX7_doCommands 88 = .ok (.invokevirtual 100, 3) := by decide +kernel
theorem dX7_doCommands_91 : decode cX7_doCommands 91 = .ok (.pop, 1) := by decide +kernel
theorem dX7_doCommands_92 : decode cX7_doCommands 92 = .ok (.goto 34, 3) := by decide +kernel
theorem dX7_doCommands_95 : decode cX7_doCommands 95 = .ok (.aload_n 0, 1) := by decide +kernel
theorem dX7_doCommands_96 : decode cX7_doCommands 96 = .ok (.getfield 19, 3) := by decide +kernel
theorem dX7_doCommands_99 : decode cX7_doCommands 99 = .ok (.getfield 103, 3) := by decide +kernel
theorem dX7_doCommands_102 : decode cX7_doCommands 102 = .ok (.iload 6, 2) := by decide +kernel
theorem dX7_doCommands_104 : decode cX7_doCommands 104 = .ok (.invokevirtual 107, 3) := by decide +kernel
theorem dX7_doCommands_107 : decode cX7_doCommands 107 = .ok (.ifCond .eq 16, 3) := by decide +kernel
theorem dX7_doCommands_110 : decode cX7_doCommands 110 = .ok (.aload_n 0, 1) := by decide +kernel
theorem dX7_doCommands_111 : decode cX7_doCommands 111 = .ok (.getfield 19, 3) := by decide +kernel
theorem dX7_doCommands_114 : decode cX7_doCommands 114 = .ok (.iload 6, 2) := by decide +kernel
theorem dX7_doCommands_116 : decode cX7_doCommands 116 = .ok (.invokevirtual 113, 3) := by decide +kernel
theorem dX7_doCommands_119 : decode cX7_doCommands 119 = .ok (.pop, 1) := by decide +kernel
theorem dX7_doCommands_120 : decode cX7_doCommands 120 = .ok (.goto 6, 3) := by decide +kernel
theorem dX7_doCommands_123 : decode cX7_doCommands 123 = .ok (.iinc 1 1, 3) := by decide +kernel
theorem dX7_doCommands_126 : decode cX7_doCommands 126 = .ok (.iload_n 2, 1) := by decide +kernel
theorem dX7_doCommands_127 : decode cX7_doCommands 127 = .ok (.iconst 1, 1) := by decide +kernel
theorem dX7_doCommands_128 : decode cX7_doCommands 128 = .ok (.iadd, 1) := by decide +kernel
theorem dX7_doCommands_129 : decode cX7_doCommands 129 = .ok (.iload 5, 2) := by decide +kernel
theorem dX7_doCommands_131 : decode cX7_doCommands 131 = .ok (.iadd, 1) := by decide +kernel
theorem dX7_doCommands_132 : decode cX7_doCommands 132 = .ok (.istore_n 2, 1) := by decide +kernel
theorem dX7_doCommands_133 : decode cX7_doCommands 133 = .ok (.iinc 3 1, 3) := by decide +kernel
theorem dX7_doCommands_136 : decode cX7_doCommands 136 = .ok (.goto (-129), 3) := by decide +kernel
theorem dX7_doCommands_139 : decode cX7_doCommands 139 = .ok (.iload_n 1, 1) := by decide +kernel
theorem dX7_doCommands_140 : decode cX7_doCommands 140 = .ok (.ireturn, 1) := by decide +kernel
theorem dX7_about_0 : decode cX7_about 0 = .ok (.iload_n 1, 1) := by decide +kernel
theorem dX7_about_1 : decode cX7_about 1 = .ok (.tableswitch 210 0 13 #[71, 79, 87, 98, 109, 117, 125, 133, 144, 155, 166, 177, 188, 199], 71) := by decide +kernel
theorem dX7_about_72 : decode cX7_about 72 = .ok (.aload_n 0, 1) := by decide +kernel
theorem dX7_about_73 : decode cX7_about 73 = .ok (.getfield 19, 3) := by decide +kernel
theorem dX7_about_76 : decode cX7_about 76 = .ok (.getfield 116, 3) := by decide +kernel
theorem dX7_about_79 : decode cX7_about 79 = .ok (.ireturn, 1) := by decide +kernel
theorem dX7_about_80 : decode cX7_about 80 = .ok (.aload_n 0, 1) := by decide +kernel
theorem dX7_about_81 : decode cX7_about 81 = .ok (.getfield 19, 3) := by decide +kernel
theorem dX7_about_84 : decode cX7_about 84 = .ok (.getfield 119, 3) := by decide +kernel
theorem dX7_about_87 : decode cX7_about 87 = .ok (.ireturn, 1) := by decide +kernel
theorem dX7_about_88 : decode cX7_about 88 = .ok (.aload_n 0, 1) := by decide +kernel
theorem dX7_about_89 : decode cX7_about 89 = .ok (.getfield 19, 3) := by decide +kernel
theorem dX7_about_92 : decode cX7_about 92 = .ok (.getfield 103, 3) := by decide +kernel
theorem dX7_about_95 : decode cX7_about 95 = .ok (.getfield 122, 3) := by decide +kernel
theorem dX7_about_98 : decode cX7_about 98 = .ok (.ireturn, 1) := by decide +kernel
theorem dX7_about_99 : decode cX7_about 99 = .ok (.aload_n 0, 1) := by decide +kernel
theorem dX7_about_100 : decode cX7_about 100 = .ok (.getfield 19, 3) := by decide +kernel
theorem dX7_about_103 : decode cX7_about 103 = .ok (.getfield 123, 3) := by decide +kernel
theorem dX7_about_106 : decode cX7_about 106 = .ok (.getfield 122, 3) := by decide +kernel
theorem dX7_about_109 : decode cX7_about 109 = .ok (.ireturn, 1) := by decide +kernel
theorem dX7_about_110 : decode cX7_about 110 = .ok (.aload_n 0, 1) := by decide +kernel
theorem dX7_about_111 : decode cX7_about 111 = .ok (.getfield 19, 3) := by decide +kernel
theorem dX7_about_114 : decode cX7_about 114 = .ok (.getfield 126, 3) := by decide +kernel
theorem dX7_about_117 : decode cX7_about 117 = .ok (.ireturn, 1) := by decide +kernel
theorem dX7_about_118 : decode cX7_about 118 = .ok (.aload_n 0, 1) := by decide +kernel
theorem dX7_about_119 : decode cX7_about 119 = .ok (.getfield 19, 3) := by decide +kernel
theorem dX7_about_122 : decode cX7_about 122 = .ok (.getfield 129, 3) := by decide +kernel
theorem dX7_about_125 : decode cX7_about 125 = .ok (.ireturn, 1) := by decide +kernel
theorem dX7_about_126 : decode cX7_about 126 = .ok (.aload_n 0, 1) := by decide +kernel
theorem dX7_about_127 : decode cX7_about 127 = .ok (.getfield 19, 3) := by decide +kernel
theorem dX7_about_130 : decode cX7_about 130 = .ok (.getfield 132, 3) := by decide +kernel
theorem dX7_about_133 : decode cX7_about 133 = .ok (.ireturn, 1) := by decide +kernel
theorem dX7_about_134 : decode cX7_about 134 = .ok (.aload_n 0, 1) := by decide +kernel
theorem dX7_about_135 : decode cX7_about 135 = .ok (.getfield 19, 3) := by decide +kernel
theorem dX7_about_138 : decode cX7_about 138 = .ok (.getfield 135, 3) := by decide +kernel
theorem dX7_about_141 : decode cX7_about 141 = .ok (.getfield 139, 3) := by decide +kernel
theorem dX7_about_144 : decode cX7_about 144 = .ok (.ireturn, 1) := by decide +kernel
theorem dX7_about_145 : decode cX7_about 145 = .ok (.aload_n 0, 1) := by decide +kernel
theorem dX7_about_146 : decode cX7_about 146 = .ok (.getfield 19, 3) := by decide +kernel
theorem dX7_about_149 : decode cX7_about 149 = .ok (.getfield 135, 3) := by decide +kernel
theorem dX7_about_152 : decode cX7_about 152 = .ok (.getfield 144, 3) := by decide +kernel
theorem dX7_about_155 : decode cX7_about 155 = .ok (.ireturn, 1) := by decide +kernel
theorem dX7_about_156 : decode cX7_about 156 = .ok (.aload_n 0, 1) := by decide +kernel
theorem dX7_about_157 : decode cX7_about 157 = .ok (.getfield 19, 3) := by decide +kernel
theorem dX7_about_160 : decode cX7_about 160 = .ok (.getfield 147, 3) := by decide +kernel
theorem dX7_about_163 : decode cX7_about 163 = .ok (.getfield 151, 3) := by decide +kernel
theorem dX7_about_166 : decode cX7_about 166 = .ok (.ireturn, 1) := by decide +kernel
theorem dX7_about_167 : decode cX7_about 167 = .ok (.aload_n 0, 1) := by decide +kernel
theorem dX7_about_168 : decode cX7_about 168 = .ok (.getfield 19, 3) := by decide +kernel
theorem dX7_about_171 : decode cX7_about 171 = .ok (.getfield 147, 3) := by decide +kernel
theorem dX7_about_174 : decode cX7_about 174 = .ok (.getfield 156, 3) := by decide +kernel
theorem dX7_about_177 : decode cX7_about 177 = .ok (.ireturn, 1) := by decide +kernel
theorem dX7_about_178 : decode cX7_about 178 = .ok (.aload_n 0, 1) := by decide +kernel
theorem dX7_about_179 : decode cX7_about 179 = .ok (.getfield 19, 3) := by decide +kernel
theorem dX7_about_182 : decode cX7_about 182 = .ok (.getfield 135, 3) := by decide +kernel
theorem dX7_about_185 : decode cX7_about 185 = .ok (.getfield 159, 3) := by decide +kernel
theorem dX7_about_188 : decode cX7_about 188 = .ok (.ireturn, 1) := by decide +kernel
theorem dX7_about_189 : decode cX7_about 189 = .ok (.aload_n 0, 1) := by decide +kernel
theorem dX7_about_190 : decode cX7_about 190 = .ok (.getfield 19, 3) := by decide +kernel
theorem dX7_about_193 : decode cX7_about 193 = .ok (.getfield 147, 3) := by decide +kernel
theorem dX7_about_196 : decode cX7_about 196 = .ok (.getfield 162, 3) := by decide +kernel
theorem dX7_about_199 : decode cX7_about 199 = .ok (.ireturn, 1) := by decide +kernel
theorem dX7_about_200 : decode cX7_about 200 = .ok (.aload_n 0, 1) := by decide +kernel
theorem dX7_about_201 : decode cX7_about 201 = .ok (.getfield 19, 3) := by decide +kernel
theorem dX7_about_204 : decode cX7_about 204 = .ok (.getfield 147, 3) := by decide +kernel
theorem dX7_about_207 : decode cX7_about 207 = .ok (.getfield 163, 3) := by decide +kernel
theorem dX7_about_210 : decode cX7_about 210 = .ok (.ireturn, 1) := by decide +kernel
theorem dX7_about_211 : decode cX7_about 211 = .ok (.new 43, 3) := by decide +kernel
theorem dX7_about_214 : decode cX7_about 214 = .ok (.dup, 1) := by decide +kernel
theorem dX7_about_215 : decode cX7_about 215 = .ok (.ldc 166, 2) := by decide +kernel
theorem dX7_about_217 : decode cX7_about 217 = .ok (.invokespecial 47, 3) := by decide +kernel
theorem dX7_about_220 : decode cX7_about 220 = .ok (.athrow, 1) := by decide +kernel
set_option maxRecDepth 20000 in
theorem ggX7_frame_X1_has : GoodIn wsX7_frame wsX1_has := goodIn_r _ [10, 11, 34, 35] (by decide +kernel) (by decide +kernel)
set_option maxRecDepth 20000 in
theorem gX7_frame_X1_has : GoodIn wsX7_frame (wsV RX7 107 RX1 yX1_has wsX1_has) := goodIn_app (goodIn_of _ (by decide +kernel)) ggX7_frame_X1_has
set_option maxRecDepth 20000 in
theorem ggX7_frame_X1_get : GoodIn wsX7_frame wsX1_get := goodIn_r _ [15, 11, 16, 34, 35] (by decide +kernel) (by decide +kernel)
set_option maxRecDepth 20000 in
theorem gX7_frame_X1_get : GoodIn wsX7_frame (wsV RX7 173 RX1 yX1_get wsX1_get) := goodIn_app (goodIn_of _ (by decide +kernel)) ggX7_frame_X1_get
theorem dX7_frame_0 : decode cX7_frame 0 = .ok (.aload_n 0, 1) := by decide +kernel
theorem dX7_frame_1 : decode cX7_frame 1 = .ok (.getfield 19, 3) := by decide +kernel
theorem dX7_frame_4 : decode cX7_frame 4 = .ok (.getfield 103, 3) := by decide +kernel
theorem dX7_frame_7 : decode cX7_frame 7 = .ok (.iload_n 1, 1) := by decide +kernel
theorem dX7_frame_8 : decode cX7_frame 8 = .ok (.invokevirtual 107, 3) := by decide +kernel
theorem dX7_frame_11 : decode cX7_frame 11 = .ok (.ifCond .ne 13, 3) := by decide +kernel
theorem dX7_frame_14 : decode cX7_frame 14 = .ok (.new 168, 3) := by decide +kernel
theorem dX7_frame_17 : decode cX7_frame 17 = .ok (.dup, 1) := by decide +kernel
theorem dX7_frame_18 : decode cX7_frame 18 = .ok (.ldc 170, 2) := by decide +kernel
theorem dX7_frame_20 : decode cX7_frame 20 = .ok (.invokespecial 172, 3) := by decide +kernel
theorem dX7_frame_23 : decode cX7_frame 23 = .ok (.athrow, 1) := by decide +kernel
theorem dX7_frame_24 : decode cX7_frame 24 = .ok (.iload_n 2, 1) := by decide +kernel
theorem dX7_frame_25 : decode cX7_frame 25 = .ok (.tableswitch 135 0 6 #[43, 56, 69, 82, 95, 108, 121], 43) := by decide +kernel
theorem dX7_frame_68 : decode cX7_frame 68 = .ok (.aload_n 0, 1) := by decide +kernel
theorem dX7_frame_69 : decode cX7_frame 69 = .ok (.getfield 19, 3) := by decide +kernel
theorem dX7_frame_72 : decode cX7_frame 72 = .ok (.getfield 103, 3) := by decide +kernel
theorem dX7_frame_75 : decode cX7_frame 75 = .ok (.iload_n 1, 1) := by decide +kernel
theorem dX7_frame_76 : decode cX7_frame 76 = .ok (.iconst 0, 1) := by decide +kernel
theorem dX7_frame_77 : decode cX7_frame 77 = .ok (.invokevirtual 173, 3) := by decide +kernel
theorem dX7_frame_80 : decode cX7_frame 80 = .ok (.ireturn, 1) := by decide +kernel
theorem dX7_frame_81 : decode cX7_frame 81 = .ok (.aload_n 0, 1) := by decide +kernel
theorem dX7_frame_82 : decode cX7_frame 82 = .ok (.getfield 19, 3) := by decide +kernel
theorem dX7_frame_85 : decode cX7_frame 85 = .ok (.getfield 103, 3) := by decide +kernel
theorem dX7_frame_88 : decode cX7_frame 88 = .ok (.iload_n 1, 1) := by decide +kernel
theorem dX7_frame_89 : decode cX7_frame 89 = .ok (.iconst 1, 1) := by decide +kernel
theorem dX7_frame_90 : decode cX7_frame 90 = .ok (.invokevirtual 173, 3) := by decide +kernel
theorem dX7_frame_93 : decode cX7_frame 93 = .ok (.ireturn, 1) := by decide +kernel
theorem dX7_frame_94 : decode cX7_frame 94 = .ok (.aload_n 0, 1) := by decide +kernel
theorem dX7_frame_95 : decode cX7_frame 95 = .ok (.getfield 19, 3) := by decide +kernel
theorem dX7_frame_98 : decode cX7_frame 98 = .ok (.getfield 103, 3) := by decide +kernel
theorem dX7_frame_101 : decode cX7_frame 101 = .ok (.iload_n 1, 1) := by decide +kernel
theorem dX7_frame_102 : decode cX7_frame 102 = .ok (.iconst 2, 1) := by decide +kernel
theorem dX7_frame_103 : decode cX7_frame 103 = .ok (.invokevirtual 173, 3) := by decide +kernel
theorem dX7_frame_106 : decode cX7_frame 106 = .ok (.ireturn, 1) := by decide +kernel
theorem dX7_frame_107 : decode cX7_frame 107 = .ok (.aload_n 0, 1) := by decide +kernel
theorem dX7_frame_108 : decode cX7_frame 108 = .ok (.getfield 19, 3) := by decide +kernel
theorem dX7_frame_111 : decode cX7_frame 111 = .ok (.getfield 103, 3) := by decide +kernel
theorem dX7_frame_114 : decode cX7_frame 114 = .ok (.iload_n 1, 1) := by decide +kernel
theorem dX7_frame_115 : decode cX7_frame 115 = .ok (.iconst 4, 1) := by decide +kernel
theorem dX7_frame_116 : decode cX7_frame 116 = .ok (.invokevirtual 173, 3) := by decide +kernel
theorem dX7_frame_119 : decode cX7_frame 119 = .ok (.ireturn, 1) := by decide +kernel
theorem dX7_frame_120 : decode cX7_frame 120 = .ok (.aload_n 0, 1) := by decide +kernel
theorem dX7_frame_121 : decode cX7_frame 121 = .ok (.getfield 19, 3) := by decide +kernel
theorem dX7_frame_124 : decode cX7_frame 124 = .ok (.getfield 103, 3) := by decide +kernel
theorem dX7_frame_127 : decode cX7_frame 127 = .ok (.iload_n 1, 1) := by decide +kernel
theorem dX7_frame_128 : decode cX7_frame 128 = .ok (.iconst 3, 1) := by decide +kernel
theorem dX7_frame_129 : decode cX7_frame 129 = .ok (.invokevirtual 173, 3) := by decide +kernel
theorem dX7_frame_132 : decode cX7_frame 132 = .ok (.ireturn, 1) := by decide +kernel
theorem dX7_frame_133 : decode cX7_frame 133 = .ok (.aload_n 0, 1) := by decide +kernel
theorem dX7_frame_134 : decode cX7_frame 134 = .ok (.getfield 19, 3) := by decide +kernel
theorem dX7_frame_137 : decode cX7_frame 137 = .ok (.getfield 103, 3) := by decide +kernel
theorem dX7_frame_140 : decode cX7_frame 140 = .ok (.iload_n 1, 1) := by decide +kernel
theorem dX7_frame_141 : decode cX7_frame 141 = .ok (.iconst 5, 1) := by decide +kernel
theorem dX7_frame_142 : decode cX7_frame 142 = .ok (.invokevirtual 173, 3) := by decide +kernel
theorem dX7_frame_145 : decode cX7_frame 145 = .ok (.ireturn, 1) := by decide +kernel
theorem dX7_frame_146 : decode cX7_frame 146 = .ok (.aload_n 0, 1) := by decide +kernel
theorem dX7_frame_147 : decode cX7_frame 147 = .ok (.getfield 19, 3) := by decide +kernel
theorem dX7_frame_150 : decode cX7_frame 150 = .ok (.getfield 103, 3) := by decide +kernel
theorem dX7_frame_153 : decode cX7_frame 153 = .ok (.iload_n 1, 1) := by decide +kernel
theorem dX7_frame_154 : decode cX7_frame 154 = .ok (.bipush 6, 2) := by decide +kernel
theorem dX7_frame_156 : decode cX7_frame 156 = .ok (.invokevirtual 173, 3) := by decide +kernel
theorem dX7_frame_159 : decode cX7_frame 159 = .ok (.ireturn, 1) := by decide +kernel
theorem dX7_frame_160 : decode cX7_frame 160 = .ok (.new 43, 3) := by decide +kernel
theorem dX7_frame_163 : decode cX7_frame 163 = .ok (.dup, 1) := by decide +kernel
theorem dX7_frame_164 : decode cX7_frame 164 = .ok (.ldc 176, 2) := by decide +kernel
theorem dX7_frame_166 : decode cX7_frame 166 = .ok (.invokespecial 47, 3) := by decide +kernel
theorem dX7_frame_169 : decode cX7_frame 169 = .ok (.athrow, 1) := by decide +kernel
set_option maxRecDepth 20000 in
theorem ggX7_waiting_X1_has : GoodIn wsX7_waiting wsX1_has := goodIn_r _ [10, 11, 34, 35] (by decide +kernel) (by decide +kernel)
set_option maxRecDepth 20000 in
theorem gX7_waiting_X1_has : GoodIn wsX7_waiting (wsV RX7 107 RX1 yX1_has wsX1_has) := goodIn_app (goodIn_of _ (by decide +kernel)) ggX7_waiting_X1_has
set_option maxRecDepth 20000 in
theorem ggX7_waiting_X1_get : GoodIn wsX7_waiting wsX1_get := goodIn_r _ [15, 11, 16, 34, 35] (by decide +kernel) (by decide +kernel)
set_option maxRecDepth 20000 in
theorem gX7_waiting_X1_get : GoodIn wsX7_waiting (wsV RX7 173 RX1 yX1_get wsX1_get) := goodIn_app (goodIn_of _ (by decide +kernel)) ggX7_waiting_X1_get
theorem dX7_waiting_0 : decode cX7_waiting 0 = .ok (.aload_n 0, 1) := by decide +kernel
theorem dX7_waiting_1 : decode cX7_waiting 1 = .ok (.getfield 19, 3) := by decide +kernel
theorem dX7_waiting_4 : decode cX7_waiting 4 = .ok (.getfield 123, 3) := by decide +kernel
theorem dX7_waiting_7 : decode cX7_waiting 7 = .ok (.iload_n 1, 1) := by decide +kernel
theorem dX7_waiting_8 : decode cX7_waiting 8 = .ok (.invokevirtual 107, 3) := by decide +kernel
theorem dX7_waiting_11 : decode cX7_waiting 11 = .ok (.ifCond .ne 13, 3) := by decide +kernel
theorem dX7_waiting_14 : decode cX7_waiting 14 = .ok (.new 168, 3) := by decide +kernel
theorem dX7_waiting_17 : decode cX7_waiting 17 = .ok (.dup, 1) := by decide +kernel
theorem dX7_waiting_18 : decode cX7_waiting 18 = .ok (.ldc 178, 2) := by decide +kernel
theorem dX7_waiting_20 : decode cX7_waiting 20 = .ok (.invokespecial 172, 3) := by decide +kernel
theorem dX7_waiting_23 : decode cX7_waiting 23 = .ok (.athrow, 1) := by decide +kernel
theorem dX7_waiting_24 : decode cX7_waiting 24 = .ok (.iload_n 2, 1) := by decide +kernel
theorem dX7_waiting_25 : decode cX7_waiting 25 = .ok (.tableswitch 83 0 3 #[31, 44, 57, 70], 31) := by decide +kernel
theorem dX7_waiting_56 : decode cX7_waiting 56 = .ok (.aload_n 0, 1) := by decide +kernel
theorem dX7_waiting_57 : decode cX7_waiting 57 = .ok (.getfield 19, 3) := by decide +kernel
theorem dX7_waiting_60 : decode cX7_waiting 60 = .ok (.getfield 123, 3) := by decide +kernel
theorem dX7_waiting_63 : decode cX7_waiting 63 = .ok (.iload_n 1, 1) := by decide +kernel
theorem dX7_waiting_64 : decode cX7_waiting 64 = .ok (.iconst 0, 1) := by decide +kernel
theorem dX7_waiting_65 : decode cX7_waiting 65 = .ok (.invokevirtual 173, 3) := by decide +kernel
theorem dX7_waiting_68 : decode cX7_waiting 68 = .ok (.ireturn, 1) := by decide +kernel
theorem dX7_waiting_69 : decode cX7_waiting 69 = .ok (.aload_n 0, 1) := by decide +kernel
theorem dX7_waiting_70 : decode cX7_waiting 70 = .ok (.getfield 19, 3) := by decide +kernel
theorem dX7_waiting_73 : decode cX7_waiting 73 = .ok (.getfield 123, 3) := by decide +kernel
theorem dX7_waiting_76 : decode cX7_waiting 76 = .ok (.iload_n 1, 1) := by decide +kernel
theorem dX7_waiting_77 : decode cX7_waiting 77 = .ok (.iconst 1, 1) := by decide +kernel
theorem dX7_waiting_78 : decode cX7_waiting 78 = .ok (.invokevirtual 173, 3) := by decide +kernel
theorem dX7_waiting_81 : decode cX7_waiting 81 = .ok (.ireturn, 1) := by decide +kernel
theorem dX7_waiting_82 : decode cX7_waiting 82 = .ok (.aload_n 0, 1) := by decide +kernel
theorem dX7_waiting_83 : decode cX7_waiting 83 = .ok (.getfield 19, 3) := by decide +kernel
theorem dX7_waiting_86 : decode cX7_waiting 86 = .ok (.getfield 123, 3) := by decide +kernel
theorem dX7_waiting_89 : decode cX7_waiting 89 = .ok (.iload_n 1, 1) := by decide +kernel
theorem dX7_waiting_90 : decode cX7_waiting 90 = .ok (.iconst 2, 1) := by decide +kernel
theorem dX7_waiting_91 : decode cX7_waiting 91 = .ok (.invokevirtual 173, 3) := by decide +kernel
theorem dX7_waiting_94 : decode cX7_waiting 94 = .ok (.ireturn, 1) := by decide +kernel
theorem dX7_waiting_95 : decode cX7_waiting 95 = .ok (.aload_n 0, 1) := by decide +kernel
theorem dX7_waiting_96 : decode cX7_waiting 96 = .ok (.getfield 19, 3) := by decide +kernel
theorem dX7_waiting_99 : decode cX7_waiting 99 = .ok (.getfield 123, 3) := by decide +kernel
theorem dX7_waiting_102 : decode cX7_waiting 102 = .ok (.iload_n 1, 1) := by decide +kernel
theorem dX7_waiting_103 : decode cX7_waiting 103 = .ok (.iconst 3, 1) := by decide +kernel
theorem dX7_waiting_104 : decode cX7_waiting 104 = .ok (.invokevirtual 173, 3) := by decide +kernel
theorem dX7_waiting_107 : decode cX7_waiting 107 = .ok (.ireturn, 1) := by decide +kernel
theorem dX7_waiting_108 : decode cX7_waiting 108 = .ok (.new 43, 3) := by decide +kernel
theorem dX7_waiting_111 : decode cX7_waiting 111 = .ok (.dup, 1) := by decide +kernel
theorem dX7_waiting_112 : decode cX7_waiting 112 = .ok (.ldc 180, 2) := by decide +kernel
theorem dX7_waiting_114 : decode cX7_waiting 114 = .ok (.invokespecial 47, 3) := by decide +kernel
theorem dX7_waiting_117 : decode cX7_waiting 117 = .ok (.athrow, 1) := by decide +kernel
set_option maxRecDepth 20000 in
theorem ggX7_block_X0_get : GoodIn wsX7_block wsX0_get := goodIn_r _ [8, 9, 27, 28, 29, 30] (by decide +kernel) (by decide +kernel)
set_option maxRecDepth 20000 in
theorem gX7_block_X0_get : GoodIn wsX7_block (wsV RX7 184 RX0 yX0_get wsX0_get) := goodIn_app (goodIn_of _ (by decide +kernel)) ggX7_block_X0_get
theorem dX7_block_0 : decode cX7_block 0 = .ok (.iload_n 1, 1) := by decide +kernel
theorem dX7_block_1 : decode cX7_block 1 = .ok (.ifCond .lt 17, 3) := by decide +kernel
theorem dX7_block_4 : decode cX7_block 4 = .ok (.iload_n 1, 1) := by decide +kernel
theorem dX7_block_5 : decode cX7_block 5 = .ok (.aload_n 0, 1) := by decide +kernel
theorem dX7_block_6 : decode cX7_block 6 = .ok (.getfield 19, 3) := by decide +kernel
theorem dX7_block_9 : decode cX7_block 9 = .ok (.getfield 135, 3) := by decide +kernel
theorem dX7_block_12 : decode cX7_block 12 = .ok (.getfield 159, 3) := by decide +kernel
theorem dX7_block_15 : decode cX7_block 15 = .ok (.if_icmp .lt 13, 3) := by decide +kernel
theorem dX7_block_18 : decode cX7_block 18 = .ok (.new 168, 3) := by decide +kernel
theorem dX7_block_21 : decode cX7_block 21 = .ok (.dup, 1) := by decide +kernel
theorem dX7_block_22 : decode cX7_block 22 = .ok (.ldc 182, 2) := by decide +kernel
theorem dX7_block_24 : decode cX7_block 24 = .ok (.invokespecial 172, 3) := by decide +kernel
theorem dX7_block_27 : decode cX7_block 27 = .ok (.athrow, 1) := by decide +kernel
theorem dX7_block_28 : decode cX7_block 28 = .ok (.aload_n 0, 1) := by decide +kernel
theorem dX7_block_29 : decode cX7_block 29 = .ok (.getfield 19, 3) := by decide +kernel
theorem dX7_block_32 : decode cX7_block 32 = .ok (.getfield 135, 3) := by decide +kernel
theorem dX7_block_35 : decode cX7_block 35 = .ok (.iload_n 1, 1) := by decide +kernel
theorem dX7_block_36 : decode cX7_block 36 = .ok (.invokevirtual 184, 3) := by decide +kernel
theorem dX7_block_39 : decode cX7_block 39 = .ok (.ireturn, 1) := by decide +kernel
set_option maxRecDepth 20000 in
theorem ggX7_broken_X3_tells : GoodIn wsX7_broken wsX3_tells := goodIn_r _ [10, 11, 34, 35, 36, 37, 38, 39, 40] (by decide +kernel) (by decide +kernel)
set_option maxRecDepth 20000 in
theorem gX7_broken_X3_tells : GoodIn wsX7_broken (wsV RX7 186 RX3 yX3_tells wsX3_tells) := goodIn_app (goodIn_of _ (by decide +kernel)) ggX7_broken_X3_tells
set_option maxRecDepth 20000 in
theorem ggX7_broken_X3_get : GoodIn wsX7_broken wsX3_get := goodIn_r _ [15, 11, 16, 34, 35, 36, 37, 38, 39, 40] (by decide +kernel) (by decide +kernel)
set_option maxRecDepth 20000 in
theorem gX7_broken_X3_get : GoodIn wsX7_broken (wsV RX7 193 RX3 yX3_get wsX3_get) := goodIn_app (goodIn_of _ (by decide +kernel)) ggX7_broken_X3_get
theorem dX7_broken_0 : decode cX7_broken 0 = .ok (.aload_n 0, 1) := by decide +kernel
theorem dX7_broken_1 : decode cX7_broken 1 = .ok (.getfield 19, 3) := by decide +kernel
theorem dX7_broken_4 : decode cX7_broken 4 = .ok (.getfield 147, 3) := by decide +kernel
theorem dX7_broken_7 : decode cX7_broken 7 = .ok (.iload_n 1, 1) := by decide +kernel
theorem dX7_broken_8 : decode cX7_broken 8 = .ok (.invokevirtual 186, 3) := by decide +kernel
theorem dX7_broken_11 : decode cX7_broken 11 = .ok (.ifCond .ne 13, 3) := by decide +kernel
theorem dX7_broken_14 : decode cX7_broken 14 = .ok (.new 168, 3) := by decide +kernel
theorem dX7_broken_17 : decode cX7_broken 17 = .ok (.dup, 1) := by decide +kernel
theorem dX7_broken_18 : decode cX7_broken 18 = .ok (.ldc 189, 2) := by decide +kernel
theorem dX7_broken_20 : decode cX7_broken 20 = .ok (.invokespecial 172, 3) := by decide +kernel
theorem dX7_broken_23 : decode cX7_broken 23 = .ok (.athrow, 1) := by decide +kernel
theorem dX7_broken_24 : decode cX7_broken 24 = .ok (.iload_n 2, 1) := by decide +kernel
theorem dX7_broken_25 : decode cX7_broken 25 = .ok (.ifCond .lt 8, 3) := by decide +kernel
theorem dX7_broken_28 : decode cX7_broken 28 = .ok (.iload_n 2, 1) := by decide +kernel
theorem dX7_broken_29 : decode cX7_broken 29 = .ok (.iconst 3, 1) := by decide +kernel
theorem dX7_broken_30 : decode cX7_broken 30 = .ok (.if_icmp .lt 13, 3) := by decide +kernel
theorem dX7_broken_33 : decode cX7_broken 33 = .ok (.new 43, 3) := by decide +kernel
theorem dX7_broken_36 : decode cX7_broken 36 = .ok (.dup, 1) := by decide +kernel
theorem dX7_broken_37 : decode cX7_broken 37 = .ok (.ldc 191, 2) := by decide +kernel
theorem dX7_broken_39 : decode cX7_broken 39 = .ok (.invokespecial 47, 3) := by decide +kernel
theorem dX7_broken_42 : decode cX7_broken 42 = .ok (.athrow, 1) := by decide +kernel
theorem dX7_broken_43 : decode cX7_broken 43 = .ok (.aload_n 0, 1) := by decide +kernel
theorem dX7_broken_44 : decode cX7_broken 44 = .ok (.getfield 19, 3) := by decide +kernel
theorem dX7_broken_47 : decode cX7_broken 47 = .ok (.getfield 147, 3) := by decide +kernel
theorem dX7_broken_50 : decode cX7_broken 50 = .ok (.iload_n 1, 1) := by decide +kernel
theorem dX7_broken_51 : decode cX7_broken 51 = .ok (.iload_n 2, 1) := by decide +kernel
theorem dX7_broken_52 : decode cX7_broken 52 = .ok (.invokevirtual 193, 3) := by decide +kernel
theorem dX7_broken_55 : decode cX7_broken 55 = .ok (.ireturn, 1) := by decide +kernel
theorem dX7_setting_0 : decode cX7_setting 0 = .ok (.iload_n 1, 1) := by decide +kernel
theorem dX7_setting_1 : decode cX7_setting 1 = .ok (.ifCond .lt 8, 3) := by decide +kernel
theorem dX7_setting_4 : decode cX7_setting 4 = .ok (.iload_n 1, 1) := by decide +kernel
theorem dX7_setting_5 : decode cX7_setting 5 = .ok (.iconst 3, 1) := by decide +kernel
theorem dX7_setting_6 : decode cX7_setting 6 = .ok (.if_icmp .lt 13, 3) := by decide +kernel
theorem dX7_setting_9 : decode cX7_setting 9 = .ok (.new 43, 3) := by decide +kernel
theorem dX7_setting_12 : decode cX7_setting 12 = .ok (.dup, 1) := by decide +kernel
theorem dX7_setting_13 : decode cX7_setting 13 = .ok (.ldc 191, 2) := by decide +kernel
theorem dX7_setting_15 : decode cX7_setting 15 = .ok (.invokespecial 47, 3) := by decide +kernel
theorem dX7_setting_18 : decode cX7_setting 18 = .ok (.athrow, 1) := by decide +kernel
theorem dX7_setting_19 : decode cX7_setting 19 = .ok (.aload_n 0, 1) := by decide +kernel
theorem dX7_setting_20 : decode cX7_setting 20 = .ok (.getfield 19, 3) := by decide +kernel
theorem dX7_setting_23 : decode cX7_setting 23 = .ok (.getfield 76, 3) := by decide +kernel
theorem dX7_setting_26 : decode cX7_setting 26 = .ok (.iload_n 1, 1) := by decide +kernel
theorem dX7_setting_27 : decode cX7_setting 27 = .ok (.iaload, 1) := by decide +kernel
theorem dX7_setting_28 : decode cX7_setting 28 = .ok (.ireturn, 1) := by decide +kernel
set_option maxRecDepth 20000 in
theorem ggX7_shoot_X7_isPicture : GoodIn wsX7_shoot wsX7_isPicture := goodIn_r _ [8, 9] (by decide +kernel) (by decide +kernel)
set_option maxRecDepth 20000 in
theorem gX7_shoot_X7_isPicture : GoodIn wsX7_shoot (va_wsS RX7 194 yX7_isPicture wsX7_isPicture) := goodIn_app (goodIn_of _ (by decide +kernel)) ggX7_shoot_X7_isPicture
set_option maxRecDepth 20000 in
theorem ggX7_shoot_X2_remember : GoodIn wsX7_shoot wsX2_remember := goodIn_r _ [14, 15, 16, 17, 18, 19, 13, 20, 21, 22, 23, 24, 25, 26, 27, 28, 29, 30, 31, 32, 33, 34, 35, 36, 37, 38, 39, 40, 41, 42, 43, 44, 45, 46, 47, 48, 49, 50, 51, 52, 53, 54, 55, 56, 57, 58, 59, 60, 61, 62, 63, 64, 65, 66, 67, 68, 69, 70, 71, 72, 93, 94, 95, 96, 97, 98, 99, 100, 101, 102, 103, 104, 105, 106, 107, 108, 109, 110, 111, 112, 113, 114, 115, 116, 117, 118, 119] (by decide +kernel) (by decide +kernel)
set_option maxRecDepth 20000 in
theorem gX7_shoot_X2_remember : GoodIn wsX7_shoot (wsV RX7 199 RX2 yX2_remember wsX2_remember) := goodIn_app (goodIn_of _ (by decide +kernel)) ggX7_shoot_X2_remember
set_option maxRecDepth 20000 in
theorem ggX7_shoot_X5_receive : GoodIn wsX7_shoot wsX5_receive := goodIn_r _ [76, 41, 37, 35, 34, 39, 36, 77, 7, 78, 79, 80, 81, 55, 82, 57, 83, 84, 85, 86, 58, 96, 97, 98, 99, 100, 101, 102, 103, 104, 105, 106, 113, 114, 115, 116, 117, 118, 119, 111, 112] (by decide +kernel) (by decide +kernel)
set_option maxRecDepth 20000 in
theorem gX7_shoot_X5_receive : GoodIn wsX7_shoot (wsV RX7 97 RX5 yX5_receive wsX5_receive) := goodIn_app (goodIn_of _ (by decide +kernel)) ggX7_shoot_X5_receive
theorem dX7_shoot_0 : decode cX7_shoot 0 = .ok (.iload_n 1, 1) := by decide +kernel
theorem dX7_shoot_1 : decode cX7_shoot 1 = .ok (.invokestatic 194, 3) := by decide +kernel
theorem dX7_shoot_4 : decode cX7_shoot 4 = .ok (.ifCond .ne 13, 3) := by decide +kernel
theorem dX7_shoot_7 : decode cX7_shoot 7 = .ok (.new 43, 3) := by decide +kernel
theorem dX7_shoot_10 : decode cX7_shoot 10 = .ok (.dup, 1) := by decide +kernel
theorem dX7_shoot_11 : decode cX7_shoot 11 = .ok (.ldc 197, 2) := by decide +kernel
theorem dX7_shoot_13 : decode cX7_shoot 13 = .ok (.invokespecial 47, 3) := by decide +kernel
theorem dX7_shoot_16 : decode cX7_shoot 16 = .ok (.athrow, 1) := by decide +kernel
theorem dX7_shoot_17 : decode cX7_shoot 17 = .ok (.aload_n 0, 1) := by decide +kernel
theorem dX7_shoot_18 : decode cX7_shoot 18 = .ok (.getfield 29, 3) := by decide +kernel
theorem dX7_shoot_21 : decode cX7_shoot 21 = .ok (.aload_n 0, 1) := by decide +kernel
theorem dX7_shoot_22 : decode cX7_shoot 22 = .ok (.getfield 19, 3) := by decide +kernel
theorem dX7_shoot_25 : decode cX7_shoot 25 = .ok (.invokevirtual 199, 3) := by decide +kernel
theorem dX7_shoot_28 : decode cX7_shoot 28 = .ok (.aload_n 0, 1) := by decide +kernel
theorem dX7_shoot_29 : decode cX7_shoot 29 = .ok (.getfield 19, 3) := by decide +kernel
theorem dX7_shoot_32 : decode cX7_shoot 32 = .ok (.iload_n 1, 1) := by decide +kernel
theorem dX7_shoot_33 : decode cX7_shoot 33 = .ok (.invokevirtual 97, 3) := by decide +kernel
theorem dX7_shoot_36 : decode cX7_shoot 36 = .ok (.ireturn, 1) := by decide +kernel
set_option maxRecDepth 20000 in
theorem ggX7_ticks_X7_isTicks : GoodIn wsX7_ticks wsX7_isTicks := goodIn_r _ [8] (by decide +kernel) (by decide +kernel)
set_option maxRecDepth 20000 in
theorem gX7_ticks_X7_isTicks : GoodIn wsX7_ticks (va_wsS RX7 203 yX7_isTicks wsX7_isTicks) := goodIn_app (goodIn_of _ (by decide +kernel)) ggX7_ticks_X7_isTicks
set_option maxRecDepth 20000 in
theorem ggX7_ticks_X2_remember : GoodIn wsX7_ticks wsX2_remember := goodIn_r _ [13, 14, 15, 16, 17, 18, 12, 19, 20, 21, 22, 23, 24, 25, 26, 27, 28, 29, 30, 31, 32, 33, 34, 35, 36, 37, 38, 39, 40, 41, 42, 43, 44, 45, 46, 47, 48, 49, 50, 51, 52, 53, 54, 55, 56, 57, 58, 59, 60, 61, 62, 63, 64, 65, 66, 67, 68, 69, 70, 71, 166, 167, 168, 169, 170, 171, 172, 173, 174, 175, 176, 177, 178, 179, 180, 181, 182, 183, 184, 185, 186, 187, 188, 189, 190, 191, 192] (by decide +kernel) (by decide +kernel)
set_option maxRecDepth 20000 in
theorem gX7_ticks_X2_remember : GoodIn wsX7_ticks (wsV RX7 199 RX2 yX2_remember wsX2_remember) := goodIn_app (goodIn_of _ (by decide +kernel)) ggX7_ticks_X2_remember
set_option maxRecDepth 20000 in
theorem ggX7_ticks_X5_pass : GoodIn wsX7_ticks wsX5_pass := goodIn_r _ [75, 31, 26, 76, 77, 78, 44, 79, 50, 46, 49, 80, 81, 82, 24, 83, 33, 84, 85, 86, 54, 87, 56, 57, 88, 89, 90, 91, 32, 35, 34, 39, 92, 93, 94, 95, 96, 97, 98, 99, 100, 101, 102, 103, 104, 105, 106, 107, 108, 109, 7, 110, 111, 112, 113, 114, 115, 48, 116, 117, 118, 119, 58, 28, 29, 30, 120, 121, 122, 123, 124, 125, 126, 127, 128, 129, 130, 131, 132, 133, 134, 135, 37, 136, 137, 138, 139, 140, 141, 142, 143, 144, 145, 146, 62, 147, 69, 70, 148, 149, 150, 151, 67, 68, 152, 153, 154, 155, 71, 64, 156, 157, 158, 159, 66, 169, 170, 171, 172, 173, 174, 175, 176, 177, 178, 179, 180, 181, 182, 183, 184, 185, 186, 187, 188, 189, 190, 191, 192] (by decide +kernel) (by decide +kernel)
set_option maxRecDepth 20000 in
theorem gX7_ticks_X5_pass : GoodIn wsX7_ticks (wsV RX7 100 RX5 yX5_pass wsX5_pass) := goodIn_app (goodIn_of _ (by decide +kernel)) ggX7_ticks_X5_pass
theorem dX7_ticks_0 : decode cX7_ticks 0 = .ok (.iload_n 1, 1) := by decide +kernel
theorem dX7_ticks_1 : decode cX7_ticks 1 = .ok (.invokestatic 203, 3) := by decide +kernel
theorem dX7_ticks_4 : decode cX7_ticks 4 = .ok (.ifCond .ne 13, 3) := by decide +kernel
theorem dX7_ticks_7 : decode cX7_ticks 7 = .ok (.new 43, 3) := by decide +kernel
theorem dX7_ticks_10 : decode cX7_ticks 10 = .ok (.dup, 1) := by decide +kernel
theorem dX7_ticks_11 : decode cX7_ticks 11 = .ok (.ldc 206, 2) := by decide +kernel
theorem dX7_ticks_13 : decode cX7_ticks 13 = .ok (.invokespecial 47, 3) := by decide +kernel
theorem dX7_ticks_16 : decode cX7_ticks 16 = .ok (.athrow, 1) := by decide +kernel
theorem dX7_ticks_17 : decode cX7_ticks 17 = .ok (.aload_n 0, 1) := by decide +kernel
theorem dX7_ticks_18 : decode cX7_ticks 18 = .ok (.getfield 29, 3) := by decide +kernel
theorem dX7_ticks_21 : decode cX7_ticks 21 = .ok (.aload_n 0, 1) := by decide +kernel
theorem dX7_ticks_22 : decode cX7_ticks 22 = .ok (.getfield 19, 3) := by decide +kernel
theorem dX7_ticks_25 : decode cX7_ticks 25 = .ok (.invokevirtual 199, 3) := by decide +kernel
theorem dX7_ticks_28 : decode cX7_ticks 28 = .ok (.aload_n 0, 1) := by decide +kernel
theorem dX7_ticks_29 : decode cX7_ticks 29 = .ok (.getfield 19, 3) := by decide +kernel
theorem dX7_ticks_32 : decode cX7_ticks 32 = .ok (.iload_n 1, 1) := by decide +kernel
theorem dX7_ticks_33 : decode cX7_ticks 33 = .ok (.invokevirtual 100, 3) := by decide +kernel
theorem dX7_ticks_36 : decode cX7_ticks 36 = .ok (.ireturn, 1) := by decide +kernel
set_option maxRecDepth 20000 in
theorem ggX7_drop_X1_has : GoodIn wsX7_drop wsX1_has := goodIn_r _ [9, 10, 118, 119] (by decide +kernel) (by decide +kernel)
set_option maxRecDepth 20000 in
theorem gX7_drop_X1_has : GoodIn wsX7_drop (wsV RX7 107 RX1 yX1_has wsX1_has) := goodIn_app (goodIn_of _ (by decide +kernel)) ggX7_drop_X1_has
set_option maxRecDepth 20000 in
theorem ggX7_drop_X2_remember : GoodIn wsX7_drop wsX2_remember := goodIn_r _ [15, 16, 17, 18, 19, 20, 14, 21, 22, 23, 24, 25, 26, 27, 28, 29, 30, 31, 32, 33, 34, 35, 36, 37, 38, 39, 40, 41, 42, 43, 44, 45, 46, 47, 48, 49, 50, 51, 52, 53, 54, 55, 8, 56, 10, 57, 58, 59, 60, 61, 62, 63, 64, 65, 66, 67, 68, 69, 70, 71, 120, 121, 122, 107, 108, 109, 110, 111, 112, 113, 114, 115, 116, 117, 123, 124, 125, 126, 118, 119, 127, 128, 129, 130, 131, 132, 133] (by decide +kernel) (by decide +kernel)
set_option maxRecDepth 20000 in
theorem gX7_drop_X2_remember : GoodIn wsX7_drop (wsV RX7 199 RX2 yX2_remember wsX2_remember) := goodIn_app (goodIn_of _ (by decide +kernel)) ggX7_drop_X2_remember
set_option maxRecDepth 20000 in
theorem ggX7_drop_X5_dropKept : GoodIn wsX7_drop wsX5_dropKept := goodIn_r _ [75, 33, 34, 39, 76, 77, 78, 8, 79, 10, 57, 80, 81, 82, 46, 83, 50, 48, 52, 84, 85, 86, 87, 58, 30, 31, 32, 88, 6, 7, 9, 89, 90, 91, 92, 93, 94, 95, 96, 97, 98, 99, 100, 107, 108, 109, 110, 111, 112, 113, 114, 115, 116, 117, 118, 119, 123, 124, 125, 126] (by decide +kernel) (by decide +kernel)
set_option maxRecDepth 20000 in
theorem gX7_drop_X5_dropKept : GoodIn wsX7_drop (wsV RX7 113 RX5 yX5_dropKept wsX5_dropKept) := goodIn_app (goodIn_of _ (by decide +kernel)) ggX7_drop_X5_dropKept
theorem dX7_drop_0 : decode cX7_drop 0 = .ok (.aload_n 0, 1) := by decide +kernel
theorem dX7_drop_1 : decode cX7_drop 1 = .ok (.getfield 19, 3) := by decide +kernel
theorem dX7_drop_4 : decode cX7_drop 4 = .ok (.getfield 103, 3) := by decide +kernel
theorem dX7_drop_7 : decode cX7_drop 7 = .ok (.iload_n 1, 1) := by decide +kernel
theorem dX7_drop_8 : decode cX7_drop 8 = .ok (.invokevirtual 107, 3) := by decide +kernel
theorem dX7_drop_11 : decode cX7_drop 11 = .ok (.ifCond .ne 13, 3) := by decide +kernel
theorem dX7_drop_14 : decode cX7_drop 14 = .ok (.new 168, 3) := by decide +kernel
theorem dX7_drop_17 : decode cX7_drop 17 = .ok (.dup, 1) := by decide +kernel
theorem dX7_drop_18 : decode cX7_drop 18 = .ok (.ldc 170, 2) := by decide +kernel
theorem dX7_drop_20 : decode cX7_drop 20 = .ok (.invokespecial 172, 3) := by decide +kernel
theorem dX7_drop_23 : decode cX7_drop 23 = .ok (.athrow, 1) := by decide +kernel
theorem dX7_drop_24 : decode cX7_drop 24 = .ok (.aload_n 0, 1) := by decide +kernel
theorem dX7_drop_25 : decode cX7_drop 25 = .ok (.getfield 29, 3) := by decide +kernel
theorem dX7_drop_28 : decode cX7_drop 28 = .ok (.aload_n 0, 1) := by decide +kernel
theorem dX7_drop_29 : decode cX7_drop 29 = .ok (.getfield 19, 3) := by decide +kernel
theorem dX7_drop_32 : decode cX7_drop 32 = .ok (.invokevirtual 199, 3) := by decide +kernel
theorem dX7_drop_35 : decode cX7_drop 35 = .ok (.aload_n 0, 1) := by decide +kernel
theorem dX7_drop_36 : decode cX7_drop 36 = .ok (.getfield 19, 3) := by decide +kernel
theorem dX7_drop_39 : decode cX7_drop 39 = .ok (.iload_n 1, 1) := by decide +kernel
theorem dX7_drop_40 : decode cX7_drop 40 = .ok (.invokevirtual 113, 3) := by decide +kernel
theorem dX7_drop_43 : decode cX7_drop 43 = .ok (.ireturn, 1) := by decide +kernel
set_option maxRecDepth 20000 in
theorem ggX7_format_X2_remember : GoodIn wsX7_format wsX2_remember := goodIn_r _ [9, 10, 11, 12, 13, 14, 8, 15, 16, 17, 18, 19, 20, 21, 22, 23, 24, 25, 26, 27, 28, 29, 30, 31, 32, 33, 34, 35, 36, 37, 38, 39, 40, 41, 42, 43, 44, 45, 46, 47, 48, 49, 50, 51, 52, 53, 54, 55, 56, 57, 58, 59, 60, 61, 62, 63, 64, 65, 66, 67, 82, 83, 84, 85, 86, 87, 88, 89, 90, 91, 92, 93, 94, 95, 96, 97, 98, 99, 100, 101, 102, 103, 104, 105, 106, 107, 108] (by decide +kernel) (by decide +kernel)
set_option maxRecDepth 20000 in
theorem gX7_format_X2_remember : GoodIn wsX7_format (wsV RX7 199 RX2 yX2_remember wsX2_remember) := goodIn_app (goodIn_of _ (by decide +kernel)) ggX7_format_X2_remember
set_option maxRecDepth 20000 in
theorem ggX7_format_X5_dropAll : GoodIn wsX7_format wsX5_dropAll := goodIn_r _ [71, 28, 29, 33, 27, 72, 73, 74, 40, 75, 42, 44, 45, 46, 85, 86, 87, 88, 89, 90, 91, 92, 93, 94, 95, 100, 101, 96, 97, 98, 99] (by decide +kernel) (by decide +kernel)
set_option maxRecDepth 20000 in
theorem gX7_format_X5_dropAll : GoodIn wsX7_format (wsV RX7 210 RX5 yX5_dropAll wsX5_dropAll) := goodIn_app (goodIn_of _ (by decide +kernel)) ggX7_format_X5_dropAll
theorem dX7_format_0 : decode cX7_format 0 = .ok (.iload_n 1, 1) := by decide +kernel
theorem dX7_format_1 : decode cX7_format 1 = .ok (.bipush 8, 2) := by decide +kernel
theorem dX7_format_3 : decode cX7_format 3 = .ok (.if_icmp .lt 9, 3) := by decide +kernel
theorem dX7_format_6 : decode cX7_format 6 = .ok (.iload_n 1, 1) := by decide +kernel
theorem dX7_format_7 : decode cX7_format 7 = .ok (.bipush 48, 2) := by decide +kernel
theorem dX7_format_9 : decode cX7_format 9 = .ok (.if_icmp .le 13, 3) := by decide +kernel
theorem dX7_format_12 : decode cX7_format 12 = .ok (.new 43, 3) := by decide +kernel
theorem dX7_format_15 : decode cX7_format 15 = .ok (.dup, 1) := by decide +kernel
theorem dX7_format_16 : decode cX7_format 16 = .ok (.ldc 208, 2) := by decide +kernel
theorem dX7_format_18 : decode cX7_format 18 = .ok (.invokespecial 47, 3) := by decide +kernel
theorem dX7_format_21 : decode cX7_format 21 = .ok (.athrow, 1) := by decide +kernel
theorem dX7_format_22 : decode cX7_format 22 = .ok (.aload_n 0, 1) := by decide +kernel
theorem dX7_format_23 : decode cX7_format 23 = .ok (.getfield 29, 3) := by decide +kernel
theorem dX7_format_26 : decode cX7_format 26 = .ok (.aload_n 0, 1) := by decide +kernel
theorem dX7_format_27 : decode cX7_format 27 = .ok (.getfield 19, 3) := by decide +kernel
theorem dX7_format_30 : decode cX7_format 30 = .ok (.invokevirtual 199, 3) := by decide +kernel
theorem dX7_format_33 : decode cX7_format 33 = .ok (.aload_n 0, 1) := by decide +kernel
theorem dX7_format_34 : decode cX7_format 34 = .ok (.getfield 19, 3) := by decide +kernel
theorem dX7_format_37 : decode cX7_format 37 = .ok (.iload_n 1, 1) := by decide +kernel
theorem dX7_format_38 : decode cX7_format 38 = .ok (.invokevirtual 210, 3) := by decide +kernel
theorem dX7_format_41 : decode cX7_format 41 = .ok (.ireturn, 1) := by decide +kernel
set_option maxRecDepth 20000 in
theorem ggX7_set_X7_isSetting : GoodIn wsX7_set wsX7_isSetting := goodIn_r _ [8, 9, 10] (by decide +kernel) (by decide +kernel)
set_option maxRecDepth 20000 in
theorem gX7_set_X7_isSetting : GoodIn wsX7_set (va_wsS RX7 213 yX7_isSetting wsX7_isSetting) := goodIn_app (goodIn_of _ (by decide +kernel)) ggX7_set_X7_isSetting
set_option maxRecDepth 20000 in
theorem ggX7_set_X2_remember : GoodIn wsX7_set wsX2_remember := goodIn_r _ [15, 16, 17, 18, 19, 20, 14, 21, 22, 23, 24, 25, 26, 27, 28, 29, 30, 31, 32, 33, 34, 35, 36, 37, 38, 39, 40, 41, 42, 43, 44, 45, 46, 47, 48, 49, 50, 51, 52, 53, 54, 55, 56, 57, 58, 59, 60, 61, 62, 63, 64, 65, 66, 67, 68, 69, 70, 71, 72, 73, 84, 85, 86, 87, 88, 89, 90, 91, 92, 93, 94, 95, 96, 97, 98, 99, 100, 101, 102, 103, 104, 105, 106, 107, 108, 109, 110] (by decide +kernel) (by decide +kernel)
set_option maxRecDepth 20000 in
theorem gX7_set_X2_remember : GoodIn wsX7_set (wsV RX7 199 RX2 yX2_remember wsX2_remember) := goodIn_app (goodIn_of _ (by decide +kernel)) ggX7_set_X2_remember
set_option maxRecDepth 20000 in
theorem ggX7_set_X5_change : GoodIn wsX7_set wsX5_change := goodIn_r _ [77, 28, 87, 88, 89, 90, 91, 92, 93, 94, 95, 96, 97] (by decide +kernel) (by decide +kernel)
set_option maxRecDepth 20000 in
theorem gX7_set_X5_change : GoodIn wsX7_set (wsV RX7 219 RX5 yX5_change wsX5_change) := goodIn_app (goodIn_of _ (by decide +kernel)) ggX7_set_X5_change
theorem dX7_set_0 : decode cX7_set 0 = .ok (.iload_n 1, 1) := by decide +kernel
theorem dX7_set_1 : decode cX7_set 1 = .ok (.iload_n 2, 1) := by decide +kernel
theorem dX7_set_2 : decode cX7_set 2 = .ok (.invokestatic 213, 3) := by decide +kernel
theorem dX7_set_5 : decode cX7_set 5 = .ok (.ifCond .ne 13, 3) := by decide +kernel
theorem dX7_set_8 : decode cX7_set 8 = .ok (.new 43, 3) := by decide +kernel
theorem dX7_set_11 : decode cX7_set 11 = .ok (.dup, 1) := by decide +kernel
theorem dX7_set_12 : decode cX7_set 12 = .ok (.ldc 217, 2) := by decide +kernel
theorem dX7_set_14 : decode cX7_set 14 = .ok (.invokespecial 47, 3) := by decide +kernel
theorem dX7_set_17 : decode cX7_set 17 = .ok (.athrow, 1) := by decide +kernel
theorem dX7_set_18 : decode cX7_set 18 = .ok (.aload_n 0, 1) := by decide +kernel
theorem dX7_set_19 : decode cX7_set 19 = .ok (.getfield 29, 3) := by decide +kernel
theorem dX7_set_22 : decode cX7_set 22 = .ok (.aload_n 0, 1) := by decide +kernel
theorem dX7_set_23 : decode cX7_set 23 = .ok (.getfield 19, 3) := by decide +kernel
theorem dX7_set_26 : decode cX7_set 26 = .ok (.invokevirtual 199, 3) := by decide +kernel
theorem dX7_set_29 : decode cX7_set 29 = .ok (.aload_n 0, 1) := by decide +kernel
theorem dX7_set_30 : decode cX7_set 30 = .ok (.getfield 19, 3) := by decide +kernel
theorem dX7_set_33 : decode cX7_set 33 = .ok (.iload_n 1, 1) := by decide +kernel
theorem dX7_set_34 : decode cX7_set 34 = .ok (.iload_n 2, 1) := by decide +kernel
theorem dX7_set_35 : decode cX7_set 35 = .ok (.invokevirtual 219, 3) := by decide +kernel
theorem dX7_set_38 : decode cX7_set 38 = .ok (.ireturn, 1) := by decide +kernel
set_option maxRecDepth 20000 in
theorem ggX7_undo_X2_takeBack : GoodIn wsX7_undo wsX2_takeBack := goodIn_r _ [9, 10, 11, 12, 13, 8, 14, 15, 16, 17, 18, 19, 20, 21, 22, 23, 24, 25, 26, 27, 28, 29, 30, 31, 32, 33, 34, 35, 36, 37, 38, 39, 40, 41, 42, 43, 44, 45, 46, 47, 48, 49, 50, 51, 52, 53, 54, 55, 56, 57, 58, 59, 60, 61, 62, 63, 64, 65, 66, 67, 74, 75, 76, 77, 78, 79, 80, 81, 82, 83, 84, 85, 86, 87, 88, 89, 90, 91, 92, 93, 94, 95, 96, 97, 98, 99, 100] (by decide +kernel) (by decide +kernel)
set_option maxRecDepth 20000 in
theorem gX7_undo_X2_takeBack : GoodIn wsX7_undo (wsV RX7 225 RX2 yX2_takeBack wsX2_takeBack) := goodIn_app (goodIn_of _ (by decide +kernel)) ggX7_undo_X2_takeBack
theorem dX7_undo_0 : decode cX7_undo 0 = .ok (.aload_n 0, 1) := by decide +kernel
theorem dX7_undo_1 : decode cX7_undo 1 = .ok (.getfield 29, 3) := by decide +kernel
theorem dX7_undo_4 : decode cX7_undo 4 = .ok (.getfield 222, 3) := by decide +kernel
theorem dX7_undo_7 : decode cX7_undo 7 = .ok (.ifCond .ne 13, 3) := by decide +kernel
theorem dX7_undo_10 : decode cX7_undo 10 = .ok (.new 54, 3) := by decide +kernel
theorem dX7_undo_13 : decode cX7_undo 13 = .ok (.dup, 1) := by decide +kernel
theorem dX7_undo_14 : decode cX7_undo 14 = .ok (.ldc 223, 2) := by decide +kernel
theorem dX7_undo_16 : decode cX7_undo 16 = .ok (.invokespecial 58, 3) := by decide +kernel
theorem dX7_undo_19 : decode cX7_undo 19 = .ok (.athrow, 1) := by decide +kernel
theorem dX7_undo_20 : decode cX7_undo 20 = .ok (.aload_n 0, 1) := by decide +kernel
theorem dX7_undo_21 : decode cX7_undo 21 = .ok (.getfield 29, 3) := by decide +kernel
theorem dX7_undo_24 : decode cX7_undo 24 = .ok (.aload_n 0, 1) := by decide +kernel
theorem dX7_undo_25 : decode cX7_undo 25 = .ok (.getfield 19, 3) := by decide +kernel
theorem dX7_undo_28 : decode cX7_undo 28 = .ok (.invokevirtual 225, 3) := by decide +kernel
theorem dX7_undo_31 : decode cX7_undo 31 = .ok (.aload_n 0, 1) := by decide +kernel
theorem dX7_undo_32 : decode cX7_undo 32 = .ok (.getfield 29, 3) := by decide +kernel
theorem dX7_undo_35 : decode cX7_undo 35 = .ok (.getfield 222, 3) := by decide +kernel
theorem dX7_undo_38 : decode cX7_undo 38 = .ok (.ireturn, 1) := by decide +kernel
set_option maxRecDepth 20000 in
theorem ggX7_storedIn_X1_has : GoodIn wsX7_storedIn wsX1_has := goodIn_r _ [9, 10, 163, 164] (by decide +kernel) (by decide +kernel)
set_option maxRecDepth 20000 in
theorem gX7_storedIn_X1_has : GoodIn wsX7_storedIn (wsV RX7 107 RX1 yX1_has wsX1_has) := goodIn_app (goodIn_of _ (by decide +kernel)) ggX7_storedIn_X1_has
set_option maxRecDepth 20000 in
theorem ggX7_storedIn_X5_copyFrom : GoodIn wsX7_storedIn wsX5_copyFrom := goodIn_r _ [15, 16, 17, 18, 19, 20, 21, 22, 23, 24, 25, 26, 27, 28, 29, 30, 31, 32, 33, 34, 35, 36, 37, 38, 39, 40, 41, 42, 43, 8, 44, 10, 45, 46, 47, 48, 49, 50, 51, 52, 53, 54, 55, 56, 57, 58, 59, 152, 153, 154, 155, 156, 157, 158, 159, 160, 161, 162, 165, 166, 167, 168, 163, 164, 169, 170, 171, 172, 173, 174, 175] (by decide +kernel) (by decide +kernel)
set_option maxRecDepth 20000 in
theorem gX7_storedIn_X5_copyFrom : GoodIn wsX7_storedIn (wsV RX7 228 RX5 yX5_copyFrom wsX5_copyFrom) := goodIn_app (goodIn_of _ (by decide +kernel)) ggX7_storedIn_X5_copyFrom
set_option maxRecDepth 20000 in
theorem ggX7_storedIn_X5_pass : GoodIn wsX7_storedIn wsX5_pass := goodIn_r _ [63, 21, 16, 64, 65, 66, 34, 67, 40, 36, 39, 68, 69, 70, 14, 71, 23, 72, 73, 74, 8, 75, 10, 45, 76, 77, 78, 79, 22, 25, 24, 29, 80, 81, 82, 83, 84, 85, 86, 87, 88, 89, 90, 91, 92, 6, 7, 9, 93, 94, 95, 96, 97, 98, 99, 100, 101, 38, 102, 103, 104, 105, 46, 18, 19, 20, 106, 107, 108, 109, 110, 111, 112, 113, 114, 115, 116, 117, 118, 119, 120, 121, 27, 122, 123, 124, 125, 126, 127, 128, 129, 130, 131, 132, 50, 133, 57, 58, 134, 135, 136, 137, 55, 56, 138, 139, 140, 141, 59, 52, 142, 143, 144, 145, 54, 152, 153, 154, 155, 156, 157, 158, 159, 160, 161, 162, 165, 166, 167, 168, 163, 164, 169, 170, 171, 172, 173, 174, 175] (by decide +kernel) (by decide +kernel)
set_option maxRecDepth 20000 in
theorem gX7_storedIn_X5_pass : GoodIn wsX7_storedIn (wsV RX7 100 RX5 yX5_pass wsX5_pass) := goodIn_app (goodIn_of _ (by decide +kernel)) ggX7_storedIn_X5_pass
theorem dX7_storedIn_0 : decode cX7_storedIn 0 = .ok (.aload_n 0, 1) := by decide +kernel
theorem dX7_storedIn_1 : decode cX7_storedIn 1 = .ok (.getfield 19, 3) := by decide +kernel
theorem dX7_storedIn_4 : decode cX7_storedIn 4 = .ok (.getfield 123, 3) := by decide +kernel
theorem dX7_storedIn_7 : decode cX7_storedIn 7 = .ok (.iload_n 1, 1) := by decide +kernel
theorem dX7_storedIn_8 : decode cX7_storedIn 8 = .ok (.invokevirtual 107, 3) := by decide +kernel
theorem dX7_storedIn_11 : decode cX7_storedIn 11 = .ok (.ifCond .ne 13, 3) := by decide +kernel
theorem dX7_storedIn_14 : decode cX7_storedIn 14 = .ok (.new 168, 3) := by decide +kernel
theorem dX7_storedIn_17 : decode cX7_storedIn 17 = .ok (.dup, 1) := by decide +kernel
theorem dX7_storedIn_18 : decode cX7_storedIn 18 = .ok (.ldc 178, 2) := by decide +kernel
theorem dX7_storedIn_20 : decode cX7_storedIn 20 = .ok (.invokespecial 172, 3) := by decide +kernel
theorem dX7_storedIn_23 : decode cX7_storedIn 23 = .ok (.athrow, 1) := by decide +kernel
theorem dX7_storedIn_24 : decode cX7_storedIn 24 = .ok (.aload_n 0, 1) := by decide +kernel
theorem dX7_storedIn_25 : decode cX7_storedIn 25 = .ok (.getfield 23, 3) := by decide +kernel
theorem dX7_storedIn_28 : decode cX7_storedIn 28 = .ok (.aload_n 0, 1) := by decide +kernel
theorem dX7_storedIn_29 : decode cX7_storedIn 29 = .ok (.getfield 19, 3) := by decide +kernel
theorem dX7_storedIn_32 : decode cX7_storedIn 32 = .ok (.invokevirtual 228, 3) := by decide +kernel
theorem dX7_storedIn_35 : decode cX7_storedIn 35 = .ok (.iconst 0, 1) := by decide +kernel
theorem dX7_storedIn_36 : decode cX7_storedIn 36 = .ok (.istore_n 2, 1) := by decide +kernel
theorem dX7_storedIn_37 : decode cX7_storedIn 37 = .ok (.iconst 1, 1) := by decide +kernel
theorem dX7_storedIn_38 : decode cX7_storedIn 38 = .ok (.istore_n 3, 1) := by decide +kernel
theorem dX7_storedIn_39 : decode cX7_storedIn 39 = .ok (.iload_n 3, 1) := by decide +kernel
theorem dX7_storedIn_40 : decode cX7_storedIn 40 = .ok (.bipush 99, 2) := by decide +kernel
theorem dX7_storedIn_42 : decode cX7_storedIn 42 = .ok (.if_icmp .gt 27, 3) := by decide +kernel
theorem dX7_storedIn_45 : decode cX7_storedIn 45 = .ok (.iload_n 2, 1) := by decide +kernel
theorem dX7_storedIn_46 : decode cX7_storedIn 46 = .ok (.aload_n 0, 1) := by decide +kernel
theorem dX7_storedIn_47 : decode cX7_storedIn 47 = .ok (.getfield 23, 3) := by decide +kernel
theorem dX7_storedIn_50 : decode cX7_storedIn 50 = .ok (.iconst 1, 1) := by decide +kernel
theorem dX7_storedIn_51 : decode cX7_storedIn 51 = .ok (.invokevirtual 100, 3) := by decide +kernel
theorem dX7_storedIn_54 : decode cX7_storedIn 54 = .ok (.iadd, 1) := by decide +kernel
theorem dX7_storedIn_55 : decode cX7_storedIn 55 = .ok (.istore_n 2, 1) := by decide +kernel
theorem dX7_storedIn_56 : decode cX7_storedIn 56 = .ok (.iload_n 2, 1) := by decide +kernel
theorem dX7_storedIn_57 : decode cX7_storedIn 57 = .ok (.iload_n 1, 1) := by decide +kernel
theorem dX7_storedIn_58 : decode cX7_storedIn 58 = .ok (.if_icmp .le 5, 3) := by decide +kernel
theorem dX7_storedIn_61 : decode cX7_storedIn 61 = .ok (.iload_n 3, 1) := by decide +kernel
theorem dX7_storedIn_62 : decode cX7_storedIn 62 = .ok (.ireturn, 1) := by decide +kernel
theorem dX7_storedIn_63 : decode cX7_storedIn 63 = .ok (.iinc 3 1, 3) := by decide +kernel
theorem dX7_storedIn_66 : decode cX7_storedIn 66 = .ok (.goto (-27), 3) := by decide +kernel
theorem dX7_storedIn_69 : decode cX7_storedIn 69 = .ok (.iconst (-1), 1) := by decide +kernel
theorem dX7_storedIn_70 : decode cX7_storedIn 70 = .ok (.ireturn, 1) := by decide +kernel
set_option maxRecDepth 20000 in
theorem ggX7_least_X5_leastChanged : GoodIn wsX7_least wsX5_leastChanged := goodIn_r _ [6, 7, 8, 9, 10, 11, 12, 13, 14, 22, 23, 24, 25, 26, 27, 28, 29, 30, 31, 32, 33, 34] (by decide +kernel) (by decide +kernel)
set_option maxRecDepth 20000 in
theorem gX7_least_X5_leastChanged : GoodIn wsX7_least (wsV RX7 231 RX5 yX5_leastChanged wsX5_leastChanged) := goodIn_app (goodIn_of _ (by decide +kernel)) ggX7_least_X5_leastChanged
set_option maxRecDepth 20000 in
theorem ggX7_least_X1_get : GoodIn wsX7_least wsX1_get := goodIn_r _ [12, 13, 14, 33, 34] (by decide +kernel) (by decide +kernel)
set_option maxRecDepth 20000 in
theorem gX7_least_X1_get : GoodIn wsX7_least (wsV RX7 173 RX1 yX1_get wsX1_get) := goodIn_app (goodIn_of _ (by decide +kernel)) ggX7_least_X1_get
theorem dX7_least_0 : decode cX7_least 0 = .ok (.aload_n 0, 1) := by decide +kernel
theorem dX7_least_1 : decode cX7_least 1 = .ok (.getfield 19, 3) := by decide +kernel
theorem dX7_least_4 : decode cX7_least 4 = .ok (.getfield 103, 3) := by decide +kernel
theorem dX7_least_7 : decode cX7_least 7 = .ok (.aload_n 0, 1) := by decide +kernel
theorem dX7_least_8 : decode cX7_least 8 = .ok (.getfield 19, 3) := by decide +kernel
theorem dX7_least_11 : decode cX7_least 11 = .ok (.invokevirtual 231, 3) := by decide +kernel
theorem dX7_least_14 : decode cX7_least 14 = .ok (.iconst 0, 1) := by decide +kernel
theorem dX7_least_15 : decode cX7_least 15 = .ok (.invokevirtual 173, 3) := by decide +kernel
theorem dX7_least_18 : decode cX7_least 18 = .ok (.ireturn, 1) := by decide +kernel
theorem dX7_room_0 : decode cX7_room 0 = .ok (.iload_n 1, 1) := by decide +kernel
theorem dX7_room_1 : decode cX7_room 1 = .ok (.ifCond .lt 9, 3) := by decide +kernel
theorem dX7_room_4 : decode cX7_room 4 = .ok (.iload_n 1, 1) := by decide +kernel
theorem dX7_room_5 : decode cX7_room 5 = .ok (.bipush 54, 2) := by decide +kernel
theorem dX7_room_7 : decode cX7_room 7 = .ok (.if_icmp .le 13, 3) := by decide +kernel
theorem dX7_room_10 : decode cX7_room 10 = .ok (.new 43, 3) := by decide +kernel
theorem dX7_room_13 : decode cX7_room 13 = .ok (.dup, 1) := by decide +kernel
theorem dX7_room_14 : decode cX7_room 14 = .ok (.ldc 234, 2) := by decide +kernel
theorem dX7_room_16 : decode cX7_room 16 = .ok (.invokespecial 47, 3) := by decide +kernel
theorem dX7_room_19 : decode cX7_room 19 = .ok (.athrow, 1) := by decide +kernel
theorem dX7_room_20 : decode cX7_room 20 = .ok (.aload_n 0, 1) := by decide +kernel
theorem dX7_room_21 : decode cX7_room 21 = .ok (.getfield 19, 3) := by decide +kernel
theorem dX7_room_24 : decode cX7_room 24 = .ok (.getfield 135, 3) := by decide +kernel
theorem dX7_room_27 : decode cX7_room 27 = .ok (.getfield 139, 3) := by decide +kernel
theorem dX7_room_30 : decode cX7_room 30 = .ok (.aload_n 0, 1) := by decide +kernel
theorem dX7_room_31 : decode cX7_room 31 = .ok (.getfield 19, 3) := by decide +kernel
theorem dX7_room_34 : decode cX7_room 34 = .ok (.getfield 135, 3) := by decide +kernel
theorem dX7_room_37 : decode cX7_room 37 = .ok (.getfield 144, 3) := by decide +kernel
theorem dX7_room_40 : decode cX7_room 40 = .ok (.iadd, 1) := by decide +kernel
theorem dX7_room_41 : decode cX7_room 41 = .ok (.iconst 1, 1) := by decide +kernel
theorem dX7_room_42 : decode cX7_room 42 = .ok (.iload_n 1, 1) := by decide +kernel
theorem dX7_room_43 : decode cX7_room 43 = .ok (.bipush 9, 2) := by decide +kernel
theorem dX7_room_45 : decode cX7_room 45 = .ok (.idiv, 1) := by decide +kernel
theorem dX7_room_46 : decode cX7_room 46 = .ok (.iadd, 1) := by decide +kernel
theorem dX7_room_47 : decode cX7_room 47 = .ok (.idiv, 1) := by decide +kernel
theorem dX7_room_48 : decode cX7_room 48 = .ok (.ireturn, 1) := by decide +kernel
set_option maxRecDepth 20000 in
theorem ggX7_leastPace_X7_storesAllWith : GoodIn wsX7_leastPace wsX7_storesAllWith := goodIn_r _ [7, 8, 9, 10, 11, 12, 13, 14, 15, 16, 17, 18, 19, 20, 21, 22, 23, 24, 25, 26, 27, 28, 29, 30, 31, 32, 33, 34, 35, 36, 37, 38, 39, 40, 41, 42, 43, 44, 45, 46, 47, 48, 49, 50, 51, 52, 53, 54, 55, 56, 57, 58, 59, 60, 61, 62, 63, 64, 65, 66, 67, 68, 69, 70, 71, 72, 73, 74, 75, 76, 77, 78, 79, 80, 81, 82, 83, 84, 85, 86, 87, 88, 89, 90, 91, 92, 93, 94, 95, 96, 97, 98, 99, 100, 101, 102, 6, 103, 104, 105, 106, 107, 108, 109, 110, 111, 112, 113, 114, 115, 116, 117, 118, 119, 120, 121, 122, 123, 124, 125, 126, 127, 128, 129, 130, 131, 132, 133, 134, 135, 136, 137, 138, 139, 140, 141, 142, 143, 144, 145, 146, 147, 148, 149, 150, 151, 152, 153, 154, 155, 156, 157, 158, 159, 160, 161, 162, 163, 164, 165, 166, 167, 168, 169, 170, 171, 172, 173, 174, 175, 176, 177, 178, 179, 180, 181, 182] (by decide +kernel) (by decide +kernel)
set_option maxRecDepth 20000 in
theorem gX7_leastPace_X7_storesAllWith : GoodIn wsX7_leastPace (wsV RX7 242 RX7 yX7_storesAllWith wsX7_storesAllWith) := goodIn_app (goodIn_of _ (by decide +kernel)) ggX7_leastPace_X7_storesAllWith
theorem dX7_leastPace_0 : decode cX7_leastPace 0 = .ok (.getstatic 236, 3) := by decide +kernel
theorem dX7_leastPace_3 : decode cX7_leastPace 3 = .ok (.iconst 0, 1) := by decide +kernel
theorem dX7_leastPace_4 : decode cX7_leastPace 4 = .ok (.iaload, 1) := by decide +kernel
theorem dX7_leastPace_5 : decode cX7_leastPace 5 = .ok (.istore_n 1, 1) := by decide +kernel
theorem dX7_leastPace_6 : decode cX7_leastPace 6 = .ok (.iload_n 1, 1) := by decide +kernel
theorem dX7_leastPace_7 : decode cX7_leastPace 7 = .ok (.getstatic 239, 3) := by decide +kernel
theorem dX7_leastPace_10 : decode cX7_leastPace 10 = .ok (.iconst 0, 1) := by decide +kernel
theorem dX7_leastPace_11 : decode cX7_leastPace 11 = .ok (.iaload, 1) := by decide +kernel
theorem dX7_leastPace_12 : decode cX7_leastPace 12 = .ok (.if_icmp .gt 19, 3) := by decide +kernel
theorem dX7_leastPace_15 : decode cX7_leastPace 15 = .ok (.aload_n 0, 1) := by decide +kernel
theorem dX7_leastPace_16 : decode cX7_leastPace 16 = .ok (.iload_n 1, 1) := by decide +kernel
theorem dX7_leastPace_17 : decode cX7_leastPace 17 = .ok (.invokevirtual 242, 3) := by decide +kernel
theorem dX7_leastPace_20 : decode cX7_leastPace 20 = .ok (.ifCond .eq 5, 3) := by decide +kernel
theorem dX7_leastPace_23 : decode cX7_leastPace 23 = .ok (.iload_n 1, 1) := by decide +kernel
theorem dX7_leastPace_24 : decode cX7_leastPace 24 = .ok (.ireturn, 1) := by decide +kernel
theorem dX7_leastPace_25 : decode cX7_leastPace 25 = .ok (.iinc 1 1, 3) := by decide +kernel
theorem dX7_leastPace_28 : decode cX7_leastPace 28 = .ok (.goto (-22), 3) := by decide +kernel
theorem dX7_leastPace_31 : decode cX7_leastPace 31 = .ok (.iconst (-1), 1) := by decide +kernel
theorem dX7_leastPace_32 : decode cX7_leastPace 32 = .ok (.ireturn, 1) := by decide +kernel
set_option maxRecDepth 20000 in
theorem ggX7_storesAllWith_X5_copyFrom : GoodIn wsX7_storesAllWith wsX5_copyFrom := goodIn_r _ [7, 8, 9, 10, 11, 12, 13, 14, 15, 16, 17, 18, 19, 20, 21, 22, 23, 24, 25, 26, 27, 28, 29, 30, 31, 32, 33, 34, 35, 36, 37, 38, 39, 40, 41, 42, 43, 44, 45, 46, 47, 48, 49, 50, 51, 52, 53, 153, 154, 155, 156, 157, 158, 159, 160, 161, 162, 163, 166, 167, 168, 169, 164, 165, 170, 171, 172, 173, 174, 175, 176] (by decide +kernel) (by decide +kernel)
set_option maxRecDepth 20000 in
theorem gX7_storesAllWith_X5_copyFrom : GoodIn wsX7_storesAllWith (wsV RX7 228 RX5 yX5_copyFrom wsX5_copyFrom) := goodIn_app (goodIn_of _ (by decide +kernel)) ggX7_storesAllWith_X5_copyFrom
set_option maxRecDepth 20000 in
theorem ggX7_storesAllWith_X5_change : GoodIn wsX7_storesAllWith wsX5_change := goodIn_r _ [57, 8, 153, 154, 155, 156, 157, 158, 159, 160, 161, 162, 163] (by decide +kernel) (by decide +kernel)
set_option maxRecDepth 20000 in
theorem gX7_storesAllWith_X5_change : GoodIn wsX7_storesAllWith (wsV RX7 219 RX5 yX5_change wsX5_change) := goodIn_app (goodIn_of _ (by decide +kernel)) ggX7_storesAllWith_X5_change
set_option maxRecDepth 20000 in
theorem ggX7_storesAllWith_X5_pass : GoodIn wsX7_storesAllWith wsX5_pass := goodIn_r _ [61, 13, 8, 62, 63, 64, 26, 65, 32, 28, 31, 66, 67, 68, 6, 69, 15, 70, 71, 72, 36, 73, 38, 39, 74, 75, 76, 77, 14, 17, 16, 21, 78, 79, 80, 81, 82, 83, 84, 85, 86, 87, 88, 89, 90, 91, 92, 93, 94, 95, 96, 97, 98, 99, 100, 101, 102, 30, 103, 104, 105, 106, 40, 10, 11, 12, 107, 108, 109, 110, 111, 112, 113, 114, 115, 116, 117, 118, 119, 120, 121, 122, 19, 123, 124, 125, 126, 127, 128, 129, 130, 131, 132, 133, 44, 134, 51, 52, 135, 136, 137, 138, 49, 50, 139, 140, 141, 142, 53, 46, 143, 144, 145, 146, 48, 153, 154, 155, 156, 157, 158, 159, 160, 161, 162, 163, 166, 167, 168, 169, 164, 165, 170, 171, 172, 173, 174, 175, 176] (by decide +kernel) (by decide +kernel)
set_option maxRecDepth 20000 in
theorem gX7_storesAllWith_X5_pass : GoodIn wsX7_storesAllWith (wsV RX7 100 RX5 yX5_pass wsX5_pass) := goodIn_app (goodIn_of _ (by decide +kernel)) ggX7_storesAllWith_X5_pass
theorem dX7_storesAllWith_0 : decode cX7_storesAllWith 0 = .ok (.aload_n 0, 1) := by decide +kernel
theorem dX7_storesAllWith_1 : decode cX7_storesAllWith 1 = .ok (.getfield 23, 3) := by decide +kernel
theorem dX7_storesAllWith_4 : decode cX7_storesAllWith 4 = .ok (.aload_n 0, 1) := by decide +kernel
theorem dX7_storesAllWith_5 : decode cX7_storesAllWith 5 = .ok (.getfield 19, 3) := by decide +kernel
theorem dX7_storesAllWith_8 : decode cX7_storesAllWith 8 = .ok (.invokevirtual 228, 3) := by decide +kernel
theorem dX7_storesAllWith_11 : decode cX7_storesAllWith 11 = .ok (.aload_n 0, 1) := by decide +kernel
theorem dX7_storesAllWith_12 : decode cX7_storesAllWith 12 = .ok (.getfield 23, 3) := by decide +kernel
theorem dX7_storesAllWith_15 : decode cX7_storesAllWith 15 = .ok (.iconst 0, 1) := by decide +kernel
theorem dX7_storesAllWith_16 : decode cX7_storesAllWith 16 = .ok (.iload_n 1, 1) := by decide +kernel
theorem dX7_storesAllWith_17 : decode cX7_storesAllWith 17 = .ok (.invokevirtual 219, 3) := by decide +kernel
theorem dX7_storesAllWith_20 : decode cX7_storesAllWith 20 = .ok (.pop, 1) := by decide +kernel
theorem dX7_storesAllWith_21 : decode cX7_storesAllWith 21 = .ok (.aload_n 0, 1) := by decide +kernel
theorem dX7_storesAllWith_22 : decode cX7_storesAllWith 22 = .ok (.getfield 23, 3) := by decide +kernel
theorem dX7_storesAllWith_25 : decode cX7_storesAllWith 25 = .ok (.iconst 5, 1) := by decide +kernel
theorem dX7_storesAllWith_26 : decode cX7_storesAllWith 26 = .ok (.invokevirtual 100, 3) := by decide +kernel
theorem dX7_storesAllWith_29 : decode cX7_storesAllWith 29 = .ok (.pop, 1) := by decide +kernel
theorem dX7_storesAllWith_30 : decode cX7_storesAllWith 30 = .ok (.aload_n 0, 1) := by decide +kernel
theorem dX7_storesAllWith_31 : decode cX7_storesAllWith 31 = .ok (.getfield 23, 3) := by decide +kernel
theorem dX7_storesAllWith_34 : decode cX7_storesAllWith 34 = .ok (.getfield 123, 3) := by decide +kernel
theorem dX7_storesAllWith_37 : decode cX7_storesAllWith 37 = .ok (.getfield 122, 3) := by decide +kernel
theorem dX7_storesAllWith_40 : decode cX7_storesAllWith 40 = .ok (.ifCond .ne 7, 3) := by decide +kernel
theorem dX7_storesAllWith_43 : decode cX7_storesAllWith 43 = .ok (.iconst 1, 1) := by decide +kernel
theorem dX7_storesAllWith_44 : decode cX7_storesAllWith 44 = .ok (.goto 4, 3) := by decide +kernel
theorem dX7_storesAllWith_47 : decode cX7_storesAllWith 47 = .ok (.iconst 0, 1) := by decide +kernel
theorem dX7_storesAllWith_48 : decode cX7_storesAllWith 48 = .ok (.ireturn, 1) := by decide +kernel
set_option maxRecDepth 20000 in
theorem ggX7_drops_X7_isPicture : GoodIn wsX7_drops wsX7_isPicture := goodIn_r _ [8, 9] (by decide +kernel) (by decide +kernel)
set_option maxRecDepth 20000 in
theorem gX7_drops_X7_isPicture : GoodIn wsX7_drops (va_wsS RX7 194 yX7_isPicture wsX7_isPicture) := goodIn_app (goodIn_of _ (by decide +kernel)) ggX7_drops_X7_isPicture
set_option maxRecDepth 20000 in
theorem ggX7_drops_X7_isTicks : GoodIn wsX7_drops wsX7_isTicks := goodIn_r _ [12] (by decide +kernel) (by decide +kernel)
set_option maxRecDepth 20000 in
theorem gX7_drops_X7_isTicks : GoodIn wsX7_drops (va_wsS RX7 203 yX7_isTicks wsX7_isTicks) := goodIn_app (goodIn_of _ (by decide +kernel)) ggX7_drops_X7_isTicks
set_option maxRecDepth 20000 in
theorem ggX7_drops_X5_copyFrom : GoodIn wsX7_drops wsX5_copyFrom := goodIn_r _ [17, 18, 19, 20, 21, 22, 23, 24, 25, 26, 27, 28, 29, 30, 31, 32, 33, 34, 35, 36, 37, 38, 39, 40, 41, 42, 43, 44, 45, 46, 47, 48, 49, 50, 51, 52, 53, 54, 55, 56, 57, 58, 59, 60, 61, 62, 63, 162, 163, 164, 165, 166, 167, 168, 169, 170, 171, 172, 173, 174, 175, 176, 177, 178, 179, 180, 181, 182, 183, 184, 185] (by decide +kernel) (by decide +kernel)
set_option maxRecDepth 20000 in
theorem gX7_drops_X5_copyFrom : GoodIn wsX7_drops (wsV RX7 228 RX5 yX5_copyFrom wsX5_copyFrom) := goodIn_app (goodIn_of _ (by decide +kernel)) ggX7_drops_X5_copyFrom
set_option maxRecDepth 20000 in
theorem ggX7_drops_X5_receive : GoodIn wsX7_drops wsX5_receive := goodIn_r _ [67, 32, 28, 26, 25, 30, 27, 68, 7, 69, 70, 71, 72, 46, 73, 48, 74, 75, 76, 77, 49, 162, 163, 164, 165, 166, 167, 168, 169, 170, 171, 172, 179, 180, 181, 182, 183, 184, 185, 177, 178] (by decide +kernel) (by decide +kernel)
set_option maxRecDepth 20000 in
theorem gX7_drops_X5_receive : GoodIn wsX7_drops (wsV RX7 97 RX5 yX5_receive wsX5_receive) := goodIn_app (goodIn_of _ (by decide +kernel)) ggX7_drops_X5_receive
set_option maxRecDepth 20000 in
theorem ggX7_drops_X5_pass : GoodIn wsX7_drops wsX5_pass := goodIn_r _ [81, 23, 18, 82, 83, 84, 36, 85, 42, 38, 41, 86, 87, 88, 16, 89, 25, 90, 91, 92, 46, 93, 48, 49, 94, 95, 96, 97, 24, 27, 26, 31, 70, 71, 72, 73, 74, 75, 76, 77, 98, 99, 100, 101, 102, 103, 104, 105, 106, 68, 7, 69, 107, 108, 109, 110, 111, 40, 112, 113, 114, 115, 50, 20, 21, 22, 116, 117, 118, 119, 120, 121, 122, 123, 124, 125, 126, 127, 128, 129, 130, 131, 29, 132, 133, 134, 135, 136, 137, 138, 139, 140, 141, 142, 54, 143, 61, 62, 144, 145, 146, 147, 59, 60, 148, 149, 150, 151, 63, 56, 152, 153, 154, 155, 58, 162, 163, 164, 165, 166, 167, 168, 169, 170, 171, 172, 173, 174, 175, 176, 177, 178, 179, 180, 181, 182, 183, 184, 185] (by decide +kernel) (by decide +kernel)
set_option maxRecDepth 20000 in
theorem gX7_drops_X5_pass : GoodIn wsX7_drops (wsV RX7 100 RX5 yX5_pass wsX5_pass) := goodIn_app (goodIn_of _ (by decide +kernel)) ggX7_drops_X5_pass
theorem dX7_drops_0 : decode cX7_drops 0 = .ok (.iload_n 1, 1) := by decide +kernel
theorem dX7_drops_1 : decode cX7_drops 1 = .ok (.invokestatic 194, 3) := by decide +kernel
theorem dX7_drops_4 : decode cX7_drops 4 = .ok (.ifCond .eq 10, 3) := by decide +kernel
theorem dX7_drops_7 : decode cX7_drops 7 = .ok (.iload_n 2, 1) := by decide +kernel
theorem dX7_drops_8 : decode cX7_drops 8 = .ok (.invokestatic 203, 3) := by decide +kernel
theorem dX7_drops_11 : decode cX7_drops 11 = .ok (.ifCond .ne 13, 3) := by decide +kernel
theorem dX7_drops_14 : decode cX7_drops 14 = .ok (.new 43, 3) := by decide +kernel
theorem dX7_drops_17 : decode cX7_drops 17 = .ok (.dup, 1) := by decide +kernel
theorem dX7_drops_18 : decode cX7_drops 18 = .ok (.ldc 245, 2) := by decide +kernel
theorem dX7_drops_20 : decode cX7_drops 20 = .ok (.invokespecial 47, 3) := by decide +kernel
theorem dX7_drops_23 : decode cX7_drops 23 = .ok (.athrow, 1) := by decide +kernel
theorem dX7_drops_24 : decode cX7_drops 24 = .ok (.aload_n 0, 1) := by decide +kernel
theorem dX7_drops_25 : decode cX7_drops 25 = .ok (.getfield 23, 3) := by decide +kernel
theorem dX7_drops_28 : decode cX7_drops 28 = .ok (.aload_n 0, 1) := by decide +kernel
theorem dX7_drops_29 : decode cX7_drops 29 = .ok (.getfield 19, 3) := by decide +kernel
theorem dX7_drops_32 : decode cX7_drops 32 = .ok (.invokevirtual 228, 3) := by decide +kernel
theorem dX7_drops_35 : decode cX7_drops 35 = .ok (.aload_n 0, 1) := by decide +kernel
theorem dX7_drops_36 : decode cX7_drops 36 = .ok (.getfield 23, 3) := by decide +kernel
theorem dX7_drops_39 : decode cX7_drops 39 = .ok (.iload_n 1, 1) := by decide +kernel
theorem dX7_drops_40 : decode cX7_drops 40 = .ok (.invokevirtual 97, 3) := by decide +kernel
theorem dX7_drops_43 : decode cX7_drops 43 = .ok (.pop, 1) := by decide +kernel
theorem dX7_drops_44 : decode cX7_drops 44 = .ok (.aload_n 0, 1) := by decide +kernel
theorem dX7_drops_45 : decode cX7_drops 45 = .ok (.getfield 23, 3) := by decide +kernel
theorem dX7_drops_48 : decode cX7_drops 48 = .ok (.iload_n 2, 1) := by decide +kernel
theorem dX7_drops_49 : decode cX7_drops 49 = .ok (.invokevirtual 100, 3) := by decide +kernel
theorem dX7_drops_52 : decode cX7_drops 52 = .ok (.pop, 1) := by decide +kernel
theorem dX7_drops_53 : decode cX7_drops 53 = .ok (.aload_n 0, 1) := by decide +kernel
theorem dX7_drops_54 : decode cX7_drops 54 = .ok (.getfield 23, 3) := by decide +kernel
theorem dX7_drops_57 : decode cX7_drops 57 = .ok (.getfield 126, 3) := by decide +kernel
theorem dX7_drops_60 : decode cX7_drops 60 = .ok (.aload_n 0, 1) := by decide +kernel
theorem dX7_drops_61 : decode cX7_drops 61 = .ok (.getfield 19, 3) := by decide +kernel
theorem dX7_drops_64 : decode cX7_drops 64 = .ok (.getfield 126, 3) := by decide +kernel
theorem dX7_drops_67 : decode cX7_drops 67 = .ok (.isub, 1) := by decide +kernel
theorem dX7_drops_68 : decode cX7_drops 68 = .ok (.ireturn, 1) := by decide +kernel
set_option maxRecDepth 20000 in
theorem ggX7_runScript_X5_copyFrom : GoodIn wsX7_runScript wsX5_copyFrom := goodIn_r _ [10, 11, 12, 13, 14, 15, 16, 17, 18, 19, 20, 21, 22, 23, 24, 25, 26, 27, 28, 29, 30, 31, 32, 33, 34, 35, 36, 37, 38, 39, 40, 41, 42, 43, 44, 45, 46, 47, 48, 49, 50, 51, 52, 53, 54, 55, 56, 184, 185, 186, 187, 188, 189, 190, 191, 192, 193, 194, 195, 196, 197, 198, 199, 200, 201, 202, 203, 204, 205, 206, 207] (by decide +kernel) (by decide +kernel)
set_option maxRecDepth 20000 in
theorem gX7_runScript_X5_copyFrom : GoodIn wsX7_runScript (wsV RX7 228 RX5 yX5_copyFrom wsX5_copyFrom) := goodIn_app (goodIn_of _ (by decide +kernel)) ggX7_runScript_X5_copyFrom
set_option maxRecDepth 20000 in
theorem ggX7_runScript_X7_succeeds : GoodIn wsX7_runScript wsX7_succeeds := goodIn_r _ [61, 62, 4, 63, 64, 65, 66, 9, 67, 25, 21, 19, 18, 23, 20, 68, 60, 69, 70, 71, 72, 39, 73, 41, 74, 75, 76, 77, 42, 78, 79, 80, 81, 82, 83, 84, 16, 11, 85, 86, 87, 29, 88, 35, 31, 34, 89, 90, 91, 92, 93, 94, 95, 96, 97, 98, 99, 100, 17, 24, 101, 102, 103, 104, 105, 106, 107, 108, 109, 110, 111, 112, 113, 114, 33, 115, 116, 117, 118, 43, 13, 14, 15, 119, 120, 121, 122, 123, 124, 125, 126, 127, 128, 129, 130, 131, 132, 133, 134, 22, 135, 136, 137, 138, 139, 140, 141, 142, 143, 144, 145, 47, 146, 54, 55, 147, 148, 149, 150, 52, 53, 151, 152, 153, 154, 56, 49, 155, 156, 157, 158, 51, 159, 160, 161, 162, 163, 164, 165, 166, 167, 168, 169, 170, 171, 172, 173, 174, 175, 176, 177, 178, 179, 180, 181, 182, 183, 184, 185, 186, 187, 188, 189, 190, 191, 192, 193, 194, 201, 202, 203, 204, 205, 206, 207, 199, 200, 195, 196, 197, 198] (by decide +kernel) (by decide +kernel)
set_option maxRecDepth 20000 in
theorem gX7_runScript_X7_succeeds : GoodIn wsX7_runScript (wsV RX7 253 RX7 yX7_succeeds wsX7_succeeds) := goodIn_app (goodIn_of _ (by decide +kernel)) ggX7_runScript_X7_succeeds
theorem dX7_runScript_0 : decode cX7_runScript 0 = .ok (.iload_n 1, 1) := by decide +kernel
theorem dX7_runScript_1 : decode cX7_runScript 1 = .ok (.iconst 1, 1) := by decide +kernel
theorem dX7_runScript_2 : decode cX7_runScript 2 = .ok (.if_icmp .lt 8, 3) := by decide +kernel
theorem dX7_runScript_5 : decode cX7_runScript 5 = .ok (.iload_n 1, 1) := by decide +kernel
theorem dX7_runScript_6 : decode cX7_runScript 6 = .ok (.iconst 2, 1) := by decide +kernel
theorem dX7_runScript_7 : decode cX7_runScript 7 = .ok (.if_icmp .le 13, 3) := by decide +kernel
theorem dX7_runScript_10 : decode cX7_runScript 10 = .ok (.new 43, 3) := by decide +kernel
theorem dX7_runScript_13 : decode cX7_runScript 13 = .ok (.dup, 1) := by decide +kernel
theorem dX7_runScript_14 : decode cX7_runScript 14 = .ok (.ldc 247, 2) := by decide +kernel
theorem dX7_runScript_16 : decode cX7_runScript 16 = .ok (.invokespecial 47, 3) := by decide +kernel
theorem dX7_runScript_19 : decode cX7_runScript 19 = .ok (.athrow, 1) := by decide +kernel
theorem dX7_runScript_20 : decode cX7_runScript 20 = .ok (.lload_n 2, 1) := by decide +kernel
theorem dX7_runScript_21 : decode cX7_runScript 21 = .ok (.ldc2_w 249, 3) := by decide +kernel
theorem dX7_runScript_24 : decode cX7_runScript 24 = .ok (.ldiv, 1) := by decide +kernel
theorem dX7_runScript_25 : decode cX7_runScript 25 = .ok (.lstore 4, 2) := by decide +kernel
theorem dX7_runScript_27 : decode cX7_runScript 27 = .ok (.lload_n 2, 1) := by decide +kernel
theorem dX7_runScript_28 : decode cX7_runScript 28 = .ok (.ldc2_w 249, 3) := by decide +kernel
theorem dX7_runScript_31 : decode cX7_runScript 31 = .ok (.lrem, 1) := by decide +kernel
theorem dX7_runScript_32 : decode cX7_runScript 32 = .ok (.lstore 6, 2) := by decide +kernel
theorem dX7_runScript_34 : decode cX7_runScript 34 = .ok (.lload_n 2, 1) := by decide +kernel
theorem dX7_runScript_35 : decode cX7_runScript 35 = .ok (.lconst 0, 1) := by decide +kernel
theorem dX7_runScript_36 : decode cX7_runScript 36 = .ok (.lcmp, 1) := by decide +kernel
theorem dX7_runScript_37 : decode cX7_runScript 37 = .ok (.ifCond .lt 24, 3) := by decide +kernel
theorem dX7_runScript_40 : decode cX7_runScript 40 = .ok (.lload 4, 2) := by decide +kernel
theorem dX7_runScript_42 : decode cX7_runScript 42 = .ok (.ldc2_w 249, 3) := by decide +kernel
theorem dX7_runScript_45 : decode cX7_runScript 45 = .ok (.lcmp, 1) := by decide +kernel
theorem dX7_runScript_46 : decode cX7_runScript 46 = .ok (.ifCond .ge 15, 3) := by decide +kernel
theorem dX7_runScript_49 : decode cX7_runScript 49 = .ok (.iload_n 1, 1) := by decide +kernel
theorem dX7_runScript_50 : decode cX7_runScript 50 = .ok (.iconst 1, 1) := by decide +kernel
theorem dX7_runScript_51 : decode cX7_runScript 51 = .ok (.if_icmp .ne 20, 3) := by decide +kernel
theorem dX7_runScript_54 : decode cX7_runScript 54 = .ok (.lload 4, 2) := by decide +kernel
theorem dX7_runScript_56 : decode cX7_runScript 56 = .ok (.lconst 0, 1) := by decide +kernel
theorem dX7_runScript_57 : decode cX7_runScript 57 = .ok (.lcmp, 1) := by decide +kernel
theorem dX7_runScript_58 : decode cX7_runScript 58 = .ok (.ifCond .le 13, 3) := by decide +kernel
theorem dX7_runScript_61 : decode cX7_runScript 61 = .ok (.new 43, 3) := by decide +kernel
theorem dX7_runScript_64 : decode cX7_runScript 64 = .ok (.dup, 1) := by decide +kernel
theorem dX7_runScript_65 : decode cX7_runScript 65 = .ok (.ldc 251, 2) := by decide +kernel
theorem dX7_runScript_67 : decode cX7_runScript 67 = .ok (.invokespecial 47, 3) := by decide +kernel
theorem dX7_runScript_70 : decode cX7_runScript 70 = .ok (.athrow, 1) := by decide +kernel
theorem dX7_runScript_71 : decode cX7_runScript 71 = .ok (.aload_n 0, 1) := by decide +kernel
theorem dX7_runScript_72 : decode cX7_runScript 72 = .ok (.getfield 23, 3) := by decide +kernel
theorem dX7_runScript_75 : decode cX7_runScript 75 = .ok (.aload_n 0, 1) := by decide +kernel
theorem dX7_runScript_76 : decode cX7_runScript 76 = .ok (.getfield 19, 3) := by decide +kernel
theorem dX7_runScript_79 : decode cX7_runScript 79 = .ok (.invokevirtual 228, 3) := by decide +kernel
theorem dX7_runScript_82 : decode cX7_runScript 82 = .ok (.iload_n 1, 1) := by decide +kernel
theorem dX7_runScript_83 : decode cX7_runScript 83 = .ok (.iconst 1, 1) := by decide +kernel
theorem dX7_runScript_84 : decode cX7_runScript 84 = .ok (.if_icmp .ne 19, 3) := by decide +kernel
theorem dX7_runScript_87 : decode cX7_runScript 87 = .ok (.aload_n 0, 1) := by decide +kernel
theorem dX7_runScript_88 : decode cX7_runScript 88 = .ok (.lload 6, 2) := by decide +kernel
theorem dX7_runScript_90 : decode cX7_runScript 90 = .ok (.l2i, 1) := by decide +kernel
theorem dX7_runScript_91 : decode cX7_runScript 91 = .ok (.invokevirtual 253, 3) := by decide +kernel
theorem dX7_runScript_94 : decode cX7_runScript 94 = .ok (.ifCond .eq 7, 3) := by decide +kernel
theorem dX7_runScript_97 : decode cX7_runScript 97 = .ok (.iconst (-1), 1) := by decide +kernel
theorem dX7_runScript_98 : decode cX7_runScript 98 = .ok (.goto 4, 3) := by decide +kernel
theorem dX7_runScript_101 : decode cX7_runScript 101 = .ok (.iconst 0, 1) := by decide +kernel
theorem dX7_runScript_102 : decode cX7_runScript 102 = .ok (.ireturn, 1) := by decide +kernel
theorem dX7_runScript_103 : decode cX7_runScript 103 = .ok (.aload_n 0, 1) := by decide +kernel
theorem dX7_runScript_104 : decode cX7_runScript 104 = .ok (.lload 4, 2) := by decide +kernel
theorem dX7_runScript_106 : decode cX7_runScript 106 = .ok (.l2i, 1) := by decide +kernel
theorem dX7_runScript_107 : decode cX7_runScript 107 = .ok (.invokevirtual 253, 3) := by decide +kernel
theorem dX7_runScript_110 : decode cX7_runScript 110 = .ok (.ifCond .ne 5, 3) := by decide +kernel
theorem dX7_runScript_113 : decode cX7_runScript 113 = .ok (.iconst 0, 1) := by decide +kernel
theorem dX7_runScript_114 : decode cX7_runScript 114 = .ok (.ireturn, 1) := by decide +kernel
theorem dX7_runScript_115 : decode cX7_runScript 115 = .ok (.aload_n 0, 1) := by decide +kernel
theorem dX7_runScript_116 : decode cX7_runScript 116 = .ok (.lload 6, 2) := by decide +kernel
theorem dX7_runScript_118 : decode cX7_runScript 118 = .ok (.l2i, 1) := by decide +kernel
theorem dX7_runScript_119 : decode cX7_runScript 119 = .ok (.invokevirtual 253, 3) := by decide +kernel
theorem dX7_runScript_122 : decode cX7_runScript 122 = .ok (.ifCond .eq 7, 3) := by decide +kernel
theorem dX7_runScript_125 : decode cX7_runScript 125 = .ok (.iconst (-1), 1) := by decide +kernel
theorem dX7_runScript_126 : decode cX7_runScript 126 = .ok (.goto 4, 3) := by decide +kernel
theorem dX7_runScript_129 : decode cX7_runScript 129 = .ok (.iconst 1, 1) := by decide +kernel
theorem dX7_runScript_130 : decode cX7_runScript 130 = .ok (.ireturn, 1) := by decide +kernel
set_option maxRecDepth 20000 in
theorem ggX7_succeeds_X5_receive : GoodIn wsX7_succeeds wsX5_receive := goodIn_r _ [8, 9, 10, 11, 12, 13, 14, 15, 16, 17, 18, 19, 20, 21, 22, 23, 24, 25, 26, 27, 28, 157, 158, 159, 160, 161, 162, 163, 164, 165, 166, 167, 168, 169, 170, 171, 172, 173, 174, 175, 176] (by decide +kernel) (by decide +kernel)
set_option maxRecDepth 20000 in
theorem gX7_succeeds_X5_receive : GoodIn wsX7_succeeds (wsV RX7 97 RX5 yX5_receive wsX5_receive) := goodIn_app (goodIn_of _ (by decide +kernel)) ggX7_succeeds_X5_receive
set_option maxRecDepth 20000 in
theorem ggX7_succeeds_X7_isTicks : GoodIn wsX7_succeeds wsX7_isTicks := goodIn_r _ [31] (by decide +kernel) (by decide +kernel)
set_option maxRecDepth 20000 in
theorem gX7_succeeds_X7_isTicks : GoodIn wsX7_succeeds (va_wsS RX7 203 yX7_isTicks wsX7_isTicks) := goodIn_app (goodIn_of _ (by decide +kernel)) ggX7_succeeds_X7_isTicks
set_option maxRecDepth 20000 in
theorem ggX7_succeeds_X5_pass : GoodIn wsX7_succeeds wsX5_pass := goodIn_r _ [35, 36, 37, 38, 39, 40, 41, 42, 43, 44, 45, 46, 47, 48, 7, 49, 12, 50, 51, 52, 21, 53, 23, 28, 54, 55, 56, 57, 58, 14, 11, 59, 18, 19, 20, 22, 24, 25, 26, 27, 60, 61, 62, 63, 64, 65, 66, 67, 68, 15, 16, 17, 69, 70, 71, 72, 73, 74, 75, 76, 77, 78, 79, 80, 81, 82, 83, 84, 85, 86, 87, 88, 89, 90, 91, 92, 93, 94, 95, 96, 97, 98, 99, 100, 101, 102, 103, 104, 105, 106, 107, 108, 109, 110, 111, 112, 113, 114, 115, 116, 117, 118, 119, 120, 121, 122, 123, 124, 125, 126, 127, 128, 129, 130, 131, 157, 158, 159, 160, 161, 162, 163, 164, 165, 166, 167, 177, 178, 179, 180, 175, 176, 168, 169, 170, 171, 172, 173, 174] (by decide +kernel) (by decide +kernel)
set_option maxRecDepth 20000 in
theorem gX7_succeeds_X5_pass : GoodIn wsX7_succeeds (wsV RX7 100 RX5 yX5_pass wsX5_pass) := goodIn_app (goodIn_of _ (by decide +kernel)) ggX7_succeeds_X5_pass
set_option maxRecDepth 20000 in
theorem ggX7_succeeds_X1_has : GoodIn wsX7_succeeds wsX1_has := goodIn_r _ [67, 23, 175, 176] (by decide +kernel) (by decide +kernel)
set_option maxRecDepth 20000 in
theorem gX7_succeeds_X1_has : GoodIn wsX7_succeeds (wsV RX7 107 RX1 yX1_has wsX1_has) := goodIn_app (goodIn_of _ (by decide +kernel)) ggX7_succeeds_X1_has
set_option maxRecDepth 20000 in
theorem ggX7_succeeds_X5_dropKept : GoodIn wsX7_succeeds wsX5_dropKept := goodIn_r _ [98, 36, 58, 99, 50, 51, 52, 21, 53, 23, 28, 100, 101, 102, 41, 103, 74, 44, 43, 75, 76, 77, 78, 79, 80, 81, 82, 64, 65, 66, 67, 60, 61, 62, 63, 24, 25, 26, 27, 68, 15, 16, 17, 157, 158, 159, 160, 161, 162, 163, 164, 165, 166, 167, 175, 176, 177, 178, 179, 180] (by decide +kernel) (by decide +kernel)
set_option maxRecDepth 20000 in
theorem gX7_succeeds_X5_dropKept : GoodIn wsX7_succeeds (wsV RX7 113 RX5 yX5_dropKept wsX5_dropKept) := goodIn_app (goodIn_of _ (by decide +kernel)) ggX7_succeeds_X5_dropKept
set_option maxRecDepth 20000 in
theorem ggX7_succeeds_X7_isSetting : GoodIn wsX7_succeeds wsX7_isSetting := goodIn_r _ [136, 137, 138] (by decide +kernel) (by decide +kernel)
set_option maxRecDepth 20000 in
theorem gX7_succeeds_X7_isSetting : GoodIn wsX7_succeeds (va_wsS RX7 213 yX7_isSetting wsX7_isSetting) := goodIn_app (goodIn_of _ (by decide +kernel)) ggX7_succeeds_X7_isSetting
set_option maxRecDepth 20000 in
theorem ggX7_succeeds_X5_change : GoodIn wsX7_succeeds wsX5_change := goodIn_r _ [142, 37, 157, 158, 159, 160, 161, 162, 163, 164, 165, 166, 167] (by decide +kernel) (by decide +kernel)
set_option maxRecDepth 20000 in
theorem gX7_succeeds_X5_change : GoodIn wsX7_succeeds (wsV RX7 219 RX5 yX5_change wsX5_change) := goodIn_app (goodIn_of _ (by decide +kernel)) ggX7_succeeds_X5_change
set_option maxRecDepth 20000 in
theorem ggX7_succeeds_X7_holds : GoodIn wsX7_succeeds wsX7_holds := goodIn_r _ [146, 2, 147, 148, 149, 7, 150, 58, 50, 51, 52, 21, 53, 23, 28, 151, 152, 153, 154, 155, 156, 157, 158, 159, 160, 161, 162, 163, 164, 165, 166, 167, 175, 176, 168, 169, 170, 171, 172, 173, 174, 177, 178, 179, 180] (by decide +kernel) (by decide +kernel)
set_option maxRecDepth 20000 in
theorem gX7_succeeds_X7_holds : GoodIn wsX7_succeeds (wsV RX7 258 RX7 yX7_holds wsX7_holds) := goodIn_app (goodIn_of _ (by decide +kernel)) ggX7_succeeds_X7_holds
theorem dX7_succeeds_0 : decode cX7_succeeds 0 = .ok (.iload_n 1, 1) := by decide +kernel
theorem dX7_succeeds_1 : decode cX7_succeeds 1 = .ok (.ldc_w 256, 3) := by decide +kernel
theorem dX7_succeeds_4 : decode cX7_succeeds 4 = .ok (.idiv, 1) := by decide +kernel
theorem dX7_succeeds_5 : decode cX7_succeeds 5 = .ok (.istore_n 2, 1) := by decide +kernel
theorem dX7_succeeds_6 : decode cX7_succeeds 6 = .ok (.iload_n 1, 1) := by decide +kernel
theorem dX7_succeeds_7 : decode cX7_succeeds 7 = .ok (.ldc_w 256, 3) := by decide +kernel
theorem dX7_succeeds_10 : decode cX7_succeeds 10 = .ok (.irem, 1) := by decide +kernel
theorem dX7_succeeds_11 : decode cX7_succeeds 11 = .ok (.istore_n 3, 1) := by decide +kernel
theorem dX7_succeeds_12 : decode cX7_succeeds 12 = .ok (.iload_n 2, 1) := by decide +kernel
theorem dX7_succeeds_13 : decode cX7_succeeds 13 = .ok (.iconst 1, 1) := by decide +kernel
theorem dX7_succeeds_14 : decode cX7_succeeds 14 = .ok (.if_icmp .ne 14, 3) := by decide +kernel
theorem dX7_succeeds_17 : decode cX7_succeeds 17 = .ok (.aload_n 0, 1) := by decide +kernel
theorem dX7_succeeds_18 : decode cX7_succeeds 18 = .ok (.getfield 23, 3) := by decide +kernel
theorem dX7_succeeds_21 : decode cX7_succeeds 21 = .ok (.iload_n 3, 1) := by decide +kernel
theorem dX7_succeeds_22 : decode cX7_succeeds 22 = .ok (.invokevirtual 97, 3) := by decide +kernel
theorem dX7_succeeds_25 : decode cX7_succeeds 25 = .ok (.pop, 1) := by decide +kernel
theorem dX7_succeeds_26 : decode cX7_succeeds 26 = .ok (.iconst 1, 1) := by decide +kernel
theorem dX7_succeeds_27 : decode cX7_succeeds 27 = .ok (.ireturn, 1) := by decide +kernel
theorem dX7_succeeds_28 : decode cX7_succeeds 28 = .ok (.iload_n 2, 1) := by decide +kernel
theorem dX7_succeeds_29 : decode cX7_succeeds 29 = .ok (.iconst 2, 1) := by decide +kernel
theorem dX7_succeeds_30 : decode cX7_succeeds 30 = .ok (.if_icmp .ne 21, 3) := by decide +kernel
theorem dX7_succeeds_33 : decode cX7_succeeds 33 = .ok (.iload_n 3, 1) := by decide +kernel
theorem dX7_succeeds_34 : decode cX7_succeeds 34 = .ok (.invokestatic 203, 3) := by decide +kernel
theorem dX7_succeeds_37 : decode cX7_succeeds 37 = .ok (.ifCond .eq 14, 3) := by decide +kernel
theorem dX7_succeeds_40 : decode cX7_succeeds 40 = .ok (.aload_n 0, 1) := by decide +kernel
theorem dX7_succeeds_41 : decode cX7_succeeds 41 = .ok (.getfield 23, 3) := by decide +kernel
theorem dX7_succeeds_44 : decode cX7_succeeds 44 = .ok (.iload_n 3, 1) := by decide +kernel
theorem dX7_succeeds_45 : decode cX7_succeeds 45 = .ok (.invokevirtual 100, 3) := by decide +kernel
theorem dX7_succeeds_48 : decode cX7_succeeds 48 = .ok (.pop, 1) := by decide +kernel
theorem dX7_succeeds_49 : decode cX7_succeeds 49 = .ok (.iconst 1, 1) := by decide +kernel
theorem dX7_succeeds_50 : decode cX7_succeeds 50 = .ok (.ireturn, 1) := by decide +kernel
theorem dX7_succeeds_51 : decode cX7_succeeds 51 = .ok (.iload_n 2, 1) := by decide +kernel
theorem dX7_succeeds_52 : decode cX7_succeeds 52 = .ok (.iconst 3, 1) := by decide +kernel
theorem dX7_succeeds_53 : decode cX7_succeeds 53 = .ok (.if_icmp .ne 28, 3) := by decide +kernel
theorem dX7_succeeds_56 : decode cX7_succeeds 56 = .ok (.aload_n 0, 1) := by decide +kernel
theorem dX7_succeeds_57 : decode cX7_succeeds 57 = .ok (.getfield 23, 3) := by decide +kernel
theorem dX7_succeeds_60 : decode cX7_succeeds 60 = .ok (.getfield 103, 3) := by decide +kernel
theorem dX7_succeeds_63 : decode cX7_succeeds 63 = .ok (.iload_n 3, 1) := by decide +kernel
theorem dX7_succeeds_64 : decode cX7_succeeds 64 = .ok (.invokevirtual 107, 3) := by decide +kernel
theorem dX7_succeeds_67 : decode cX7_succeeds 67 = .ok (.ifCond .eq 14, 3) := by decide +kernel
theorem dX7_succeeds_70 : decode cX7_succeeds 70 = .ok (.aload_n 0, 1) := by decide +kernel
theorem dX7_succeeds_71 : decode cX7_succeeds 71 = .ok (.getfield 23, 3) := by decide +kernel
theorem dX7_succeeds_74 : decode cX7_succeeds 74 = .ok (.iload_n 3, 1) := by decide +kernel
theorem dX7_succeeds_75 : decode cX7_succeeds 75 = .ok (.invokevirtual 113, 3) := by decide +kernel
theorem dX7_succeeds_78 : decode cX7_succeeds 78 = .ok (.pop, 1) := by decide +kernel
theorem dX7_succeeds_79 : decode cX7_succeeds 79 = .ok (.iconst 1, 1) := by decide +kernel
theorem dX7_succeeds_80 : decode cX7_succeeds 80 = .ok (.ireturn, 1) := by decide +kernel
theorem dX7_succeeds_81 : decode cX7_succeeds 81 = .ok (.iload_n 2, 1) := by decide +kernel
theorem dX7_succeeds_82 : decode cX7_succeeds 82 = .ok (.iconst 4, 1) := by decide +kernel
theorem dX7_succeeds_83 : decode cX7_succeeds 83 = .ok (.if_icmp .ne 39, 3) := by decide +kernel
theorem dX7_succeeds_86 : decode cX7_succeeds 86 = .ok (.iload_n 3, 1) := by decide +kernel
theorem dX7_succeeds_87 : decode cX7_succeeds 87 = .ok (.ldc_w 257, 3) := by decide +kernel
theorem dX7_succeeds_90 : decode cX7_succeeds 90 = .ok (.idiv, 1) := by decide +kernel
theorem dX7_succeeds_91 : decode cX7_succeeds 91 = .ok (.iload_n 3, 1) := by decide +kernel
theorem dX7_succeeds_92 : decode cX7_succeeds 92 = .ok (.ldc_w 257, 3) := by decide +kernel
theorem dX7_succeeds_95 : decode cX7_succeeds 95 = .ok (.irem, 1) := by decide +kernel
theorem dX7_succeeds_96 : decode cX7_succeeds 96 = .ok (.invokestatic 213, 3) := by decide +kernel
theorem dX7_succeeds_99 : decode cX7_succeeds 99 = .ok (.ifCond .eq 23, 3) := by decide +kernel
theorem dX7_succeeds_102 : decode cX7_succeeds 102 = .ok (.aload_n 0, 1) := by decide +kernel
theorem dX7_succeeds_103 : decode cX7_succeeds 103 = .ok (.getfield 23, 3) := by decide +kernel
theorem dX7_succeeds_106 : decode cX7_succeeds 106 = .ok (.iload_n 3, 1) := by decide +kernel
theorem dX7_succeeds_107 : decode cX7_succeeds 107 = .ok (.ldc_w 257, 3) := by decide +kernel
theorem dX7_succeeds_110 : decode cX7_succeeds 110 = .ok (.idiv, 1) := by decide +kernel
theorem dX7_succeeds_111 : decode cX7_succeeds 111 = .ok (.iload_n 3, 1) := by decide +kernel
theorem dX7_succeeds_112 : decode cX7_succeeds 112 = .ok (.ldc_w 257, 3) := by decide +kernel
theorem dX7_succeeds_115 : decode cX7_succeeds 115 = .ok (.irem, 1) := by decide +kernel
theorem dX7_succeeds_116 : decode cX7_succeeds 116 = .ok (.invokevirtual 219, 3) := by decide +kernel
theorem dX7_succeeds_119 : decode cX7_succeeds 119 = .ok (.pop, 1) := by decide +kernel
theorem dX7_succeeds_120 : decode cX7_succeeds 120 = .ok (.iconst 1, 1) := by decide +kernel
theorem dX7_succeeds_121 : decode cX7_succeeds 121 = .ok (.ireturn, 1) := by decide +kernel
theorem dX7_succeeds_122 : decode cX7_succeeds 122 = .ok (.aload_n 0, 1) := by decide +kernel
theorem dX7_succeeds_123 : decode cX7_succeeds 123 = .ok (.iload_n 2, 1) := by decide +kernel
theorem dX7_succeeds_124 : decode cX7_succeeds 124 = .ok (.iload_n 3, 1) := by decide +kernel
theorem dX7_succeeds_125 : decode cX7_succeeds 125 = .ok (.invokevirtual 258, 3) := by decide +kernel
theorem dX7_succeeds_128 : decode cX7_succeeds 128 = .ok (.ireturn, 1) := by decide +kernel
set_option maxRecDepth 20000 in
theorem ggX7_holds_X5_keeps : GoodIn wsX7_holds wsX5_keeps := goodIn_r _ [6, 7, 8, 9, 10, 11, 12, 13, 14, 21, 22, 23, 24, 25, 26, 27, 28, 29, 30, 31, 32, 33] (by decide +kernel) (by decide +kernel)
set_option maxRecDepth 20000 in
theorem gX7_holds_X5_keeps : GoodIn wsX7_holds (wsV RX7 261 RX5 yX5_keeps wsX5_keeps) := goodIn_app (goodIn_of _ (by decide +kernel)) ggX7_holds_X5_keeps
theorem dX7_holds_0 : decode cX7_holds 0 = .ok (.iload_n 2, 1) := by decide +kernel
theorem dX7_holds_1 : decode cX7_holds 1 = .ok (.iload_n 1, 1) := by decide +kernel
theorem dX7_holds_2 : decode cX7_holds 2 = .ok (.bipush 9, 2) := by decide +kernel
theorem dX7_holds_4 : decode cX7_holds 4 = .ok (.if_icmp .ne 9, 3) := by decide +kernel
theorem dX7_holds_7 : decode cX7_holds 7 = .ok (.sipush 9999, 3) := by decide +kernel
theorem dX7_holds_10 : decode cX7_holds 10 = .ok (.goto 5, 3) := by decide +kernel
theorem dX7_holds_13 : decode cX7_holds 13 = .ok (.bipush 99, 2) := by decide +kernel
theorem dX7_holds_15 : decode cX7_holds 15 = .ok (.if_icmp .le 5, 3) := by decide +kernel
theorem dX7_holds_18 : decode cX7_holds 18 = .ok (.iconst 0, 1) := by decide +kernel
theorem dX7_holds_19 : decode cX7_holds 19 = .ok (.ireturn, 1) := by decide +kernel
theorem dX7_holds_20 : decode cX7_holds 20 = .ok (.iload_n 1, 1) := by decide +kernel
theorem dX7_holds_21 : decode cX7_holds 21 = .ok (.tableswitch 121 5 9 #[35, 55, 72, 92, 112], 35) := by decide +kernel
theorem dX7_holds_56 : decode cX7_holds 56 = .ok (.aload_n 0, 1) := by decide +kernel
theorem dX7_holds_57 : decode cX7_holds 57 = .ok (.getfield 23, 3) := by decide +kernel
theorem dX7_holds_60 : decode cX7_holds 60 = .ok (.getfield 103, 3) := by decide +kernel
theorem dX7_holds_63 : decode cX7_holds 63 = .ok (.getfield 122, 3) := by decide +kernel
theorem dX7_holds_66 : decode cX7_holds 66 = .ok (.iload_n 2, 1) := by decide +kernel
theorem dX7_holds_67 : decode cX7_holds 67 = .ok (.if_icmp .lt 7, 3) := by decide +kernel
theorem dX7_holds_70 : decode cX7_holds 70 = .ok (.iconst 1, 1) := by decide +kernel
theorem dX7_holds_71 : decode cX7_holds 71 = .ok (.goto 4, 3) := by decide +kernel
theorem dX7_holds_74 : decode cX7_holds 74 = .ok (.iconst 0, 1) := by decide +kernel
theorem dX7_holds_75 : decode cX7_holds 75 = .ok (.ireturn, 1) := by decide +kernel
theorem dX7_holds_76 : decode cX7_holds 76 = .ok (.aload_n 0, 1) := by decide +kernel
theorem dX7_holds_77 : decode cX7_holds 77 = .ok (.getfield 23, 3) := by decide +kernel
theorem dX7_holds_80 : decode cX7_holds 80 = .ok (.getfield 126, 3) := by decide +kernel
theorem dX7_holds_83 : decode cX7_holds 83 = .ok (.iload_n 2, 1) := by decide +kernel
theorem dX7_holds_84 : decode cX7_holds 84 = .ok (.if_icmp .gt 7, 3) := by decide +kernel
theorem dX7_holds_87 : decode cX7_holds 87 = .ok (.iconst 1, 1) := by decide +kernel
theorem dX7_holds_88 : decode cX7_holds 88 = .ok (.goto 4, 3) := by decide +kernel
theorem dX7_holds_91 : decode cX7_holds 91 = .ok (.iconst 0, 1) := by decide +kernel
theorem dX7_holds_92 : decode cX7_holds 92 = .ok (.ireturn, 1) := by decide +kernel
theorem dX7_holds_93 : decode cX7_holds 93 = .ok (.aload_n 0, 1) := by decide +kernel
theorem dX7_holds_94 : decode cX7_holds 94 = .ok (.getfield 23, 3) := by decide +kernel
theorem dX7_holds_97 : decode cX7_holds 97 = .ok (.getfield 147, 3) := by decide +kernel
theorem dX7_holds_100 : decode cX7_holds 100 = .ok (.getfield 156, 3) := by decide +kernel
theorem dX7_holds_103 : decode cX7_holds 103 = .ok (.iload_n 2, 1) := by decide +kernel
theorem dX7_holds_104 : decode cX7_holds 104 = .ok (.if_icmp .gt 7, 3) := by decide +kernel
theorem dX7_holds_107 : decode cX7_holds 107 = .ok (.iconst 1, 1) := by decide +kernel
theorem dX7_holds_108 : decode cX7_holds 108 = .ok (.goto 4, 3) := by decide +kernel
theorem dX7_holds_111 : decode cX7_holds 111 = .ok (.iconst 0, 1) := by decide +kernel
theorem dX7_holds_112 : decode cX7_holds 112 = .ok (.ireturn, 1) := by decide +kernel
theorem dX7_holds_113 : decode cX7_holds 113 = .ok (.aload_n 0, 1) := by decide +kernel
theorem dX7_holds_114 : decode cX7_holds 114 = .ok (.getfield 23, 3) := by decide +kernel
theorem dX7_holds_117 : decode cX7_holds 117 = .ok (.getfield 135, 3) := by decide +kernel
theorem dX7_holds_120 : decode cX7_holds 120 = .ok (.getfield 139, 3) := by decide +kernel
theorem dX7_holds_123 : decode cX7_holds 123 = .ok (.iload_n 2, 1) := by decide +kernel
theorem dX7_holds_124 : decode cX7_holds 124 = .ok (.if_icmp .lt 7, 3) := by decide +kernel
theorem dX7_holds_127 : decode cX7_holds 127 = .ok (.iconst 1, 1) := by decide +kernel
theorem dX7_holds_128 : decode cX7_holds 128 = .ok (.goto 4, 3) := by decide +kernel
theorem dX7_holds_131 : decode cX7_holds 131 = .ok (.iconst 0, 1) := by decide +kernel
theorem dX7_holds_132 : decode cX7_holds 132 = .ok (.ireturn, 1) := by decide +kernel
theorem dX7_holds_133 : decode cX7_holds 133 = .ok (.aload_n 0, 1) := by decide +kernel
theorem dX7_holds_134 : decode cX7_holds 134 = .ok (.getfield 23, 3) := by decide +kernel
theorem dX7_holds_137 : decode cX7_holds 137 = .ok (.iload_n 2, 1) := by decide +kernel
theorem dX7_holds_138 : decode cX7_holds 138 = .ok (.invokevirtual 261, 3) := by decide +kernel
theorem dX7_holds_141 : decode cX7_holds 141 = .ok (.ireturn, 1) := by decide +kernel
theorem dX7_holds_142 : decode cX7_holds 142 = .ok (.iconst 0, 1) := by decide +kernel
theorem dX7_holds_143 : decode cX7_holds 143 = .ok (.ireturn, 1) := by decide +kernel
set_option maxRecDepth 20000 in
theorem ggX7_simulate_X5_copyFrom : GoodIn wsX7_simulate wsX5_copyFrom := goodIn_r _ [13, 14, 15, 16, 17, 18, 19, 20, 21, 22, 23, 24, 25, 26, 27, 28, 29, 30, 31, 32, 33, 34, 35, 36, 37, 38, 39, 40, 41, 42, 43, 44, 45, 46, 47, 48, 49, 50, 51, 52, 53, 54, 55, 56, 57, 58, 59, 159, 160, 161, 162, 163, 164, 165, 166, 167, 168, 169, 172, 173, 174, 175, 170, 171, 176, 177, 178, 179, 180, 181, 182] (by decide +kernel) (by decide +kernel)
set_option maxRecDepth 20000 in
theorem gX7_simulate_X5_copyFrom : GoodIn wsX7_simulate (wsV RX7 228 RX5 yX5_copyFrom wsX5_copyFrom) := goodIn_app (goodIn_of _ (by decide +kernel)) ggX7_simulate_X5_copyFrom
set_option maxRecDepth 20000 in
theorem ggX7_simulate_X5_receive : GoodIn wsX7_simulate wsX5_receive := goodIn_r _ [63, 28, 24, 22, 21, 26, 23, 64, 65, 66, 67, 68, 69, 42, 70, 44, 71, 72, 73, 74, 45, 159, 160, 161, 162, 163, 164, 165, 166, 167, 168, 169, 176, 177, 178, 179, 180, 181, 182, 170, 171] (by decide +kernel) (by decide +kernel)
set_option maxRecDepth 20000 in
theorem gX7_simulate_X5_receive : GoodIn wsX7_simulate (wsV RX7 97 RX5 yX5_receive wsX5_receive) := goodIn_app (goodIn_of _ (by decide +kernel)) ggX7_simulate_X5_receive
set_option maxRecDepth 20000 in
theorem ggX7_simulate_X5_pass : GoodIn wsX7_simulate wsX5_pass := goodIn_r _ [78, 19, 14, 79, 80, 81, 32, 82, 38, 34, 37, 83, 84, 85, 12, 86, 21, 87, 88, 89, 42, 90, 44, 45, 91, 92, 93, 94, 20, 23, 22, 27, 67, 68, 69, 70, 71, 72, 73, 74, 95, 96, 97, 98, 99, 100, 101, 102, 103, 64, 65, 66, 104, 105, 106, 107, 108, 36, 109, 110, 111, 112, 46, 16, 17, 18, 113, 114, 115, 116, 117, 118, 119, 120, 121, 122, 123, 124, 125, 126, 127, 128, 25, 129, 130, 131, 132, 133, 134, 135, 136, 137, 138, 139, 50, 140, 57, 58, 141, 142, 143, 144, 55, 56, 145, 146, 147, 148, 59, 52, 149, 150, 151, 152, 54, 159, 160, 161, 162, 163, 164, 165, 166, 167, 168, 169, 172, 173, 174, 175, 170, 171, 176, 177, 178, 179, 180, 181, 182] (by decide +kernel) (by decide +kernel)
set_option maxRecDepth 20000 in
theorem gX7_simulate_X5_pass : GoodIn wsX7_simulate (wsV RX7 100 RX5 yX5_pass wsX5_pass) := goodIn_app (goodIn_of _ (by decide +kernel)) ggX7_simulate_X5_pass
theorem dX7_simulate_0 : decode cX7_simulate 0 = .ok (.iload_n 3, 1) := by decide +kernel
theorem dX7_simulate_1 : decode cX7_simulate 1 = .ok (.iconst 1, 1) := by decide +kernel
theorem dX7_simulate_2 : decode cX7_simulate 2 = .ok (.if_icmp .lt 9, 3) := by decide +kernel
theorem dX7_simulate_5 : decode cX7_simulate 5 = .ok (.iload_n 3, 1) := by decide +kernel
theorem dX7_simulate_6 : decode cX7_simulate 6 = .ok (.bipush 99, 2) := by decide +kernel
theorem dX7_simulate_8 : decode cX7_simulate 8 = .ok (.if_icmp .le 14, 3) := by decide +kernel
theorem dX7_simulate_11 : decode cX7_simulate 11 = .ok (.new 43, 3) := by decide +kernel
theorem dX7_simulate_14 : decode cX7_simulate 14 = .ok (.dup, 1) := by decide +kernel
theorem dX7_simulate_15 : decode cX7_simulate 15 = .ok (.ldc_w 264, 3) := by decide +kernel
theorem dX7_simulate_18 : decode cX7_simulate 18 = .ok (.invokespecial 47, 3) := by decide +kernel
theorem dX7_simulate_21 : decode cX7_simulate 21 = .ok (.athrow, 1) := by decide +kernel
theorem dX7_simulate_22 : decode cX7_simulate 22 = .ok (.aload_n 0, 1) := by decide +kernel
theorem dX7_simulate_23 : decode cX7_simulate 23 = .ok (.getfield 23, 3) := by decide +kernel
theorem dX7_simulate_26 : decode cX7_simulate 26 = .ok (.aload_n 0, 1) := by decide +kernel
theorem dX7_simulate_27 : decode cX7_simulate 27 = .ok (.getfield 19, 3) := by decide +kernel
theorem dX7_simulate_30 : decode cX7_simulate 30 = .ok (.invokevirtual 228, 3) := by decide +kernel
theorem dX7_simulate_33 : decode cX7_simulate 33 = .ok (.lload_n 1, 1) := by decide +kernel
theorem dX7_simulate_34 : decode cX7_simulate 34 = .ok (.lstore 4, 2) := by decide +kernel
theorem dX7_simulate_36 : decode cX7_simulate 36 = .ok (.ldc_w 266, 3) := by decide +kernel
theorem dX7_simulate_39 : decode cX7_simulate 39 = .ok (.istore 6, 2) := by decide +kernel
theorem dX7_simulate_41 : decode cX7_simulate 41 = .ok (.iconst 0, 1) := by decide +kernel
theorem dX7_simulate_42 : decode cX7_simulate 42 = .ok (.istore 7, 2) := by decide +kernel
theorem dX7_simulate_44 : decode cX7_simulate 44 = .ok (.iload 7, 2) := by decide +kernel
theorem dX7_simulate_46 : decode cX7_simulate 46 = .ok (.iload_n 3, 1) := by decide +kernel
theorem dX7_simulate_47 : decode cX7_simulate 47 = .ok (.if_icmp .ge 106, 3) := by decide +kernel
theorem dX7_simulate_50 : decode cX7_simulate 50 = .ok (.lload 4, 2) := by decide +kernel
theorem dX7_simulate_52 : decode cX7_simulate 52 = .ok (.ldc2_w 267, 3) := by decide +kernel
theorem dX7_simulate_55 : decode cX7_simulate 55 = .ok (.lmul, 1) := by decide +kernel
theorem dX7_simulate_56 : decode cX7_simulate 56 = .ok (.ldc2_w 269, 3) := by decide +kernel
theorem dX7_simulate_59 : decode cX7_simulate 59 = .ok (.ladd, 1) := by decide +kernel
theorem dX7_simulate_60 : decode cX7_simulate 60 = .ok (.lstore 4, 2) := by decide +kernel
theorem dX7_simulate_62 : decode cX7_simulate 62 = .ok (.lload 4, 2) := by decide +kernel
theorem dX7_simulate_64 : decode cX7_simulate 64 = .ok (.bipush 33, 2) := by decide +kernel
theorem dX7_simulate_66 : decode cX7_simulate 66 = .ok (.lushr, 1) := by decide +kernel
theorem dX7_simulate_67 : decode cX7_simulate 67 = .ok (.l2i, 1) := by decide +kernel
theorem dX7_simulate_68 : decode cX7_simulate 68 = .ok (.istore 8, 2) := by decide +kernel
theorem dX7_simulate_70 : decode cX7_simulate 70 = .ok (.iload 8, 2) := by decide +kernel
theorem dX7_simulate_72 : decode cX7_simulate 72 = .ok (.iconst 4, 1) := by decide +kernel
theorem dX7_simulate_73 : decode cX7_simulate 73 = .ok (.irem, 1) := by decide +kernel
theorem dX7_simulate_74 : decode cX7_simulate 74 = .ok (.ifCond .ne 17, 3) := by decide +kernel
theorem dX7_simulate_77 : decode cX7_simulate 77 = .ok (.iload 8, 2) := by decide +kernel
theorem dX7_simulate_79 : decode cX7_simulate 79 = .ok (.bipush 64, 2) := by decide +kernel
theorem dX7_simulate_81 : decode cX7_simulate 81 = .ok (.idiv, 1) := by decide +kernel
theorem dX7_simulate_82 : decode cX7_simulate 82 = .ok (.ldc_w 256, 3) := by decide +kernel
theorem dX7_simulate_85 : decode cX7_simulate 85 = .ok (.irem, 1) := by decide +kernel
theorem dX7_simulate_86 : decode cX7_simulate 86 = .ok (.istore 6, 2) := by decide +kernel
theorem dX7_simulate_88 : decode cX7_simulate 88 = .ok (.goto 30, 3) := by decide +kernel
theorem dX7_simulate_91 : decode cX7_simulate 91 = .ok (.iload 8, 2) := by decide +kernel
theorem dX7_simulate_93 : decode cX7_simulate 93 = .ok (.iconst 4, 1) := by decide +kernel
theorem dX7_simulate_94 : decode cX7_simulate 94 = .ok (.irem, 1) := by decide +kernel
theorem dX7_simulate_95 : decode cX7_simulate 95 = .ok (.iconst 1, 1) := by decide +kernel
theorem dX7_simulate_96 : decode cX7_simulate 96 = .ok (.if_icmp .ne 22, 3) := by decide +kernel
theorem dX7_simulate_99 : decode cX7_simulate 99 = .ok (.iload 6, 2) := by decide +kernel
theorem dX7_simulate_101 : decode cX7_simulate 101 = .ok (.bipush 10, 2) := by decide +kernel
theorem dX7_simulate_103 : decode cX7_simulate 103 = .ok (.idiv, 1) := by decide +kernel
theorem dX7_simulate_104 : decode cX7_simulate 104 = .ok (.bipush 10, 2) := by decide +kernel
theorem dX7_simulate_106 : decode cX7_simulate 106 = .ok (.imul, 1) := by decide +kernel
theorem dX7_simulate_107 : decode cX7_simulate 107 = .ok (.iload 8, 2) := by decide +kernel
theorem dX7_simulate_109 : decode cX7_simulate 109 = .ok (.bipush 64, 2) := by decide +kernel
theorem dX7_simulate_111 : decode cX7_simulate 111 = .ok (.idiv, 1) := by decide +kernel
theorem dX7_simulate_112 : decode cX7_simulate 112 = .ok (.bipush 10, 2) := by decide +kernel
theorem dX7_simulate_114 : decode cX7_simulate 114 = .ok (.irem, 1) := by decide +kernel
theorem dX7_simulate_115 : decode cX7_simulate 115 = .ok (.iadd, 1) := by decide +kernel
theorem dX7_simulate_116 : decode cX7_simulate 116 = .ok (.istore 6, 2) := by decide +kernel
theorem dX7_simulate_118 : decode cX7_simulate 118 = .ok (.iload 8, 2) := by decide +kernel
theorem dX7_simulate_120 : decode cX7_simulate 120 = .ok (.iconst 4, 1) := by decide +kernel
theorem dX7_simulate_121 : decode cX7_simulate 121 = .ok (.idiv, 1) := by decide +kernel
theorem dX7_simulate_122 : decode cX7_simulate 122 = .ok (.iconst 4, 1) := by decide +kernel
theorem dX7_simulate_123 : decode cX7_simulate 123 = .ok (.irem, 1) := by decide +kernel
theorem dX7_simulate_124 : decode cX7_simulate 124 = .ok (.iconst 3, 1) := by decide +kernel
theorem dX7_simulate_125 : decode cX7_simulate 125 = .ok (.if_icmp .ge 13, 3) := by decide +kernel
theorem dX7_simulate_128 : decode cX7_simulate 128 = .ok (.aload_n 0, 1) := by decide +kernel
theorem dX7_simulate_129 : decode cX7_simulate 129 = .ok (.getfield 23, 3) := by decide +kernel
theorem dX7_simulate_132 : decode cX7_simulate 132 = .ok (.iload 6, 2) := by decide +kernel
theorem dX7_simulate_134 : decode cX7_simulate 134 = .ok (.invokevirtual 97, 3) := by decide +kernel
theorem dX7_simulate_137 : decode cX7_simulate 137 = .ok (.pop, 1) := by decide +kernel
theorem dX7_simulate_138 : decode cX7_simulate 138 = .ok (.aload_n 0, 1) := by decide +kernel
theorem dX7_simulate_139 : decode cX7_simulate 139 = .ok (.getfield 23, 3) := by decide +kernel
theorem dX7_simulate_142 : decode cX7_simulate 142 = .ok (.iconst 1, 1) := by decide +kernel
theorem dX7_simulate_143 : decode cX7_simulate 143 = .ok (.invokevirtual 100, 3) := by decide +kernel
theorem dX7_simulate_146 : decode cX7_simulate 146 = .ok (.pop, 1) := by decide +kernel
theorem dX7_simulate_147 : decode cX7_simulate 147 = .ok (.iinc 7 1, 3) := by decide +kernel
theorem dX7_simulate_150 : decode cX7_simulate 150 = .ok (.goto (-106), 3) := by decide +kernel
theorem dX7_simulate_153 : decode cX7_simulate 153 = .ok (.sipush 10000, 3) := by decide +kernel
theorem dX7_simulate_156 : decode cX7_simulate 156 = .ok (.aload_n 0, 1) := by decide +kernel
theorem dX7_simulate_157 : decode cX7_simulate 157 = .ok (.getfield 23, 3) := by decide +kernel
theorem dX7_simulate_160 : decode cX7_simulate 160 = .ok (.getfield 126, 3) := by decide +kernel
theorem dX7_simulate_163 : decode cX7_simulate 163 = .ok (.aload_n 0, 1) := by decide +kernel
theorem dX7_simulate_164 : decode cX7_simulate 164 = .ok (.getfield 19, 3) := by decide +kernel
theorem dX7_simulate_167 : decode cX7_simulate 167 = .ok (.getfield 126, 3) := by decide +kernel
theorem dX7_simulate_170 : decode cX7_simulate 170 = .ok (.isub, 1) := by decide +kernel
theorem dX7_simulate_171 : decode cX7_simulate 171 = .ok (.imul, 1) := by decide +kernel
theorem dX7_simulate_172 : decode cX7_simulate 172 = .ok (.bipush 100, 2) := by decide +kernel
theorem dX7_simulate_174 : decode cX7_simulate 174 = .ok (.aload_n 0, 1) := by decide +kernel
theorem dX7_simulate_175 : decode cX7_simulate 175 = .ok (.getfield 23, 3) := by decide +kernel
theorem dX7_simulate_178 : decode cX7_simulate 178 = .ok (.getfield 129, 3) := by decide +kernel
theorem dX7_simulate_181 : decode cX7_simulate 181 = .ok (.aload_n 0, 1) := by decide +kernel
theorem dX7_simulate_182 : decode cX7_simulate 182 = .ok (.getfield 19, 3) := by decide +kernel
theorem dX7_simulate_185 : decode cX7_simulate 185 = .ok (.getfield 129, 3) := by decide +kernel
theorem dX7_simulate_188 : decode cX7_simulate 188 = .ok (.isub, 1) := by decide +kernel
theorem dX7_simulate_189 : decode cX7_simulate 189 = .ok (.imul, 1) := by decide +kernel
theorem dX7_simulate_190 : decode cX7_simulate 190 = .ok (.iadd, 1) := by decide +kernel
theorem dX7_simulate_191 : decode cX7_simulate 191 = .ok (.aload_n 0, 1) := by decide +kernel
theorem dX7_simulate_192 : decode cX7_simulate 192 = .ok (.getfield 23, 3) := by decide +kernel
theorem dX7_simulate_195 : decode cX7_simulate 195 = .ok (.getfield 103, 3) := by decide +kernel
theorem dX7_simulate_198 : decode cX7_simulate 198 = .ok (.getfield 122, 3) := by decide +kernel
theorem dX7_simulate_201 : decode cX7_simulate 201 = .ok (.iadd, 1) := by decide +kernel
theorem dX7_simulate_202 : decode cX7_simulate 202 = .ok (.ireturn, 1) := by decide +kernel
set_option maxRecDepth 20000 in
theorem ggX7_save_X5_copyFrom : GoodIn wsX7_save wsX5_copyFrom := goodIn_r _ [10, 11, 12, 13, 14, 15, 16, 17, 18, 19, 20, 21, 22, 23, 24, 25, 26, 27, 28, 29, 30, 31, 32, 33, 34, 35, 36, 37, 38, 39, 40, 41, 42, 43, 44, 45, 46, 47, 48, 49, 50, 51, 52, 53, 54, 55, 56, 65, 66, 67, 68, 69, 70, 71, 72, 73, 74, 75, 78, 79, 80, 81, 76, 77, 82, 83, 84, 85, 86, 87, 88] (by decide +kernel) (by decide +kernel)
set_option maxRecDepth 20000 in
theorem gX7_save_X5_copyFrom : GoodIn wsX7_save (wsV RX7 228 RX5 yX5_copyFrom wsX5_copyFrom) := goodIn_app (goodIn_of _ (by decide +kernel)) ggX7_save_X5_copyFrom
theorem dX7_save_0 : decode cX7_save 0 = .ok (.iload_n 1, 1) := by decide +kernel
theorem dX7_save_1 : decode cX7_save 1 = .ok (.ifCond .lt 8, 3) := by decide +kernel
theorem dX7_save_4 : decode cX7_save 4 = .ok (.iload_n 1, 1) := by decide +kernel
theorem dX7_save_5 : decode cX7_save 5 = .ok (.iconst 1, 1) := by decide +kernel
theorem dX7_save_6 : decode cX7_save 6 = .ok (.if_icmp .le 14, 3) := by decide +kernel
theorem dX7_save_9 : decode cX7_save 9 = .ok (.new 168, 3) := by decide +kernel
theorem dX7_save_12 : decode cX7_save 12 = .ok (.dup, 1) := by decide +kernel
theorem dX7_save_13 : decode cX7_save 13 = .ok (.ldc_w 271, 3) := by decide +kernel
theorem dX7_save_16 : decode cX7_save 16 = .ok (.invokespecial 172, 3) := by decide +kernel
theorem dX7_save_19 : decode cX7_save 19 = .ok (.athrow, 1) := by decide +kernel
theorem dX7_save_20 : decode cX7_save 20 = .ok (.iload_n 1, 1) := by decide +kernel
theorem dX7_save_21 : decode cX7_save 21 = .ok (.ifCond .ne 10, 3) := by decide +kernel
theorem dX7_save_24 : decode cX7_save 24 = .ok (.aload_n 0, 1) := by decide +kernel
theorem dX7_save_25 : decode cX7_save 25 = .ok (.getfield 36, 3) := by decide +kernel
theorem dX7_save_28 : decode cX7_save 28 = .ok (.goto 7, 3) := by decide +kernel
theorem dX7_save_31 : decode cX7_save 31 = .ok (.aload_n 0, 1) := by decide +kernel
theorem dX7_save_32 : decode cX7_save 32 = .ok (.getfield 40, 3) := by decide +kernel
theorem dX7_save_35 : decode cX7_save 35 = .ok (.astore_n 2, 1) := by decide +kernel
theorem dX7_save_36 : decode cX7_save 36 = .ok (.aload_n 2, 1) := by decide +kernel
theorem dX7_save_37 : decode cX7_save 37 = .ok (.getfield 273, 3) := by decide +kernel
theorem dX7_save_40 : decode cX7_save 40 = .ok (.aload_n 0, 1) := by decide +kernel
theorem dX7_save_41 : decode cX7_save 41 = .ok (.getfield 19, 3) := by decide +kernel
theorem dX7_save_44 : decode cX7_save 44 = .ok (.invokevirtual 228, 3) := by decide +kernel
theorem dX7_save_47 : decode cX7_save 47 = .ok (.aload_n 2, 1) := by decide +kernel
theorem dX7_save_48 : decode cX7_save 48 = .ok (.iconst 1, 1) := by decide +kernel
theorem dX7_save_49 : decode cX7_save 49 = .ok (.putfield 83, 3) := by decide +kernel
theorem dX7_save_52 : decode cX7_save 52 = .ok (.aload_n 0, 1) := by decide +kernel
theorem dX7_save_53 : decode cX7_save 53 = .ok (.getfield 19, 3) := by decide +kernel
theorem dX7_save_56 : decode cX7_save 56 = .ok (.getfield 103, 3) := by decide +kernel
theorem dX7_save_59 : decode cX7_save 59 = .ok (.getfield 122, 3) := by decide +kernel
theorem dX7_save_62 : decode cX7_save 62 = .ok (.ireturn, 1) := by decide +kernel
set_option maxRecDepth 20000 in
theorem ggX7_restore_X5_copyFrom : GoodIn wsX7_restore wsX5_copyFrom := goodIn_r _ [13, 14, 15, 16, 17, 18, 19, 20, 21, 22, 23, 24, 25, 26, 27, 28, 29, 30, 31, 32, 33, 34, 35, 36, 37, 38, 39, 40, 41, 42, 43, 44, 45, 46, 47, 48, 49, 50, 51, 52, 53, 54, 55, 56, 57, 58, 59, 75, 76, 77, 78, 79, 80, 81, 82, 83, 84, 85, 88, 89, 90, 91, 86, 87, 92, 93, 94, 95, 96, 97, 98] (by decide +kernel) (by decide +kernel)
set_option maxRecDepth 20000 in
theorem gX7_restore_X5_copyFrom : GoodIn wsX7_restore (wsV RX7 228 RX5 yX5_copyFrom wsX5_copyFrom) := goodIn_app (goodIn_of _ (by decide +kernel)) ggX7_restore_X5_copyFrom
set_option maxRecDepth 20000 in
theorem ggX7_restore_X2_forget : GoodIn wsX7_restore wsX2_forget := goodIn_r _ [64, 65, 66, 99, 100, 101] (by decide +kernel) (by decide +kernel)
set_option maxRecDepth 20000 in
theorem gX7_restore_X2_forget : GoodIn wsX7_restore (wsV RX7 80 RX2 yX2_forget wsX2_forget) := goodIn_app (goodIn_of _ (by decide +kernel)) ggX7_restore_X2_forget
theorem dX7_restore_0 : decode cX7_restore 0 = .ok (.iload_n 1, 1) := by decide +kernel
theorem dX7_restore_1 : decode cX7_restore 1 = .ok (.ifCond .lt 8, 3) := by decide +kernel
theorem dX7_restore_4 : decode cX7_restore 4 = .ok (.iload_n 1, 1) := by decide +kernel
theorem dX7_restore_5 : decode cX7_restore 5 = .ok (.iconst 1, 1) := by decide +kernel
theorem dX7_restore_6 : decode cX7_restore 6 = .ok (.if_icmp .le 14, 3) := by decide +kernel
theorem dX7_restore_9 : decode cX7_restore 9 = .ok (.new 168, 3) := by decide +kernel
theorem dX7_restore_12 : decode cX7_restore 12 = .ok (.dup, 1) := by decide +kernel
theorem dX7_restore_13 : decode cX7_restore 13 = .ok (.ldc_w 271, 3) := by decide +kernel
theorem dX7_restore_16 : decode cX7_restore 16 = .ok (.invokespecial 172, 3) := by decide +kernel
theorem dX7_restore_19 : decode cX7_restore 19 = .ok (.athrow, 1) := by decide +kernel
theorem dX7_restore_20 : decode cX7_restore 20 = .ok (.iload_n 1, 1) := by decide +kernel
theorem dX7_restore_21 : decode cX7_restore 21 = .ok (.ifCond .ne 10, 3) := by decide +kernel
theorem dX7_restore_24 : decode cX7_restore 24 = .ok (.aload_n 0, 1) := by decide +kernel
theorem dX7_restore_25 : decode cX7_restore 25 = .ok (.getfield 36, 3) := by decide +kernel
theorem dX7_restore_28 : decode cX7_restore 28 = .ok (.goto 7, 3) := by decide +kernel
theorem dX7_restore_31 : decode cX7_restore 31 = .ok (.aload_n 0, 1) := by decide +kernel
theorem dX7_restore_32 : decode cX7_restore 32 = .ok (.getfield 40, 3) := by decide +kernel
theorem dX7_restore_35 : decode cX7_restore 35 = .ok (.astore_n 2, 1) := by decide +kernel
theorem dX7_restore_36 : decode cX7_restore 36 = .ok (.aload_n 2, 1) := by decide +kernel
theorem dX7_restore_37 : decode cX7_restore 37 = .ok (.getfield 83, 3) := by decide +kernel
theorem dX7_restore_40 : decode cX7_restore 40 = .ok (.ifCond .ne 14, 3) := by decide +kernel
theorem dX7_restore_43 : decode cX7_restore 43 = .ok (.new 54, 3) := by decide +kernel
theorem dX7_restore_46 : decode cX7_restore 46 = .ok (.dup, 1) := by decide +kernel
theorem dX7_restore_47 : decode cX7_restore 47 = .ok (.ldc_w 276, 3) := by decide +kernel
theorem dX7_restore_50 : decode cX7_restore 50 = .ok (.invokespecial 58, 3) := by decide +kernel
theorem dX7_restore_53 : decode cX7_restore 53 = .ok (.athrow, 1) := by decide +kernel
theorem dX7_restore_54 : decode cX7_restore 54 = .ok (.aload_n 0, 1) := by decide +kernel
theorem dX7_restore_55 : decode cX7_restore 55 = .ok (.getfield 19, 3) := by decide +kernel
theorem dX7_restore_58 : decode cX7_restore 58 = .ok (.aload_n 2, 1) := by decide +kernel
theorem dX7_restore_59 : decode cX7_restore 59 = .ok (.getfield 273, 3) := by decide +kernel
theorem dX7_restore_62 : decode cX7_restore 62 = .ok (.invokevirtual 228, 3) := by decide +kernel
theorem dX7_restore_65 : decode cX7_restore 65 = .ok (.aload_n 0, 1) := by decide +kernel
theorem dX7_restore_66 : decode cX7_restore 66 = .ok (.getfield 29, 3) := by decide +kernel
theorem dX7_restore_69 : decode cX7_restore 69 = .ok (.invokevirtual 80, 3) := by decide +kernel
theorem dX7_restore_72 : decode cX7_restore 72 = .ok (.aload_n 0, 1) := by decide +kernel
theorem dX7_restore_73 : decode cX7_restore 73 = .ok (.getfield 19, 3) := by decide +kernel
theorem dX7_restore_76 : decode cX7_restore 76 = .ok (.getfield 103, 3) := by decide +kernel
theorem dX7_restore_79 : decode cX7_restore 79 = .ok (.getfield 122, 3) := by decide +kernel
theorem dX7_restore_82 : decode cX7_restore 82 = .ok (.ireturn, 1) := by decide +kernel
theorem dX7_isPicture_0 : decode cX7_isPicture 0 = .ok (.iload_n 0, 1) := by decide +kernel
theorem dX7_isPicture_1 : decode cX7_isPicture 1 = .ok (.ifCond .lt 14, 3) := by decide +kernel
theorem dX7_isPicture_4 : decode cX7_isPicture 4 = .ok (.iload_n 0, 1) := by decide +kernel
theorem dX7_isPicture_5 : decode cX7_isPicture 5 = .ok (.ldc_w 278, 3) := by decide +kernel
theorem dX7_isPicture_8 : decode cX7_isPicture 8 = .ok (.if_icmp .gt 7, 3) := by decide +kernel
theorem dX7_isPicture_11 : decode cX7_isPicture 11 = .ok (.iconst 1, 1) := by decide +kernel
theorem dX7_isPicture_12 : decode cX7_isPicture 12 = .ok (.goto 4, 3) := by decide +kernel
theorem dX7_isPicture_15 : decode cX7_isPicture 15 = .ok (.iconst 0, 1) := by decide +kernel
theorem dX7_isPicture_16 : decode cX7_isPicture 16 = .ok (.ireturn, 1) := by decide +kernel
theorem dX7_isTicks_0 : decode cX7_isTicks 0 = .ok (.iload_n 0, 1) := by decide +kernel
theorem dX7_isTicks_1 : decode cX7_isTicks 1 = .ok (.iconst 1, 1) := by decide +kernel
theorem dX7_isTicks_2 : decode cX7_isTicks 2 = .ok (.if_icmp .lt 13, 3) := by decide +kernel
theorem dX7_isTicks_5 : decode cX7_isTicks 5 = .ok (.iload_n 0, 1) := by decide +kernel
theorem dX7_isTicks_6 : decode cX7_isTicks 6 = .ok (.bipush 50, 2) := by decide +kernel
theorem dX7_isTicks_8 : decode cX7_isTicks 8 = .ok (.if_icmp .gt 7, 3) := by decide +kernel
theorem dX7_isTicks_11 : decode cX7_isTicks 11 = .ok (.iconst 1, 1) := by decide +kernel
theorem dX7_isTicks_12 : decode cX7_isTicks 12 = .ok (.goto 4, 3) := by decide +kernel
theorem dX7_isTicks_15 : decode cX7_isTicks 15 = .ok (.iconst 0, 1) := by decide +kernel
theorem dX7_isTicks_16 : decode cX7_isTicks 16 = .ok (.ireturn, 1) := by decide +kernel
theorem dX7_isSetting_0 : decode cX7_isSetting 0 = .ok (.iload_n 0, 1) := by decide +kernel
theorem dX7_isSetting_1 : decode cX7_isSetting 1 = .ok (.ifCond .lt 30, 3) := by decide +kernel
theorem dX7_isSetting_4 : decode cX7_isSetting 4 = .ok (.iload_n 0, 1) := by decide +kernel
theorem dX7_isSetting_5 : decode cX7_isSetting 5 = .ok (.iconst 3, 1) := by decide +kernel
theorem dX7_isSetting_6 : decode cX7_isSetting 6 = .ok (.if_icmp .ge 25, 3) := by decide +kernel
theorem dX7_isSetting_9 : decode cX7_isSetting 9 = .ok (.iload_n 1, 1) := by decide +kernel
theorem dX7_isSetting_10 : decode cX7_isSetting 10 = .ok (.getstatic 236, 3) := by decide +kernel
theorem dX7_isSetting_13 : decode cX7_isSetting 13 = .ok (.iload_n 0, 1) := by decide +kernel
theorem dX7_isSetting_14 : decode cX7_isSetting 14 = .ok (.iaload, 1) := by decide +kernel
theorem dX7_isSetting_15 : decode cX7_isSetting 15 = .ok (.if_icmp .lt 16, 3) := by decide +kernel
theorem dX7_isSetting_18 : decode cX7_isSetting 18 = .ok (.iload_n 1, 1) := by decide +kernel
theorem dX7_isSetting_19 : decode cX7_isSetting 19 = .ok (.getstatic 239, 3) := by decide +kernel
theorem dX7_isSetting_22 : decode cX7_isSetting 22 = .ok (.iload_n 0, 1) := by decide +kernel
theorem dX7_isSetting_23 : decode cX7_isSetting 23 = .ok (.iaload, 1) := by decide +kernel
theorem dX7_isSetting_24 : decode cX7_isSetting 24 = .ok (.if_icmp .gt 7, 3) := by decide +kernel
theorem dX7_isSetting_27 : decode cX7_isSetting 27 = .ok (.iconst 1, 1) := by decide +kernel
theorem dX7_isSetting_28 : decode cX7_isSetting 28 = .ok (.goto 4, 3) := by decide +kernel
theorem dX7_isSetting_31 : decode cX7_isSetting 31 = .ok (.iconst 0, 1) := by decide +kernel
theorem dX7_isSetting_32 : decode cX7_isSetting 32 = .ok (.ireturn, 1) := by decide +kernel
