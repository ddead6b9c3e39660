set_option maxRecDepth 20000 in
theorem ggX9_init_X6_init : GoodIn wsX9_init wsX6_init := goodIn_r _ [30, 31, 2, 3, 32, 33, 34, 35, 36, 37, 38, 39, 40, 41, 42, 43, 44, 45, 46, 47, 48, 49, 50, 51, 52, 53, 54, 55, 56, 57, 58, 59, 60, 61, 62, 63, 64, 65, 66, 67, 68, 69, 70, 71, 72, 73, 74, 75, 76, 77, 78, 79, 80, 81, 82, 83, 84, 85, 86, 180, 181, 153, 154, 155, 156, 157, 158, 159, 160, 182, 183, 184, 185, 186, 187, 188, 189, 190, 191, 192, 193, 194, 195, 196, 197, 198, 199, 200] (by decide +kernel) (by decide +kernel)
set_option maxRecDepth 20000 in
theorem gX9_init_X6_init : GoodIn wsX9_init (wsX6_init) := ggX9_init_X6_init
set_option maxRecDepth 20000 in
theorem ggX9_init_X4_init : GoodIn wsX9_init wsX4_init := goodIn_r _ [89, 90, 2, 3, 91, 92, 93, 94, 95, 96, 97, 98, 99, 100, 101, 102, 103, 45, 104, 105, 201, 202, 161, 162, 163, 164, 165, 166] (by decide +kernel) (by decide +kernel)
set_option maxRecDepth 20000 in
theorem gX9_init_X4_init : GoodIn wsX9_init (wsX4_init) := ggX9_init_X4_init
set_option maxRecDepth 20000 in
theorem ggX9_init_X3_init : GoodIn wsX9_init wsX3_init := goodIn_r _ [108, 109, 2, 3, 45, 110, 111, 112, 113, 15, 114, 115, 116, 117, 118, 119, 120, 121, 122, 123, 124, 125, 126, 127, 128, 129, 130, 167, 168, 169, 170, 171, 172, 173, 174, 175] (by decide +kernel) (by decide +kernel)
set_option maxRecDepth 20000 in
theorem gX9_init_X3_init : GoodIn wsX9_init (wsX3_init) := ggX9_init_X3_init
set_option maxRecDepth 20000 in
theorem ggX9_init_X7_init : GoodIn wsX9_init wsX7_init := goodIn_r _ [133, 134, 2, 3, 135, 136, 137, 176, 177] (by decide +kernel) (by decide +kernel)
set_option maxRecDepth 20000 in
theorem gX9_init_X7_init : GoodIn wsX9_init (wsX7_init) := ggX9_init_X7_init
set_option maxRecDepth 20000 in
theorem ggX9_init_X8_init : GoodIn wsX9_init wsX8_init := goodIn_r _ [140, 141, 2, 3, 45, 142, 143, 178, 179] (by decide +kernel) (by decide +kernel)
set_option maxRecDepth 20000 in
theorem gX9_init_X8_init : GoodIn wsX9_init (wsX8_init) := ggX9_init_X8_init
theorem dX9_init_0 : decode cX9_init 0 = .ok (.aload_n 0, 1) := by decide +kernel
theorem dX9_init_1 : decode cX9_init 1 = .ok (.invokespecial 3, 3) := by decide +kernel
theorem dX9_init_4 : decode cX9_init 4 = .ok (.aload_n 0, 1) := by decide +kernel
theorem dX9_init_5 : decode cX9_init 5 = .ok (.iconst 3, 1) := by decide +kernel
theorem dX9_init_6 : decode cX9_init 6 = .ok (.anewarray 9, 3) := by decide +kernel
theorem dX9_init_9 : decode cX9_init 9 = .ok (.putfield 11, 3) := by decide +kernel
theorem dX9_init_12 : decode cX9_init 12 = .ok (.iconst 0, 1) := by decide +kernel
theorem dX9_init_13 : decode cX9_init 13 = .ok (.istore_n 1, 1) := by decide +kernel
theorem dX9_init_14 : decode cX9_init 14 = .ok (.iload_n 1, 1) := by decide +kernel
theorem dX9_init_15 : decode cX9_init 15 = .ok (.aload_n 0, 1) := by decide +kernel
theorem dX9_init_16 : decode cX9_init 16 = .ok (.getfield 11, 3) := by decide +kernel
theorem dX9_init_19 : decode cX9_init 19 = .ok (.arraylength, 1) := by decide +kernel
theorem dX9_init_20 : decode cX9_init 20 = .ok (.if_icmp .ge 22, 3) := by decide +kernel
theorem dX9_init_23 : decode cX9_init 23 = .ok (.aload_n 0, 1) := by decide +kernel
theorem dX9_init_24 : decode cX9_init 24 = .ok (.getfield 11, 3) := by decide +kernel
theorem dX9_init_27 : decode cX9_init 27 = .ok (.iload_n 1, 1) := by decide +kernel
theorem dX9_init_28 : decode cX9_init 28 = .ok (.new 9, 3) := by decide +kernel
theorem dX9_init_31 : decode cX9_init 31 = .ok (.dup, 1) := by decide +kernel
theorem dX9_init_32 : decode cX9_init 32 = .ok (.invokespecial 15, 3) := by decide +kernel
theorem dX9_init_35 : decode cX9_init 35 = .ok (.aastore, 1) := by decide +kernel
theorem dX9_init_36 : decode cX9_init 36 = .ok (.iinc 1 1, 3) := by decide +kernel
theorem dX9_init_39 : decode cX9_init 39 = .ok (.goto (-25), 3) := by decide +kernel
theorem dX9_init_42 : decode cX9_init 42 = .ok (.aload_n 0, 1) := by decide +kernel
theorem dX9_init_43 : decode cX9_init 43 = .ok (.new 16, 3) := by decide +kernel
theorem dX9_init_46 : decode cX9_init 46 = .ok (.dup, 1) := by decide +kernel
theorem dX9_init_47 : decode cX9_init 47 = .ok (.invokespecial 18, 3) := by decide +kernel
theorem dX9_init_50 : decode cX9_init 50 = .ok (.putfield 19, 3) := by decide +kernel
theorem dX9_init_53 : decode cX9_init 53 = .ok (.aload_n 0, 1) := by decide +kernel
theorem dX9_init_54 : decode cX9_init 54 = .ok (.aload_n 0, 1) := by decide +kernel
theorem dX9_init_55 : decode cX9_init 55 = .ok (.getfield 19, 3) := by decide +kernel
theorem dX9_init_58 : decode cX9_init 58 = .ok (.getfield 23, 3) := by decide +kernel
theorem dX9_init_61 : decode cX9_init 61 = .ok (.putfield 27, 3) := by decide +kernel
theorem dX9_init_64 : decode cX9_init 64 = .ok (.aload_n 0, 1) := by decide +kernel
theorem dX9_init_65 : decode cX9_init 65 = .ok (.new 28, 3) := by decide +kernel
theorem dX9_init_68 : decode cX9_init 68 = .ok (.dup, 1) := by decide +kernel
theorem dX9_init_69 : decode cX9_init 69 = .ok (.invokespecial 30, 3) := by decide +kernel
theorem dX9_init_72 : decode cX9_init 72 = .ok (.putfield 31, 3) := by decide +kernel
theorem dX9_init_75 : decode cX9_init 75 = .ok (.aload_n 0, 1) := by decide +kernel
theorem dX9_init_76 : decode cX9_init 76 = .ok (.new 28, 3) := by decide +kernel
theorem dX9_init_79 : decode cX9_init 79 = .ok (.dup, 1) := by decide +kernel
theorem dX9_init_80 : decode cX9_init 80 = .ok (.invokespecial 30, 3) := by decide +kernel
theorem dX9_init_83 : decode cX9_init 83 = .ok (.putfield 35, 3) := by decide +kernel
theorem dX9_init_86 : decode cX9_init 86 = .ok (.aload_n 0, 1) := by decide +kernel
theorem dX9_init_87 : decode cX9_init 87 = .ok (.new 38, 3) := by decide +kernel
theorem dX9_init_90 : decode cX9_init 90 = .ok (.dup, 1) := by decide +kernel
theorem dX9_init_91 : decode cX9_init 91 = .ok (.invokespecial 40, 3) := by decide +kernel
theorem dX9_init_94 : decode cX9_init 94 = .ok (.putfield 41, 3) := by decide +kernel
theorem dX9_init_97 : decode cX9_init 97 = .ok (.aload_n 0, 1) := by decide +kernel
theorem dX9_init_98 : decode cX9_init 98 = .ok (.new 45, 3) := by decide +kernel
theorem dX9_init_101 : decode cX9_init 101 = .ok (.dup, 1) := by decide +kernel
theorem dX9_init_102 : decode cX9_init 102 = .ok (.invokespecial 47, 3) := by decide +kernel
theorem dX9_init_105 : decode cX9_init 105 = .ok (.putfield 48, 3) := by decide +kernel
theorem dX9_init_108 : decode cX9_init 108 = .ok (.aload_n 0, 1) := by decide +kernel
theorem dX9_init_109 : decode cX9_init 109 = .ok (.iconst 3, 1) := by decide +kernel
theorem dX9_init_110 : decode cX9_init 110 = .ok (.putfield 52, 3) := by decide +kernel
theorem dX9_init_113 : decode cX9_init 113 = .ok (.aload_n 0, 1) := by decide +kernel
theorem dX9_init_114 : decode cX9_init 114 = .ok (.iconst 0, 1) := by decide +kernel
theorem dX9_init_115 : decode cX9_init 115 = .ok (.putfield 56, 3) := by decide +kernel
theorem dX9_init_118 : decode cX9_init 118 = .ok (.return_, 1) := by decide +kernel
set_option maxRecDepth 20000 in
theorem ggX9_read_X9_trackIn : GoodIn wsX9_read wsX9_trackIn := goodIn_ca (goodIn_r _ [5, 6, 7, 8, 9, 4, 10, 11, 12, 13, 14, 15, 40, 41, 42, 43, 44, 45, 46, 47, 48] (by decide +kernel) (by decide +kernel)) (goodIn_sub (fun _ h => List.mem_cons_of_mem _ (List.mem_append_left _ (List.mem_append_right _ h))) (by decide +kernel))
set_option maxRecDepth 20000 in
theorem gX9_read_X9_trackIn : GoodIn wsX9_read (wsV RX9 59 RX9 yX9_trackIn wsX9_trackIn) := goodIn_app (goodIn_of _ (by decide +kernel)) ggX9_read_X9_trackIn
set_option maxRecDepth 20000 in
theorem ggX9_read_X9_within : GoodIn wsX9_read wsX9_within := goodIn_r _ [10] (by decide +kernel) (by decide +kernel)
set_option maxRecDepth 20000 in
theorem gX9_read_X9_within : GoodIn wsX9_read (va_wsS RX9 63 yX9_within wsX9_within) := goodIn_app (goodIn_of _ (by decide +kernel)) ggX9_read_X9_within
set_option maxRecDepth 20000 in
theorem ggX9_read_X9_demand : GoodIn wsX9_read wsX9_demand := goodIn_ca (goodIn_r _ [18, 19, 20] (by decide +kernel) (by decide +kernel)) (goodIn_sub (fun _ h => List.mem_cons_of_mem _ (List.mem_append_right _ h)) (by decide +kernel))
set_option maxRecDepth 20000 in
theorem gX9_read_X9_demand : GoodIn wsX9_read (va_wsS RX9 67 yX9_demand wsX9_demand) := goodIn_app (goodIn_of _ (by decide +kernel)) ggX9_read_X9_demand
set_option maxRecDepth 20000 in
theorem ggX9_read_X6_unsettle : GoodIn wsX9_read wsX6_unsettle := goodIn_r _ [25, 26, 49, 50, 51, 52, 53, 54, 55, 56] (by decide +kernel) (by decide +kernel)
set_option maxRecDepth 20000 in
theorem gX9_read_X6_unsettle : GoodIn wsX9_read (wsV RX9 71 RX6 yX6_unsettle wsX6_unsettle) := goodIn_app (goodIn_of _ (by decide +kernel)) ggX9_read_X6_unsettle
set_option maxRecDepth 20000 in
theorem ggX9_read_X6_rowOf : GoodIn wsX9_read wsX6_rowOf := goodIn_r _ [30, 31, 32, 49, 50, 51, 52, 53, 54, 55, 56] (by decide +kernel) (by decide +kernel)
set_option maxRecDepth 20000 in
theorem gX9_read_X6_rowOf : GoodIn wsX9_read (wsV RX9 74 RX6 yX6_rowOf wsX6_rowOf) := goodIn_app (goodIn_of _ (by decide +kernel)) ggX9_read_X6_rowOf
set_option maxRecDepth 20000 in
theorem ggX9_read_X2_add : GoodIn wsX9_read wsX2_add := goodIn_r _ [37, 38, 39, 57, 58] (by decide +kernel) (by decide +kernel)
set_option maxRecDepth 20000 in
theorem gX9_read_X2_add : GoodIn wsX9_read (wsV RX9 78 RX2 yX2_add wsX2_add) := goodIn_app (goodIn_of _ (by decide +kernel)) ggX9_read_X2_add
theorem dX9_read_0 : decode cX9_read 0 = .ok (.aload_n 0, 1) := by decide +kernel
theorem dX9_read_1 : decode cX9_read 1 = .ok (.iload_n 1, 1) := by decide +kernel
theorem dX9_read_2 : decode cX9_read 2 = .ok (.iload_n 2, 1) := by decide +kernel
theorem dX9_read_3 : decode cX9_read 3 = .ok (.invokevirtual 59, 3) := by decide +kernel
theorem dX9_read_6 : decode cX9_read 6 = .ok (.astore 4, 2) := by decide +kernel
theorem dX9_read_8 : decode cX9_read 8 = .ok (.iload_n 3, 1) := by decide +kernel
theorem dX9_read_9 : decode cX9_read 9 = .ok (.sipush (-30000), 3) := by decide +kernel
theorem dX9_read_12 : decode cX9_read 12 = .ok (.sipush 30000, 3) := by decide +kernel
theorem dX9_read_15 : decode cX9_read 15 = .ok (.invokestatic 63, 3) := by decide +kernel
theorem dX9_read_18 : decode cX9_read 18 = .ok (.invokestatic 67, 3) := by decide +kernel
theorem dX9_read_21 : decode cX9_read 21 = .ok (.aload 4, 2) := by decide +kernel
theorem dX9_read_23 : decode cX9_read 23 = .ok (.invokevirtual 71, 3) := by decide +kernel
theorem dX9_read_26 : decode cX9_read 26 = .ok (.aload 4, 2) := by decide +kernel
theorem dX9_read_28 : decode cX9_read 28 = .ok (.iload_n 1, 1) := by decide +kernel
theorem dX9_read_29 : decode cX9_read 29 = .ok (.invokevirtual 74, 3) := by decide +kernel
theorem dX9_read_32 : decode cX9_read 32 = .ok (.iload_n 3, 1) := by decide +kernel
theorem dX9_read_33 : decode cX9_read 33 = .ok (.invokevirtual 78, 3) := by decide +kernel
theorem dX9_read_36 : decode cX9_read 36 = .ok (.ireturn, 1) := by decide +kernel
set_option maxRecDepth 20000 in
theorem ggX9_lost_X9_trackIn : GoodIn wsX9_lost wsX9_trackIn := goodIn_ca (goodIn_r _ [5, 6, 7, 8, 9, 4, 10, 11, 12, 13, 14, 15, 40, 41, 42, 43, 44, 45, 46, 47, 48] (by decide +kernel) (by decide +kernel)) (goodIn_sub (fun _ h => List.mem_cons_of_mem _ (List.mem_append_left _ (List.mem_append_right _ h))) (by decide +kernel))
set_option maxRecDepth 20000 in
theorem gX9_lost_X9_trackIn : GoodIn wsX9_lost (wsV RX9 59 RX9 yX9_trackIn wsX9_trackIn) := goodIn_app (goodIn_of _ (by decide +kernel)) ggX9_lost_X9_trackIn
set_option maxRecDepth 20000 in
theorem ggX9_lost_X9_within : GoodIn wsX9_lost wsX9_within := goodIn_r _ [10] (by decide +kernel) (by decide +kernel)
set_option maxRecDepth 20000 in
theorem gX9_lost_X9_within : GoodIn wsX9_lost (va_wsS RX9 63 yX9_within wsX9_within) := goodIn_app (goodIn_of _ (by decide +kernel)) ggX9_lost_X9_within
set_option maxRecDepth 20000 in
theorem ggX9_lost_X9_demand : GoodIn wsX9_lost wsX9_demand := goodIn_ca (goodIn_r _ [18, 19, 20] (by decide +kernel) (by decide +kernel)) (goodIn_sub (fun _ h => List.mem_cons_of_mem _ (List.mem_append_right _ h)) (by decide +kernel))
set_option maxRecDepth 20000 in
theorem gX9_lost_X9_demand : GoodIn wsX9_lost (va_wsS RX9 67 yX9_demand wsX9_demand) := goodIn_app (goodIn_of _ (by decide +kernel)) ggX9_lost_X9_demand
set_option maxRecDepth 20000 in
theorem ggX9_lost_X6_unsettle : GoodIn wsX9_lost wsX6_unsettle := goodIn_r _ [25, 26, 49, 50, 51, 52, 53, 54, 55, 56] (by decide +kernel) (by decide +kernel)
set_option maxRecDepth 20000 in
theorem gX9_lost_X6_unsettle : GoodIn wsX9_lost (wsV RX9 71 RX6 yX6_unsettle wsX6_unsettle) := goodIn_app (goodIn_of _ (by decide +kernel)) ggX9_lost_X6_unsettle
set_option maxRecDepth 20000 in
theorem ggX9_lost_X6_rowOf : GoodIn wsX9_lost wsX6_rowOf := goodIn_r _ [30, 31, 32, 49, 50, 51, 52, 53, 54, 55, 56] (by decide +kernel) (by decide +kernel)
set_option maxRecDepth 20000 in
theorem gX9_lost_X6_rowOf : GoodIn wsX9_lost (wsV RX9 74 RX6 yX6_rowOf wsX6_rowOf) := goodIn_app (goodIn_of _ (by decide +kernel)) ggX9_lost_X6_rowOf
set_option maxRecDepth 20000 in
theorem ggX9_lost_X2_addLost : GoodIn wsX9_lost wsX2_addLost := goodIn_r _ [37, 38, 39, 57, 58] (by decide +kernel) (by decide +kernel)
set_option maxRecDepth 20000 in
theorem gX9_lost_X2_addLost : GoodIn wsX9_lost (wsV RX9 84 RX2 yX2_addLost wsX2_addLost) := goodIn_app (goodIn_of _ (by decide +kernel)) ggX9_lost_X2_addLost
theorem dX9_lost_0 : decode cX9_lost 0 = .ok (.aload_n 0, 1) := by decide +kernel
theorem dX9_lost_1 : decode cX9_lost 1 = .ok (.iload_n 1, 1) := by decide +kernel
theorem dX9_lost_2 : decode cX9_lost 2 = .ok (.iload_n 2, 1) := by decide +kernel
theorem dX9_lost_3 : decode cX9_lost 3 = .ok (.invokevirtual 59, 3) := by decide +kernel
theorem dX9_lost_6 : decode cX9_lost 6 = .ok (.astore 4, 2) := by decide +kernel
theorem dX9_lost_8 : decode cX9_lost 8 = .ok (.iload_n 3, 1) := by decide +kernel
theorem dX9_lost_9 : decode cX9_lost 9 = .ok (.iconst 1, 1) := by decide +kernel
theorem dX9_lost_10 : decode cX9_lost 10 = .ok (.sipush 300, 3) := by decide +kernel
theorem dX9_lost_13 : decode cX9_lost 13 = .ok (.invokestatic 63, 3) := by decide +kernel
theorem dX9_lost_16 : decode cX9_lost 16 = .ok (.invokestatic 67, 3) := by decide +kernel
theorem dX9_lost_19 : decode cX9_lost 19 = .ok (.aload 4, 2) := by decide +kernel
theorem dX9_lost_21 : decode cX9_lost 21 = .ok (.invokevirtual 71, 3) := by decide +kernel
theorem dX9_lost_24 : decode cX9_lost 24 = .ok (.aload 4, 2) := by decide +kernel
theorem dX9_lost_26 : decode cX9_lost 26 = .ok (.iload_n 1, 1) := by decide +kernel
theorem dX9_lost_27 : decode cX9_lost 27 = .ok (.invokevirtual 74, 3) := by decide +kernel
theorem dX9_lost_30 : decode cX9_lost 30 = .ok (.iload_n 3, 1) := by decide +kernel
theorem dX9_lost_31 : decode cX9_lost 31 = .ok (.invokevirtual 84, 3) := by decide +kernel
theorem dX9_lost_34 : decode cX9_lost 34 = .ok (.ireturn, 1) := by decide +kernel
set_option maxRecDepth 20000 in
theorem ggX9_at_X9_trackIn : GoodIn wsX9_at wsX9_trackIn := goodIn_ca (goodIn_r _ [5, 6, 7, 8, 9, 4, 10, 11, 12, 13, 14, 15, 30, 31, 32, 33, 34, 35, 36, 37, 38] (by decide +kernel) (by decide +kernel)) (goodIn_sub (fun _ h => List.mem_cons_of_mem _ (List.mem_append_right _ h)) (by decide +kernel))
set_option maxRecDepth 20000 in
theorem gX9_at_X9_trackIn : GoodIn wsX9_at (wsV RX9 59 RX9 yX9_trackIn wsX9_trackIn) := goodIn_app (goodIn_of _ (by decide +kernel)) ggX9_at_X9_trackIn
set_option maxRecDepth 20000 in
theorem ggX9_at_X6_rowOf : GoodIn wsX9_at wsX6_rowOf := goodIn_r _ [20, 21, 22, 39, 40, 41, 42, 43, 44, 45, 46] (by decide +kernel) (by decide +kernel)
set_option maxRecDepth 20000 in
theorem gX9_at_X6_rowOf : GoodIn wsX9_at (wsV RX9 74 RX6 yX6_rowOf wsX6_rowOf) := goodIn_app (goodIn_of _ (by decide +kernel)) ggX9_at_X6_rowOf
set_option maxRecDepth 20000 in
theorem ggX9_at_X2_reading : GoodIn wsX9_at wsX2_reading := goodIn_r _ [27, 28, 29, 47, 48] (by decide +kernel) (by decide +kernel)
set_option maxRecDepth 20000 in
theorem gX9_at_X2_reading : GoodIn wsX9_at (wsV RX9 87 RX2 yX2_reading wsX2_reading) := goodIn_app (goodIn_of _ (by decide +kernel)) ggX9_at_X2_reading
theorem dX9_at_0 : decode cX9_at 0 = .ok (.aload_n 0, 1) := by decide +kernel
theorem dX9_at_1 : decode cX9_at 1 = .ok (.iload_n 1, 1) := by decide +kernel
theorem dX9_at_2 : decode cX9_at 2 = .ok (.iload_n 2, 1) := by decide +kernel
theorem dX9_at_3 : decode cX9_at 3 = .ok (.invokevirtual 59, 3) := by decide +kernel
theorem dX9_at_6 : decode cX9_at 6 = .ok (.iload_n 1, 1) := by decide +kernel
theorem dX9_at_7 : decode cX9_at 7 = .ok (.invokevirtual 74, 3) := by decide +kernel
theorem dX9_at_10 : decode cX9_at 10 = .ok (.iload_n 3, 1) := by decide +kernel
theorem dX9_at_11 : decode cX9_at 11 = .ok (.invokevirtual 87, 3) := by decide +kernel
theorem dX9_at_14 : decode cX9_at 14 = .ok (.ireturn, 1) := by decide +kernel
set_option maxRecDepth 20000 in
theorem ggX9_shift_X9_trackIn : GoodIn wsX9_shift wsX9_trackIn := goodIn_ca (goodIn_r _ [7, 8, 9, 10, 11, 6, 12, 13, 14, 15, 16, 17, 50, 51, 52, 53, 54, 55, 56, 57, 58] (by decide +kernel) (by decide +kernel)) (goodIn_sub (fun _ h => List.mem_cons_of_mem _ (List.mem_append_left _ (List.mem_append_right _ h))) (by decide +kernel))
set_option maxRecDepth 20000 in
theorem gX9_shift_X9_trackIn : GoodIn wsX9_shift (wsV RX9 59 RX9 yX9_trackIn wsX9_trackIn) := goodIn_app (goodIn_of _ (by decide +kernel)) ggX9_shift_X9_trackIn
set_option maxRecDepth 20000 in
theorem ggX9_shift_X9_within : GoodIn wsX9_shift wsX9_within := goodIn_r _ [12] (by decide +kernel) (by decide +kernel)
set_option maxRecDepth 20000 in
theorem gX9_shift_X9_within : GoodIn wsX9_shift (va_wsS RX9 63 yX9_within wsX9_within) := goodIn_app (goodIn_of _ (by decide +kernel)) ggX9_shift_X9_within
set_option maxRecDepth 20000 in
theorem ggX9_shift_X9_demand : GoodIn wsX9_shift wsX9_demand := goodIn_ca (goodIn_r _ [20, 21, 22] (by decide +kernel) (by decide +kernel)) (goodIn_sub (fun _ h => List.mem_cons_of_mem _ (List.mem_append_right _ h)) (by decide +kernel))
set_option maxRecDepth 20000 in
theorem gX9_shift_X9_demand : GoodIn wsX9_shift (va_wsS RX9 67 yX9_demand wsX9_demand) := goodIn_app (goodIn_of _ (by decide +kernel)) ggX9_shift_X9_demand
set_option maxRecDepth 20000 in
theorem ggX9_shift_X6_unsettle : GoodIn wsX9_shift wsX6_unsettle := goodIn_r _ [27, 28, 59, 60, 61, 62, 63, 64, 65, 66] (by decide +kernel) (by decide +kernel)
set_option maxRecDepth 20000 in
theorem gX9_shift_X6_unsettle : GoodIn wsX9_shift (wsV RX9 71 RX6 yX6_unsettle wsX6_unsettle) := goodIn_app (goodIn_of _ (by decide +kernel)) ggX9_shift_X6_unsettle
set_option maxRecDepth 20000 in
theorem ggX9_shift_X6_rowOf : GoodIn wsX9_shift wsX6_rowOf := goodIn_r _ [32, 33, 34, 59, 60, 61, 62, 63, 64, 65, 66] (by decide +kernel) (by decide +kernel)
set_option maxRecDepth 20000 in
theorem gX9_shift_X6_rowOf : GoodIn wsX9_shift (wsV RX9 74 RX6 yX6_rowOf wsX6_rowOf) := goodIn_app (goodIn_of _ (by decide +kernel)) ggX9_shift_X6_rowOf
set_option maxRecDepth 20000 in
theorem ggX9_shift_X2_move : GoodIn wsX9_shift wsX2_move := goodIn_r _ [39, 40, 41, 42, 43, 44, 38, 45, 46, 47, 48, 49, 11, 6, 12, 67, 68] (by decide +kernel) (by decide +kernel)
set_option maxRecDepth 20000 in
theorem gX9_shift_X2_move : GoodIn wsX9_shift (wsV RX9 92 RX2 yX2_move wsX2_move) := goodIn_app (goodIn_of _ (by decide +kernel)) ggX9_shift_X2_move
theorem dX9_shift_0 : decode cX9_shift 0 = .ok (.aload_n 0, 1) := by decide +kernel
theorem dX9_shift_1 : decode cX9_shift 1 = .ok (.iload_n 1, 1) := by decide +kernel
theorem dX9_shift_2 : decode cX9_shift 2 = .ok (.iload_n 2, 1) := by decide +kernel
theorem dX9_shift_3 : decode cX9_shift 3 = .ok (.invokevirtual 59, 3) := by decide +kernel
theorem dX9_shift_6 : decode cX9_shift 6 = .ok (.astore 5, 2) := by decide +kernel
theorem dX9_shift_8 : decode cX9_shift 8 = .ok (.iload_n 3, 1) := by decide +kernel
theorem dX9_shift_9 : decode cX9_shift 9 = .ok (.ifCond .lt 19, 3) := by decide +kernel
theorem dX9_shift_12 : decode cX9_shift 12 = .ok (.iload 4, 2) := by decide +kernel
theorem dX9_shift_14 : decode cX9_shift 14 = .ok (.ldc 90, 2) := by decide +kernel
theorem dX9_shift_16 : decode cX9_shift 16 = .ok (.ldc 91, 2) := by decide +kernel
theorem dX9_shift_18 : decode cX9_shift 18 = .ok (.invokestatic 63, 3) := by decide +kernel
theorem dX9_shift_21 : decode cX9_shift 21 = .ok (.ifCond .eq 7, 3) := by decide +kernel
theorem dX9_shift_24 : decode cX9_shift 24 = .ok (.iconst 1, 1) := by decide +kernel
theorem dX9_shift_25 : decode cX9_shift 25 = .ok (.goto 4, 3) := by decide +kernel
theorem dX9_shift_28 : decode cX9_shift 28 = .ok (.iconst 0, 1) := by decide +kernel
theorem dX9_shift_29 : decode cX9_shift 29 = .ok (.invokestatic 67, 3) := by decide +kernel
theorem dX9_shift_32 : decode cX9_shift 32 = .ok (.aload 5, 2) := by decide +kernel
theorem dX9_shift_34 : decode cX9_shift 34 = .ok (.invokevirtual 71, 3) := by decide +kernel
theorem dX9_shift_37 : decode cX9_shift 37 = .ok (.aload 5, 2) := by decide +kernel
theorem dX9_shift_39 : decode cX9_shift 39 = .ok (.iload_n 1, 1) := by decide +kernel
theorem dX9_shift_40 : decode cX9_shift 40 = .ok (.invokevirtual 74, 3) := by decide +kernel
theorem dX9_shift_43 : decode cX9_shift 43 = .ok (.iload_n 3, 1) := by decide +kernel
theorem dX9_shift_44 : decode cX9_shift 44 = .ok (.iload 4, 2) := by decide +kernel
theorem dX9_shift_46 : decode cX9_shift 46 = .ok (.invokevirtual 92, 3) := by decide +kernel
theorem dX9_shift_49 : decode cX9_shift 49 = .ok (.ireturn, 1) := by decide +kernel
set_option maxRecDepth 20000 in
theorem ggX9_jump_X9_trackIn : GoodIn wsX9_jump wsX9_trackIn := goodIn_ca (goodIn_r _ [6, 7, 8, 9, 10, 5, 11, 12, 13, 14, 15, 16, 43, 44, 45, 46, 47, 48, 49, 50, 51] (by decide +kernel) (by decide +kernel)) (goodIn_sub (fun _ h => List.mem_cons_of_mem _ (List.mem_append_right _ h)) (by decide +kernel))
set_option maxRecDepth 20000 in
theorem gX9_jump_X9_trackIn : GoodIn wsX9_jump (wsV RX9 59 RX9 yX9_trackIn wsX9_trackIn) := goodIn_app (goodIn_of _ (by decide +kernel)) ggX9_jump_X9_trackIn
set_option maxRecDepth 20000 in
theorem ggX9_jump_X6_jumpTime : GoodIn wsX9_jump wsX6_jumpTime := goodIn_r _ [21, 22, 23, 24, 20, 25, 26, 27, 28, 29, 30, 31, 32, 33, 34, 35, 36, 37, 38, 39, 40, 41, 42, 61, 62, 63, 64, 65, 66, 67, 68, 69, 70] (by decide +kernel) (by decide +kernel)
set_option maxRecDepth 20000 in
theorem gX9_jump_X6_jumpTime : GoodIn wsX9_jump (wsV RX9 99 RX6 yX6_jumpTime wsX6_jumpTime) := goodIn_app (goodIn_of _ (by decide +kernel)) ggX9_jump_X6_jumpTime
theorem dX9_jump_0 : decode cX9_jump 0 = .ok (.aload_n 0, 1) := by decide +kernel
theorem dX9_jump_1 : decode cX9_jump 1 = .ok (.iload_n 1, 1) := by decide +kernel
theorem dX9_jump_2 : decode cX9_jump 2 = .ok (.iload_n 2, 1) := by decide +kernel
theorem dX9_jump_3 : decode cX9_jump 3 = .ok (.invokevirtual 59, 3) := by decide +kernel
theorem dX9_jump_6 : decode cX9_jump 6 = .ok (.iload_n 1, 1) := by decide +kernel
theorem dX9_jump_7 : decode cX9_jump 7 = .ok (.iload_n 3, 1) := by decide +kernel
theorem dX9_jump_8 : decode cX9_jump 8 = .ok (.aload_n 0, 1) := by decide +kernel
theorem dX9_jump_9 : decode cX9_jump 9 = .ok (.getfield 31, 3) := by decide +kernel
theorem dX9_jump_12 : decode cX9_jump 12 = .ok (.getfield 96, 3) := by decide +kernel
theorem dX9_jump_15 : decode cX9_jump 15 = .ok (.invokevirtual 99, 3) := by decide +kernel
theorem dX9_jump_18 : decode cX9_jump 18 = .ok (.ireturn, 1) := by decide +kernel
set_option maxRecDepth 20000 in
theorem ggX9_joined_X9_settled : GoodIn wsX9_joined wsX9_settled := goodIn_ca (goodIn_r _ [5, 6, 7, 8, 9, 4, 10, 11, 12, 13, 14, 15, 16, 17, 18, 19, 20, 21, 22, 23, 24, 25, 26, 27, 28, 29, 30, 31, 32, 33, 34, 35, 36, 37, 38, 39, 40, 41, 42, 43, 44, 45, 46, 47, 48, 49, 50, 51, 52, 53, 54, 55, 56, 57, 58, 59, 60, 61, 62, 63, 64, 65, 66, 67, 68, 69, 70, 71, 72, 73, 74, 75, 76, 77, 78, 79, 80, 81, 82, 83, 84, 85, 86, 87, 88, 89, 90, 91, 92, 93, 94, 95, 96, 97, 98, 99, 100, 101, 102, 103, 104, 105, 106, 107, 108, 109, 110, 111, 112, 113, 114, 115, 116, 117, 118, 119, 120, 121, 122, 123, 124, 125, 126, 127, 128, 129, 130, 131, 132, 133, 134, 135, 136, 137, 138, 139, 140, 141, 142, 143, 144, 145, 146, 147, 148, 149, 150, 152, 153, 154, 155, 156, 157, 158, 159, 160, 161, 162, 163, 164, 165, 166, 167, 168, 169, 170, 171, 172, 173, 174, 175, 176, 177, 178, 179, 180, 181, 182, 183, 184, 185, 186, 187, 188, 189, 190, 191, 192, 193, 194, 195, 196, 197, 198] (by decide +kernel) (by decide +kernel)) (goodIn_sub (fun _ h => List.mem_cons_of_mem _ (List.mem_append_right _ h)) (by decide +kernel))
set_option maxRecDepth 20000 in
theorem gX9_joined_X9_settled : GoodIn wsX9_joined (wsV RX9 103 RX9 yX9_settled wsX9_settled) := goodIn_app (goodIn_of _ (by decide +kernel)) ggX9_joined_X9_settled
set_option maxRecDepth 20000 in
theorem ggX9_joined_X6_joinedAt : GoodIn wsX9_joined wsX6_joinedAt := goodIn_r _ [93, 27, 24, 170, 171, 172, 173, 174, 175, 176, 177] (by decide +kernel) (by decide +kernel)
set_option maxRecDepth 20000 in
theorem gX9_joined_X6_joinedAt : GoodIn wsX9_joined (wsV RX9 107 RX6 yX6_joinedAt wsX6_joinedAt) := goodIn_app (goodIn_of _ (by decide +kernel)) ggX9_joined_X6_joinedAt
theorem dX9_joined_0 : decode cX9_joined 0 = .ok (.aload_n 0, 1) := by decide +kernel
theorem dX9_joined_1 : decode cX9_joined 1 = .ok (.iload_n 1, 1) := by decide +kernel
theorem dX9_joined_2 : decode cX9_joined 2 = .ok (.invokevirtual 103, 3) := by decide +kernel
theorem dX9_joined_5 : decode cX9_joined 5 = .ok (.iload_n 2, 1) := by decide +kernel
theorem dX9_joined_6 : decode cX9_joined 6 = .ok (.invokevirtual 107, 3) := by decide +kernel
theorem dX9_joined_9 : decode cX9_joined 9 = .ok (.ireturn, 1) := by decide +kernel
set_option maxRecDepth 20000 in
theorem ggX9_end_X9_within : GoodIn wsX9_end wsX9_within := goodIn_r _ [5] (by decide +kernel) (by decide +kernel)
set_option maxRecDepth 20000 in
theorem gX9_end_X9_within : GoodIn wsX9_end (va_wsS RX9 63 yX9_within wsX9_within) := goodIn_app (goodIn_of _ (by decide +kernel)) ggX9_end_X9_within
set_option maxRecDepth 20000 in
theorem ggX9_end_X9_demand : GoodIn wsX9_end wsX9_demand := goodIn_ca (goodIn_r _ [8, 9, 10] (by decide +kernel) (by decide +kernel)) (goodIn_sub (fun _ h => List.mem_cons_of_mem _ (List.mem_append_right _ h)) (by decide +kernel))
set_option maxRecDepth 20000 in
theorem gX9_end_X9_demand : GoodIn wsX9_end (va_wsS RX9 67 yX9_demand wsX9_demand) := goodIn_app (goodIn_of _ (by decide +kernel)) ggX9_end_X9_demand
theorem dX9_end_0 : decode cX9_end 0 = .ok (.iload_n 1, 1) := by decide +kernel
theorem dX9_end_1 : decode cX9_end 1 = .ok (.iconst 0, 1) := by decide +kernel
theorem dX9_end_2 : decode cX9_end 2 = .ok (.sipush 1000, 3) := by decide +kernel
theorem dX9_end_5 : decode cX9_end 5 = .ok (.invokestatic 63, 3) := by decide +kernel
theorem dX9_end_8 : decode cX9_end 8 = .ok (.invokestatic 67, 3) := by decide +kernel
theorem dX9_end_11 : decode cX9_end 11 = .ok (.aload_n 0, 1) := by decide +kernel
theorem dX9_end_12 : decode cX9_end 12 = .ok (.getfield 52, 3) := by decide +kernel
theorem dX9_end_15 : decode cX9_end 15 = .ok (.istore_n 2, 1) := by decide +kernel
theorem dX9_end_16 : decode cX9_end 16 = .ok (.aload_n 0, 1) := by decide +kernel
theorem dX9_end_17 : decode cX9_end 17 = .ok (.iload_n 1, 1) := by decide +kernel
theorem dX9_end_18 : decode cX9_end 18 = .ok (.putfield 52, 3) := by decide +kernel
theorem dX9_end_21 : decode cX9_end 21 = .ok (.iload_n 2, 1) := by decide +kernel
theorem dX9_end_22 : decode cX9_end 22 = .ok (.ireturn, 1) := by decide +kernel
set_option maxRecDepth 20000 in
theorem ggX9_measure_X9_trackOf : GoodIn wsX9_measure wsX9_trackOf := goodIn_ca (goodIn_r _ [10, 11, 12, 13, 55, 56, 57, 58, 59, 60, 61, 62, 63] (by decide +kernel) (by decide +kernel)) (goodIn_sub (fun _ h => List.mem_cons_of_mem _ (List.mem_append_left _ (List.mem_append_right _ h))) (by decide +kernel))
set_option maxRecDepth 20000 in
theorem gX9_measure_X9_trackOf : GoodIn wsX9_measure (wsV RX9 110 RX9 yX9_trackOf wsX9_trackOf) := goodIn_app (goodIn_of _ (by decide +kernel)) ggX9_measure_X9_trackOf
set_option maxRecDepth 20000 in
theorem ggX9_measure_X9_within : GoodIn wsX9_measure wsX9_within := goodIn_r _ [16] (by decide +kernel) (by decide +kernel)
set_option maxRecDepth 20000 in
theorem gX9_measure_X9_within : GoodIn wsX9_measure (va_wsS RX9 63 yX9_within wsX9_within) := goodIn_app (goodIn_of _ (by decide +kernel)) ggX9_measure_X9_within
set_option maxRecDepth 20000 in
theorem ggX9_measure_X9_isPosition : GoodIn wsX9_measure wsX9_isPosition := goodIn_r _ [19, 20, 21, 14, 15, 9, 16] (by decide +kernel) (by decide +kernel)
set_option maxRecDepth 20000 in
theorem gX9_measure_X9_isPosition : GoodIn wsX9_measure (va_wsS RX9 113 yX9_isPosition wsX9_isPosition) := goodIn_app (goodIn_of _ (by decide +kernel)) ggX9_measure_X9_isPosition
set_option maxRecDepth 20000 in
theorem ggX9_measure_X9_demand : GoodIn wsX9_measure wsX9_demand := goodIn_ca (goodIn_r _ [24, 25, 26] (by decide +kernel) (by decide +kernel)) (goodIn_sub (fun _ h => List.mem_cons_of_mem _ (List.mem_append_right _ h)) (by decide +kernel))
set_option maxRecDepth 20000 in
theorem gX9_measure_X9_demand : GoodIn wsX9_measure (va_wsS RX9 67 yX9_demand wsX9_demand) := goodIn_app (goodIn_of _ (by decide +kernel)) ggX9_measure_X9_demand
set_option maxRecDepth 20000 in
theorem ggX9_measure_X6_unsettle : GoodIn wsX9_measure wsX6_unsettle := goodIn_r _ [31, 32, 47, 48, 49, 50, 51, 52, 53, 54] (by decide +kernel) (by decide +kernel)
set_option maxRecDepth 20000 in
theorem gX9_measure_X6_unsettle : GoodIn wsX9_measure (wsV RX9 71 RX6 yX6_unsettle wsX6_unsettle) := goodIn_app (goodIn_of _ (by decide +kernel)) ggX9_measure_X6_unsettle
set_option maxRecDepth 20000 in
theorem ggX9_measure_J9_floorDiv_7cf53 : GoodIn wsX9_measure wsJ9_floorDiv_7cf53 := goodIn_r _ [36] (by decide +kernel) (by decide +kernel)
set_option maxRecDepth 20000 in
theorem gX9_measure_J9_floorDiv_7cf53 : GoodIn wsX9_measure (va_wsS RX9 117 yJ9_floorDiv_7cf53 wsJ9_floorDiv_7cf53) := goodIn_app (goodIn_of _ (by decide +kernel)) ggX9_measure_J9_floorDiv_7cf53
set_option maxRecDepth 20000 in
theorem ggX9_measure_X0_add : GoodIn wsX9_measure wsX0_add := goodIn_r _ [41, 42, 43, 44, 45, 46, 64, 65, 66, 67, 68] (by decide +kernel) (by decide +kernel)
set_option maxRecDepth 20000 in
theorem gX9_measure_X0_add : GoodIn wsX9_measure (wsV RX9 129 RX0 yX0_add wsX0_add) := goodIn_app (goodIn_of _ (by decide +kernel)) ggX9_measure_X0_add
theorem dX9_measure_0 : decode cX9_measure 0 = .ok (.aload_n 0, 1) := by decide +kernel
theorem dX9_measure_1 : decode cX9_measure 1 = .ok (.iload_n 1, 1) := by decide +kernel
theorem dX9_measure_2 : decode cX9_measure 2 = .ok (.invokevirtual 110, 3) := by decide +kernel
theorem dX9_measure_5 : decode cX9_measure 5 = .ok (.astore 7, 2) := by decide +kernel
theorem dX9_measure_7 : decode cX9_measure 7 = .ok (.iload_n 2, 1) := by decide +kernel
theorem dX9_measure_8 : decode cX9_measure 8 = .ok (.iconst 0, 1) := by decide +kernel
theorem dX9_measure_9 : decode cX9_measure 9 = .ok (.sipush 299, 3) := by decide +kernel
theorem dX9_measure_12 : decode cX9_measure 12 = .ok (.invokestatic 63, 3) := by decide +kernel
theorem dX9_measure_15 : decode cX9_measure 15 = .ok (.ifCond .eq 38, 3) := by decide +kernel
theorem dX9_measure_18 : decode cX9_measure 18 = .ok (.iload_n 3, 1) := by decide +kernel
theorem dX9_measure_19 : decode cX9_measure 19 = .ok (.invokestatic 113, 3) := by decide +kernel
theorem dX9_measure_22 : decode cX9_measure 22 = .ok (.ifCond .eq 31, 3) := by decide +kernel
theorem dX9_measure_25 : decode cX9_measure 25 = .ok (.iload 4, 2) := by decide +kernel
theorem dX9_measure_27 : decode cX9_measure 27 = .ok (.invokestatic 113, 3) := by decide +kernel
theorem dX9_measure_30 : decode cX9_measure 30 = .ok (.ifCond .eq 23, 3) := by decide +kernel
theorem dX9_measure_33 : decode cX9_measure 33 = .ok (.iload 5, 2) := by decide +kernel
theorem dX9_measure_35 : decode cX9_measure 35 = .ok (.invokestatic 113, 3) := by decide +kernel
theorem dX9_measure_38 : decode cX9_measure 38 = .ok (.ifCond .eq 15, 3) := by decide +kernel
theorem dX9_measure_41 : decode cX9_measure 41 = .ok (.iload 6, 2) := by decide +kernel
theorem dX9_measure_43 : decode cX9_measure 43 = .ok (.invokestatic 113, 3) := by decide +kernel
theorem dX9_measure_46 : decode cX9_measure 46 = .ok (.ifCond .eq 7, 3) := by decide +kernel
theorem dX9_measure_49 : decode cX9_measure 49 = .ok (.iconst 1, 1) := by decide +kernel
theorem dX9_measure_50 : decode cX9_measure 50 = .ok (.goto 4, 3) := by decide +kernel
theorem dX9_measure_53 : decode cX9_measure 53 = .ok (.iconst 0, 1) := by decide +kernel
theorem dX9_measure_54 : decode cX9_measure 54 = .ok (.invokestatic 67, 3) := by decide +kernel
theorem dX9_measure_57 : decode cX9_measure 57 = .ok (.aload 7, 2) := by decide +kernel
theorem dX9_measure_59 : decode cX9_measure 59 = .ok (.invokevirtual 71, 3) := by decide +kernel
theorem dX9_measure_62 : decode cX9_measure 62 = .ok (.iload_n 3, 1) := by decide +kernel
theorem dX9_measure_63 : decode cX9_measure 63 = .ok (.iload 4, 2) := by decide +kernel
theorem dX9_measure_65 : decode cX9_measure 65 = .ok (.iadd, 1) := by decide +kernel
theorem dX9_measure_66 : decode cX9_measure 66 = .ok (.iload 5, 2) := by decide +kernel
theorem dX9_measure_68 : decode cX9_measure 68 = .ok (.iadd, 1) := by decide +kernel
theorem dX9_measure_69 : decode cX9_measure 69 = .ok (.iload 6, 2) := by decide +kernel
theorem dX9_measure_71 : decode cX9_measure 71 = .ok (.iadd, 1) := by decide +kernel
theorem dX9_measure_72 : decode cX9_measure 72 = .ok (.iconst 4, 1) := by decide +kernel
theorem dX9_measure_73 : decode cX9_measure 73 = .ok (.invokestatic 117, 3) := by decide +kernel
theorem dX9_measure_76 : decode cX9_measure 76 = .ok (.istore 8, 2) := by decide +kernel
theorem dX9_measure_78 : decode cX9_measure 78 = .ok (.iload_n 3, 1) := by decide +kernel
theorem dX9_measure_79 : decode cX9_measure 79 = .ok (.iload 4, 2) := by decide +kernel
theorem dX9_measure_81 : decode cX9_measure 81 = .ok (.iadd, 1) := by decide +kernel
theorem dX9_measure_82 : decode cX9_measure 82 = .ok (.iload 5, 2) := by decide +kernel
theorem dX9_measure_84 : decode cX9_measure 84 = .ok (.isub, 1) := by decide +kernel
theorem dX9_measure_85 : decode cX9_measure 85 = .ok (.iload 6, 2) := by decide +kernel
theorem dX9_measure_87 : decode cX9_measure 87 = .ok (.isub, 1) := by decide +kernel
theorem dX9_measure_88 : decode cX9_measure 88 = .ok (.invokestatic 122, 3) := by decide +kernel
theorem dX9_measure_91 : decode cX9_measure 91 = .ok (.istore 9, 2) := by decide +kernel
theorem dX9_measure_93 : decode cX9_measure 93 = .ok (.aload 7, 2) := by decide +kernel
theorem dX9_measure_95 : decode cX9_measure 95 = .ok (.getfield 125, 3) := by decide +kernel
theorem dX9_measure_98 : decode cX9_measure 98 = .ok (.iload_n 2, 1) := by decide +kernel
theorem dX9_measure_99 : decode cX9_measure 99 = .ok (.iload 8, 2) := by decide +kernel
theorem dX9_measure_101 : decode cX9_measure 101 = .ok (.iload 9, 2) := by decide +kernel
theorem dX9_measure_103 : decode cX9_measure 103 = .ok (.aload_n 0, 1) := by decide +kernel
theorem dX9_measure_104 : decode cX9_measure 104 = .ok (.getfield 52, 3) := by decide +kernel
theorem dX9_measure_107 : decode cX9_measure 107 = .ok (.invokevirtual 129, 3) := by decide +kernel
theorem dX9_measure_110 : decode cX9_measure 110 = .ok (.ireturn, 1) := by decide +kernel
set_option maxRecDepth 20000 in
theorem ggX9_told_X9_settled : GoodIn wsX9_told wsX9_settled := goodIn_ca (goodIn_r _ [5, 6, 7, 8, 9, 4, 10, 11, 12, 13, 14, 15, 16, 17, 18, 19, 20, 21, 22, 23, 24, 25, 26, 27, 28, 29, 30, 31, 32, 33, 34, 35, 36, 37, 38, 39, 40, 41, 42, 43, 44, 45, 46, 47, 48, 49, 50, 51, 52, 53, 54, 55, 56, 57, 58, 59, 60, 61, 62, 63, 64, 65, 66, 67, 68, 69, 70, 71, 72, 73, 74, 75, 76, 77, 78, 79, 80, 81, 82, 83, 84, 85, 86, 87, 88, 89, 90, 91, 92, 93, 94, 95, 96, 97, 98, 99, 100, 101, 102, 103, 104, 105, 106, 107, 108, 109, 110, 111, 112, 113, 114, 115, 116, 117, 118, 119, 120, 121, 122, 123, 124, 125, 126, 127, 128, 129, 130, 131, 132, 133, 134, 135, 136, 137, 138, 139, 140, 141, 142, 143, 144, 145, 146, 147, 148, 149, 150, 169, 170, 171, 172, 173, 174, 175, 176, 177, 178, 179, 180, 181, 182, 183, 184, 185, 186, 161, 162, 163, 164, 165, 166, 167, 168, 187, 188, 189, 190, 191, 192, 193, 194, 195, 196, 197, 198, 199, 200, 201, 202, 203, 204, 205, 206, 207] (by decide +kernel) (by decide +kernel)) (goodIn_sub (fun _ h => List.mem_cons_of_mem _ (List.mem_append_left _ (List.mem_append_right _ h))) (by decide +kernel))
set_option maxRecDepth 20000 in
theorem gX9_told_X9_settled : GoodIn wsX9_told (wsV RX9 103 RX9 yX9_settled wsX9_settled) := goodIn_app (goodIn_of _ (by decide +kernel)) ggX9_told_X9_settled
set_option maxRecDepth 20000 in
theorem ggX9_told_X9_within : GoodIn wsX9_told wsX9_within := goodIn_r _ [153] (by decide +kernel) (by decide +kernel)
set_option maxRecDepth 20000 in
theorem gX9_told_X9_within : GoodIn wsX9_told (va_wsS RX9 63 yX9_within wsX9_within) := goodIn_app (goodIn_of _ (by decide +kernel)) ggX9_told_X9_within
set_option maxRecDepth 20000 in
theorem ggX9_told_X9_demand : GoodIn wsX9_told wsX9_demand := goodIn_ca (goodIn_r _ [156, 157, 158] (by decide +kernel) (by decide +kernel)) (goodIn_sub (fun _ h => List.mem_cons_of_mem _ (List.mem_append_right _ h)) (by decide +kernel))
set_option maxRecDepth 20000 in
theorem gX9_told_X9_demand : GoodIn wsX9_told (va_wsS RX9 67 yX9_demand wsX9_demand) := goodIn_app (goodIn_of _ (by decide +kernel)) ggX9_told_X9_demand
set_option maxRecDepth 20000 in
theorem ggX9_told_X6_pointOf : GoodIn wsX9_told wsX6_pointOf := goodIn_r _ [80, 63, 24, 81, 82, 83, 74, 84, 76, 85, 86, 87, 88, 89, 90, 91, 92, 17, 93, 27, 161, 162, 163, 164, 165, 166, 167, 168, 203, 204, 205, 206, 207] (by decide +kernel) (by decide +kernel)
set_option maxRecDepth 20000 in
theorem gX9_told_X6_pointOf : GoodIn wsX9_told (wsV RX9 134 RX6 yX6_pointOf wsX6_pointOf) := goodIn_app (goodIn_of _ (by decide +kernel)) ggX9_told_X6_pointOf
set_option maxRecDepth 20000 in
theorem ggX9_told_X0_tell : GoodIn wsX9_told wsX0_tell := goodIn_r _ [84, 76, 85, 86, 87, 88, 89, 203, 204, 205, 206, 207] (by decide +kernel) (by decide +kernel)
set_option maxRecDepth 20000 in
theorem gX9_told_X0_tell : GoodIn wsX9_told (wsV RX9 137 RX0 yX0_tell wsX0_tell) := goodIn_app (goodIn_of _ (by decide +kernel)) ggX9_told_X0_tell
theorem dX9_told_0 : decode cX9_told 0 = .ok (.aload_n 0, 1) := by decide +kernel
theorem dX9_told_1 : decode cX9_told 1 = .ok (.iload_n 1, 1) := by decide +kernel
theorem dX9_told_2 : decode cX9_told 2 = .ok (.invokevirtual 103, 3) := by decide +kernel
theorem dX9_told_5 : decode cX9_told 5 = .ok (.astore 4, 2) := by decide +kernel
theorem dX9_told_7 : decode cX9_told 7 = .ok (.iload_n 3, 1) := by decide +kernel
theorem dX9_told_8 : decode cX9_told 8 = .ok (.iconst 0, 1) := by decide +kernel
theorem dX9_told_9 : decode cX9_told 9 = .ok (.iconst 4, 1) := by decide +kernel
theorem dX9_told_10 : decode cX9_told 10 = .ok (.invokestatic 63, 3) := by decide +kernel
theorem dX9_told_13 : decode cX9_told 13 = .ok (.invokestatic 67, 3) := by decide +kernel
theorem dX9_told_16 : decode cX9_told 16 = .ok (.iload_n 3, 1) := by decide +kernel
theorem dX9_told_17 : decode cX9_told 17 = .ok (.iconst 4, 1) := by decide +kernel
theorem dX9_told_18 : decode cX9_told 18 = .ok (.if_icmp .ne 10, 3) := by decide +kernel
theorem dX9_told_21 : decode cX9_told 21 = .ok (.aload 4, 2) := by decide +kernel
theorem dX9_told_23 : decode cX9_told 23 = .ok (.iload_n 2, 1) := by decide +kernel
theorem dX9_told_24 : decode cX9_told 24 = .ok (.invokevirtual 134, 3) := by decide +kernel
theorem dX9_told_27 : decode cX9_told 27 = .ok (.ireturn, 1) := by decide +kernel
theorem dX9_told_28 : decode cX9_told 28 = .ok (.aload 4, 2) := by decide +kernel
theorem dX9_told_30 : decode cX9_told 30 = .ok (.getfield 125, 3) := by decide +kernel
theorem dX9_told_33 : decode cX9_told 33 = .ok (.iload_n 2, 1) := by decide +kernel
theorem dX9_told_34 : decode cX9_told 34 = .ok (.iload_n 3, 1) := by decide +kernel
theorem dX9_told_35 : decode cX9_told 35 = .ok (.invokevirtual 137, 3) := by decide +kernel
theorem dX9_told_38 : decode cX9_told 38 = .ok (.ireturn, 1) := by decide +kernel
set_option maxRecDepth 20000 in
theorem ggX9_pieces_X9_settled : GoodIn wsX9_pieces wsX9_settled := goodIn_ca (goodIn_r _ [5, 6, 7, 8, 9, 4, 10, 11, 12, 13, 14, 15, 16, 17, 18, 19, 20, 21, 22, 23, 24, 25, 26, 27, 28, 29, 30, 31, 32, 33, 34, 35, 36, 37, 38, 39, 40, 41, 42, 43, 44, 45, 46, 47, 48, 49, 50, 51, 52, 53, 54, 55, 56, 57, 58, 59, 60, 61, 62, 63, 64, 65, 66, 67, 68, 69, 70, 71, 72, 73, 74, 75, 76, 77, 78, 79, 80, 81, 82, 83, 84, 85, 86, 87, 88, 89, 90, 91, 92, 93, 94, 95, 96, 97, 98, 99, 100, 101, 102, 103, 104, 105, 106, 107, 108, 109, 110, 111, 112, 113, 114, 115, 116, 117, 118, 119, 120, 121, 122, 123, 124, 125, 126, 127, 128, 129, 130, 131, 132, 133, 134, 135, 136, 137, 138, 139, 140, 141, 142, 143, 144, 145, 146, 147, 148, 149, 150, 163, 164, 165, 166, 167, 168, 169, 170, 171, 172, 173, 174, 175, 176, 177, 178, 179, 180, 155, 156, 157, 158, 159, 160, 161, 162, 181, 182, 183, 184, 185, 186, 187, 188, 189, 190, 191, 192, 193, 194, 195, 196, 197, 198, 199, 200, 201] (by decide +kernel) (by decide +kernel)) (goodIn_sub (fun _ h => List.mem_cons_of_mem _ (List.mem_append_right _ h)) (by decide +kernel))
set_option maxRecDepth 20000 in
theorem gX9_pieces_X9_settled : GoodIn wsX9_pieces (wsV RX9 103 RX9 yX9_settled wsX9_settled) := goodIn_app (goodIn_of _ (by decide +kernel)) ggX9_pieces_X9_settled
set_option maxRecDepth 20000 in
theorem ggX9_pieces_X1_size : GoodIn wsX9_pieces wsX1_size := goodIn_r _ [154, 70, 183, 184, 185, 186, 187, 188, 189, 190, 191, 192, 193, 194, 195, 196] (by decide +kernel) (by decide +kernel)
set_option maxRecDepth 20000 in
theorem gX9_pieces_X1_size : GoodIn wsX9_pieces (wsV RX9 144 RX1 yX1_size wsX1_size) := goodIn_app (goodIn_of _ (by decide +kernel)) ggX9_pieces_X1_size
theorem dX9_pieces_0 : decode cX9_pieces 0 = .ok (.aload_n 0, 1) := by decide +kernel
theorem dX9_pieces_1 : decode cX9_pieces 1 = .ok (.iload_n 1, 1) := by decide +kernel
theorem dX9_pieces_2 : decode cX9_pieces 2 = .ok (.invokevirtual 103, 3) := by decide +kernel
theorem dX9_pieces_5 : decode cX9_pieces 5 = .ok (.getfield 140, 3) := by decide +kernel
theorem dX9_pieces_8 : decode cX9_pieces 8 = .ok (.invokevirtual 144, 3) := by decide +kernel
theorem dX9_pieces_11 : decode cX9_pieces 11 = .ok (.ireturn, 1) := by decide +kernel
set_option maxRecDepth 20000 in
theorem ggX9_piece_X9_settled : GoodIn wsX9_piece wsX9_settled := goodIn_ca (goodIn_r _ [5, 6, 7, 8, 9, 4, 10, 11, 12, 13, 14, 15, 16, 17, 18, 19, 20, 21, 22, 23, 24, 25, 26, 27, 28, 29, 30, 31, 32, 33, 34, 35, 36, 37, 38, 39, 40, 41, 42, 43, 44, 45, 46, 47, 48, 49, 50, 51, 52, 53, 54, 55, 56, 57, 58, 59, 60, 61, 62, 63, 64, 65, 66, 67, 68, 69, 70, 71, 72, 73, 74, 75, 76, 77, 78, 79, 80, 81, 82, 83, 84, 85, 86, 87, 88, 89, 90, 91, 92, 93, 94, 95, 96, 97, 98, 99, 100, 101, 102, 103, 104, 105, 106, 107, 108, 109, 110, 111, 112, 113, 114, 115, 116, 117, 118, 119, 120, 121, 122, 123, 124, 125, 126, 127, 128, 129, 130, 131, 132, 133, 134, 135, 136, 137, 138, 139, 140, 141, 142, 143, 144, 145, 146, 147, 148, 149, 150, 171, 172, 173, 174, 175, 176, 177, 178, 179, 180, 181, 182, 183, 184, 185, 186, 187, 188, 163, 164, 165, 166, 167, 168, 169, 170, 189, 190, 191, 192, 193, 194, 195, 196, 197, 198, 199, 200, 201, 202, 203, 204, 205, 206, 207, 208, 209] (by decide +kernel) (by decide +kernel)) (goodIn_sub (fun _ h => List.mem_cons_of_mem _ (List.mem_append_left _ (List.mem_append_right _ h))) (by decide +kernel))
set_option maxRecDepth 20000 in
theorem gX9_piece_X9_settled : GoodIn wsX9_piece (wsV RX9 103 RX9 yX9_settled wsX9_settled) := goodIn_app (goodIn_of _ (by decide +kernel)) ggX9_piece_X9_settled
set_option maxRecDepth 20000 in
theorem ggX9_piece_X9_within : GoodIn wsX9_piece wsX9_within := goodIn_r _ [153] (by decide +kernel) (by decide +kernel)
set_option maxRecDepth 20000 in
theorem gX9_piece_X9_within : GoodIn wsX9_piece (va_wsS RX9 63 yX9_within wsX9_within) := goodIn_app (goodIn_of _ (by decide +kernel)) ggX9_piece_X9_within
set_option maxRecDepth 20000 in
theorem ggX9_piece_X9_demand : GoodIn wsX9_piece wsX9_demand := goodIn_ca (goodIn_r _ [156, 157, 158] (by decide +kernel) (by decide +kernel)) (goodIn_sub (fun _ h => List.mem_cons_of_mem _ (List.mem_append_right _ h)) (by decide +kernel))
set_option maxRecDepth 20000 in
theorem gX9_piece_X9_demand : GoodIn wsX9_piece (va_wsS RX9 67 yX9_demand wsX9_demand) := goodIn_app (goodIn_of _ (by decide +kernel)) ggX9_piece_X9_demand
set_option maxRecDepth 20000 in
theorem ggX9_piece_X1_tell : GoodIn wsX9_piece wsX1_tell := goodIn_r _ [162, 70, 146, 120, 121, 122, 123, 191, 192, 193, 194, 195, 196, 197, 198, 199, 200, 201, 202, 203, 204] (by decide +kernel) (by decide +kernel)
set_option maxRecDepth 20000 in
theorem gX9_piece_X1_tell : GoodIn wsX9_piece (wsV RX9 150 RX1 yX1_tell wsX1_tell) := goodIn_app (goodIn_of _ (by decide +kernel)) ggX9_piece_X1_tell
theorem dX9_piece_0 : decode cX9_piece 0 = .ok (.aload_n 0, 1) := by decide +kernel
theorem dX9_piece_1 : decode cX9_piece 1 = .ok (.iload_n 1, 1) := by decide +kernel
theorem dX9_piece_2 : decode cX9_piece 2 = .ok (.invokevirtual 103, 3) := by decide +kernel
theorem dX9_piece_5 : decode cX9_piece 5 = .ok (.astore 4, 2) := by decide +kernel
theorem dX9_piece_7 : decode cX9_piece 7 = .ok (.iload_n 3, 1) := by decide +kernel
theorem dX9_piece_8 : decode cX9_piece 8 = .ok (.iconst 0, 1) := by decide +kernel
theorem dX9_piece_9 : decode cX9_piece 9 = .ok (.iconst 3, 1) := by decide +kernel
theorem dX9_piece_10 : decode cX9_piece 10 = .ok (.invokestatic 63, 3) := by decide +kernel
theorem dX9_piece_13 : decode cX9_piece 13 = .ok (.invokestatic 67, 3) := by decide +kernel
theorem dX9_piece_16 : decode cX9_piece 16 = .ok (.aload 4, 2) := by decide +kernel
theorem dX9_piece_18 : decode cX9_piece 18 = .ok (.getfield 140, 3) := by decide +kernel
theorem dX9_piece_21 : decode cX9_piece 21 = .ok (.iload_n 2, 1) := by decide +kernel
theorem dX9_piece_22 : decode cX9_piece 22 = .ok (.iload_n 3, 1) := by decide +kernel
theorem dX9_piece_23 : decode cX9_piece 23 = .ok (.invokevirtual 150, 3) := by decide +kernel
theorem dX9_piece_26 : decode cX9_piece 26 = .ok (.ireturn, 1) := by decide +kernel
set_option maxRecDepth 20000 in
theorem ggX9_baseline_X9_settled : GoodIn wsX9_baseline wsX9_settled := goodIn_ca (goodIn_r _ [5, 6, 7, 8, 9, 4, 10, 11, 12, 13, 14, 15, 16, 17, 18, 19, 20, 21, 22, 23, 24, 25, 26, 27, 28, 29, 30, 31, 32, 33, 34, 35, 36, 37, 38, 39, 40, 41, 42, 43, 44, 45, 46, 47, 48, 49, 50, 51, 52, 53, 54, 55, 56, 57, 58, 59, 60, 61, 62, 63, 64, 65, 66, 67, 68, 69, 70, 71, 72, 73, 74, 75, 76, 77, 78, 79, 80, 81, 82, 83, 84, 85, 86, 87, 88, 89, 90, 91, 92, 93, 94, 95, 96, 97, 98, 99, 100, 101, 102, 103, 104, 105, 106, 107, 108, 109, 110, 111, 112, 113, 114, 115, 116, 117, 118, 119, 120, 121, 122, 123, 124, 125, 126, 127, 128, 129, 130, 131, 132, 133, 134, 135, 136, 137, 138, 139, 140, 141, 142, 143, 144, 145, 146, 147, 148, 149, 150, 160, 161, 162, 163, 164, 165, 166, 167, 168, 169, 170, 171, 172, 173, 174, 175, 176, 177, 152, 153, 154, 155, 156, 157, 158, 159, 178, 179, 180, 181, 182, 183, 184, 185, 186, 187, 188, 189, 190, 191, 192, 193, 194, 195, 196, 197, 198] (by decide +kernel) (by decide +kernel)) (goodIn_sub (fun _ h => List.mem_cons_of_mem _ (List.mem_append_right _ h)) (by decide +kernel))
set_option maxRecDepth 20000 in
theorem gX9_baseline_X9_settled : GoodIn wsX9_baseline (wsV RX9 103 RX9 yX9_settled wsX9_settled) := goodIn_app (goodIn_of _ (by decide +kernel)) ggX9_baseline_X9_settled
set_option maxRecDepth 20000 in
theorem ggX9_baseline_X1_height : GoodIn wsX9_baseline wsX1_height := goodIn_r _ [145, 70, 146, 120, 123, 147, 122, 124, 148, 149, 57, 150, 180, 181, 182, 183, 184, 185, 186, 187, 188, 189, 190, 191, 192, 193] (by decide +kernel) (by decide +kernel)
set_option maxRecDepth 20000 in
theorem gX9_baseline_X1_height : GoodIn wsX9_baseline (wsV RX9 151 RX1 yX1_height wsX1_height) := goodIn_app (goodIn_of _ (by decide +kernel)) ggX9_baseline_X1_height
theorem dX9_baseline_0 : decode cX9_baseline 0 = .ok (.aload_n 0, 1) := by decide +kernel
theorem dX9_baseline_1 : decode cX9_baseline 1 = .ok (.iload_n 1, 1) := by decide +kernel
theorem dX9_baseline_2 : decode cX9_baseline 2 = .ok (.invokevirtual 103, 3) := by decide +kernel
theorem dX9_baseline_5 : decode cX9_baseline 5 = .ok (.getfield 140, 3) := by decide +kernel
theorem dX9_baseline_8 : decode cX9_baseline 8 = .ok (.iload_n 2, 1) := by decide +kernel
theorem dX9_baseline_9 : decode cX9_baseline 9 = .ok (.invokevirtual 151, 3) := by decide +kernel
theorem dX9_baseline_12 : decode cX9_baseline 12 = .ok (.ireturn, 1) := by decide +kernel
set_option maxRecDepth 20000 in
theorem ggX9_value_X9_settled : GoodIn wsX9_value wsX9_settled := goodIn_ca (goodIn_r _ [5, 6, 7, 8, 9, 4, 10, 11, 12, 13, 14, 15, 16, 17, 18, 19, 20, 21, 22, 23, 24, 25, 26, 27, 28, 29, 30, 31, 32, 33, 34, 35, 36, 37, 38, 39, 40, 41, 42, 43, 44, 45, 46, 47, 48, 49, 50, 51, 52, 53, 54, 55, 56, 57, 58, 59, 60, 61, 62, 63, 64, 65, 66, 67, 68, 69, 70, 71, 72, 73, 74, 75, 76, 77, 78, 79, 80, 81, 82, 83, 84, 85, 86, 87, 88, 89, 90, 91, 92, 93, 94, 95, 96, 97, 98, 99, 100, 101, 102, 103, 104, 105, 106, 107, 108, 109, 110, 111, 112, 113, 114, 115, 116, 117, 118, 119, 120, 121, 122, 123, 124, 125, 126, 127, 128, 129, 130, 131, 132, 133, 134, 135, 136, 137, 138, 139, 140, 141, 142, 143, 144, 145, 146, 147, 148, 149, 150, 155, 156, 157, 158, 159, 160, 161, 162, 163, 164, 165, 166, 167, 168, 169, 170, 171, 172, 173, 174, 175, 176, 177, 178, 179, 180, 181, 182, 183, 184, 185, 186, 187, 188, 189, 190, 191, 192, 193, 194, 195, 196, 197, 198, 199, 200, 201] (by decide +kernel) (by decide +kernel)) (goodIn_sub (fun _ h => List.mem_cons_of_mem _ (List.mem_append_right _ h)) (by decide +kernel))
set_option maxRecDepth 20000 in
theorem gX9_value_X9_settled : GoodIn wsX9_value (wsV RX9 103 RX9 yX9_settled wsX9_settled) := goodIn_app (goodIn_of _ (by decide +kernel)) ggX9_value_X9_settled
set_option maxRecDepth 20000 in
theorem ggX9_value_X6_finalAt : GoodIn wsX9_value wsX6_finalAt := goodIn_r _ [154, 29, 24, 173, 174, 175, 176, 177, 178, 179, 180] (by decide +kernel) (by decide +kernel)
set_option maxRecDepth 20000 in
theorem gX9_value_X6_finalAt : GoodIn wsX9_value (wsV RX9 154 RX6 yX6_finalAt wsX6_finalAt) := goodIn_app (goodIn_of _ (by decide +kernel)) ggX9_value_X6_finalAt
theorem dX9_value_0 : decode cX9_value 0 = .ok (.aload_n 0, 1) := by decide +kernel
theorem dX9_value_1 : decode cX9_value 1 = .ok (.iload_n 1, 1) := by decide +kernel
theorem dX9_value_2 : decode cX9_value 2 = .ok (.invokevirtual 103, 3) := by decide +kernel
theorem dX9_value_5 : decode cX9_value 5 = .ok (.iload_n 2, 1) := by decide +kernel
theorem dX9_value_6 : decode cX9_value 6 = .ok (.invokevirtual 154, 3) := by decide +kernel
theorem dX9_value_9 : decode cX9_value 9 = .ok (.ireturn, 1) := by decide +kernel
set_option maxRecDepth 20000 in
theorem ggX9_feed_X5_hasRoom : GoodIn wsX9_feed wsX5_hasRoom := goodIn_r _ [6, 7, 8, 26, 27] (by decide +kernel) (by decide +kernel)
set_option maxRecDepth 20000 in
theorem gX9_feed_X5_hasRoom : GoodIn wsX9_feed (wsV RX9 157 RX5 yX5_hasRoom wsX5_hasRoom) := goodIn_app (goodIn_of _ (by decide +kernel)) ggX9_feed_X5_hasRoom
set_option maxRecDepth 20000 in
theorem ggX9_feed_X5_put : GoodIn wsX9_feed wsX5_put := goodIn_r _ [12, 7, 8, 26, 27] (by decide +kernel) (by decide +kernel)
set_option maxRecDepth 20000 in
theorem gX9_feed_X5_put : GoodIn wsX9_feed (wsV RX9 162 RX5 yX5_put wsX5_put) := goodIn_app (goodIn_of _ (by decide +kernel)) ggX9_feed_X5_put
set_option maxRecDepth 20000 in
theorem ggX9_feed_X5_size : GoodIn wsX9_feed wsX5_size := goodIn_r _ [16, 7, 26, 27] (by decide +kernel) (by decide +kernel)
set_option maxRecDepth 20000 in
theorem gX9_feed_X5_size : GoodIn wsX9_feed (wsV RX9 166 RX5 yX5_size wsX5_size) := goodIn_app (goodIn_of _ (by decide +kernel)) ggX9_feed_X5_size
theorem dX9_feed_0 : decode cX9_feed 0 = .ok (.aload_n 0, 1) := by decide +kernel
theorem dX9_feed_1 : decode cX9_feed 1 = .ok (.getfield 27, 3) := by decide +kernel
theorem dX9_feed_4 : decode cX9_feed 4 = .ok (.bipush 20, 2) := by decide +kernel
theorem dX9_feed_6 : decode cX9_feed 6 = .ok (.invokevirtual 157, 3) := by decide +kernel
theorem dX9_feed_9 : decode cX9_feed 9 = .ok (.ifCond .ne 5, 3) := by decide +kernel
theorem dX9_feed_12 : decode cX9_feed 12 = .ok (.iconst (-1), 1) := by decide +kernel
theorem dX9_feed_13 : decode cX9_feed 13 = .ok (.ireturn, 1) := by decide +kernel
theorem dX9_feed_14 : decode cX9_feed 14 = .ok (.aload_n 0, 1) := by decide +kernel
theorem dX9_feed_15 : decode cX9_feed 15 = .ok (.getfield 27, 3) := by decide +kernel
theorem dX9_feed_18 : decode cX9_feed 18 = .ok (.iload_n 1, 1) := by decide +kernel
theorem dX9_feed_19 : decode cX9_feed 19 = .ok (.invokevirtual 162, 3) := by decide +kernel
theorem dX9_feed_22 : decode cX9_feed 22 = .ok (.aload_n 0, 1) := by decide +kernel
theorem dX9_feed_23 : decode cX9_feed 23 = .ok (.getfield 27, 3) := by decide +kernel
theorem dX9_feed_26 : decode cX9_feed 26 = .ok (.iload_n 2, 1) := by decide +kernel
theorem dX9_feed_27 : decode cX9_feed 27 = .ok (.invokevirtual 162, 3) := by decide +kernel
theorem dX9_feed_30 : decode cX9_feed 30 = .ok (.aload_n 0, 1) := by decide +kernel
theorem dX9_feed_31 : decode cX9_feed 31 = .ok (.getfield 27, 3) := by decide +kernel
theorem dX9_feed_34 : decode cX9_feed 34 = .ok (.iload_n 3, 1) := by decide +kernel
theorem dX9_feed_35 : decode cX9_feed 35 = .ok (.invokevirtual 162, 3) := by decide +kernel
theorem dX9_feed_38 : decode cX9_feed 38 = .ok (.aload_n 0, 1) := by decide +kernel
theorem dX9_feed_39 : decode cX9_feed 39 = .ok (.getfield 27, 3) := by decide +kernel
theorem dX9_feed_42 : decode cX9_feed 42 = .ok (.iload 4, 2) := by decide +kernel
theorem dX9_feed_44 : decode cX9_feed 44 = .ok (.invokevirtual 162, 3) := by decide +kernel
theorem dX9_feed_47 : decode cX9_feed 47 = .ok (.aload_n 0, 1) := by decide +kernel
theorem dX9_feed_48 : decode cX9_feed 48 = .ok (.getfield 27, 3) := by decide +kernel
theorem dX9_feed_51 : decode cX9_feed 51 = .ok (.iload 5, 2) := by decide +kernel
theorem dX9_feed_53 : decode cX9_feed 53 = .ok (.invokevirtual 162, 3) := by decide +kernel
theorem dX9_feed_56 : decode cX9_feed 56 = .ok (.aload_n 0, 1) := by decide +kernel
theorem dX9_feed_57 : decode cX9_feed 57 = .ok (.getfield 27, 3) := by decide +kernel
theorem dX9_feed_60 : decode cX9_feed 60 = .ok (.invokevirtual 166, 3) := by decide +kernel
theorem dX9_feed_63 : decode cX9_feed 63 = .ok (.ireturn, 1) := by decide +kernel
set_option maxRecDepth 20000 in
theorem ggX9_rule_X5_size : GoodIn wsX9_rule wsX5_size := goodIn_r _ [9, 10, 194, 195] (by decide +kernel) (by decide +kernel)
set_option maxRecDepth 20000 in
theorem gX9_rule_X5_size : GoodIn wsX9_rule (wsV RX9 166 RX5 yX5_size wsX5_size) := goodIn_app (goodIn_of _ (by decide +kernel)) ggX9_rule_X5_size
set_option maxRecDepth 20000 in
theorem ggX9_rule_X9_within : GoodIn wsX9_rule wsX9_within := goodIn_r _ [14] (by decide +kernel) (by decide +kernel)
set_option maxRecDepth 20000 in
theorem gX9_rule_X9_within : GoodIn wsX9_rule (va_wsS RX9 63 yX9_within wsX9_within) := goodIn_app (goodIn_of _ (by decide +kernel)) ggX9_rule_X9_within
set_option maxRecDepth 20000 in
theorem ggX9_rule_X9_demand : GoodIn wsX9_rule wsX9_demand := goodIn_ca (goodIn_r _ [17, 18, 19] (by decide +kernel) (by decide +kernel)) (goodIn_sub (fun _ h => List.mem_cons_of_mem _ (List.mem_append_right _ h)) (by decide +kernel))
set_option maxRecDepth 20000 in
theorem gX9_rule_X9_demand : GoodIn wsX9_rule (va_wsS RX9 67 yX9_demand wsX9_demand) := goodIn_app (goodIn_of _ (by decide +kernel)) ggX9_rule_X9_demand
set_option maxRecDepth 20000 in
theorem ggX9_rule_X4_readInto : GoodIn wsX9_rule wsX4_readInto := goodIn_r _ [24, 25, 26, 27, 28, 29, 30, 31, 32, 33, 34, 35, 36, 37, 38, 39, 40, 41, 42, 43, 44, 45, 46, 47, 48, 49, 50, 51, 52, 53, 23, 54, 55, 56, 57, 58, 59, 60, 61, 62, 8, 63, 10, 64, 65, 66, 67, 68, 69, 70, 71, 72, 73, 74, 75, 76, 12, 13, 14, 77, 78, 79, 80, 81, 82, 83, 84, 85, 86, 87, 88, 89, 90, 91, 92, 93, 94, 95, 96, 97, 98, 99, 100, 101, 102, 103, 104, 105, 106, 107, 108, 109, 110, 111, 112, 113, 114, 115, 116, 117, 118, 119, 120, 121, 122, 123, 124, 125, 126, 127, 128, 129, 130, 131, 132, 133, 134, 135, 136, 137, 138, 139, 140, 141, 142, 143, 144, 145, 146, 147, 148, 149, 150, 151, 152, 153, 154, 155, 156, 157, 158, 159, 196, 197, 198, 199, 200, 201, 185, 186, 187, 188, 189, 190, 191, 192, 193, 194, 195] (by decide +kernel) (by decide +kernel)
set_option maxRecDepth 20000 in
theorem gX9_rule_X4_readInto : GoodIn wsX9_rule (wsV RX9 167 RX4 yX4_readInto wsX4_readInto) := goodIn_app (goodIn_of _ (by decide +kernel)) ggX9_rule_X4_readInto
set_option maxRecDepth 20000 in
theorem ggX9_rule_X5_empty : GoodIn wsX9_rule wsX5_empty := goodIn_r _ [163, 10, 194, 195] (by decide +kernel) (by decide +kernel)
set_option maxRecDepth 20000 in
theorem gX9_rule_X5_empty : GoodIn wsX9_rule (wsV RX9 171 RX5 yX5_empty wsX5_empty) := goodIn_app (goodIn_of _ (by decide +kernel)) ggX9_rule_X5_empty
set_option maxRecDepth 20000 in
theorem ggX9_rule_X4_faultKind : GoodIn wsX9_rule wsX4_faultKind := goodIn_r _ [167, 27, 196, 197, 198, 199, 200, 201] (by decide +kernel) (by decide +kernel)
set_option maxRecDepth 20000 in
theorem gX9_rule_X4_faultKind : GoodIn wsX9_rule (wsV RX9 174 RX4 yX4_faultKind wsX4_faultKind) := goodIn_app (goodIn_of _ (by decide +kernel)) ggX9_rule_X4_faultKind
set_option maxRecDepth 20000 in
theorem ggX9_rule_X3_become : GoodIn wsX9_rule wsX3_become := goodIn_r _ [171, 34, 35, 36, 37, 38, 39, 40, 45, 50, 172, 173, 174, 175, 185, 186, 187, 188, 189, 190, 191, 192, 193] (by decide +kernel) (by decide +kernel)
set_option maxRecDepth 20000 in
theorem gX9_rule_X3_become : GoodIn wsX9_rule (wsV RX9 177 RX3 yX3_become wsX3_become) := goodIn_app (goodIn_of _ (by decide +kernel)) ggX9_rule_X3_become
theorem dX9_rule_0 : decode cX9_rule 0 = .ok (.iload_n 1, 1) := by decide +kernel
theorem dX9_rule_1 : decode cX9_rule 1 = .ok (.iconst 0, 1) := by decide +kernel
theorem dX9_rule_2 : decode cX9_rule 2 = .ok (.aload_n 0, 1) := by decide +kernel
theorem dX9_rule_3 : decode cX9_rule 3 = .ok (.getfield 27, 3) := by decide +kernel
theorem dX9_rule_6 : decode cX9_rule 6 = .ok (.invokevirtual 166, 3) := by decide +kernel
theorem dX9_rule_9 : decode cX9_rule 9 = .ok (.invokestatic 63, 3) := by decide +kernel
theorem dX9_rule_12 : decode cX9_rule 12 = .ok (.invokestatic 67, 3) := by decide +kernel
theorem dX9_rule_15 : decode cX9_rule 15 = .ok (.aload_n 0, 1) := by decide +kernel
theorem dX9_rule_16 : decode cX9_rule 16 = .ok (.getfield 19, 3) := by decide +kernel
theorem dX9_rule_19 : decode cX9_rule 19 = .ok (.aload_n 0, 1) := by decide +kernel
theorem dX9_rule_20 : decode cX9_rule 20 = .ok (.getfield 35, 3) := by decide +kernel
theorem dX9_rule_23 : decode cX9_rule 23 = .ok (.iload_n 1, 1) := by decide +kernel
theorem dX9_rule_24 : decode cX9_rule 24 = .ok (.invokevirtual 167, 3) := by decide +kernel
theorem dX9_rule_27 : decode cX9_rule 27 = .ok (.istore_n 2, 1) := by decide +kernel
theorem dX9_rule_28 : decode cX9_rule 28 = .ok (.aload_n 0, 1) := by decide +kernel
theorem dX9_rule_29 : decode cX9_rule 29 = .ok (.getfield 27, 3) := by decide +kernel
theorem dX9_rule_32 : decode cX9_rule 32 = .ok (.invokevirtual 171, 3) := by decide +kernel
theorem dX9_rule_35 : decode cX9_rule 35 = .ok (.iload_n 2, 1) := by decide +kernel
theorem dX9_rule_36 : decode cX9_rule 36 = .ok (.ifCond .ne 14, 3) := by decide +kernel
theorem dX9_rule_39 : decode cX9_rule 39 = .ok (.aload_n 0, 1) := by decide +kernel
theorem dX9_rule_40 : decode cX9_rule 40 = .ok (.getfield 19, 3) := by decide +kernel
theorem dX9_rule_43 : decode cX9_rule 43 = .ok (.invokevirtual 174, 3) := by decide +kernel
theorem dX9_rule_46 : decode cX9_rule 46 = .ok (.bipush 10, 2) := by decide +kernel
theorem dX9_rule_48 : decode cX9_rule 48 = .ok (.isub, 1) := by decide +kernel
theorem dX9_rule_49 : decode cX9_rule 49 = .ok (.ireturn, 1) := by decide +kernel
theorem dX9_rule_50 : decode cX9_rule 50 = .ok (.aload_n 0, 1) := by decide +kernel
theorem dX9_rule_51 : decode cX9_rule 51 = .ok (.getfield 31, 3) := by decide +kernel
theorem dX9_rule_54 : decode cX9_rule 54 = .ok (.aload_n 0, 1) := by decide +kernel
theorem dX9_rule_55 : decode cX9_rule 55 = .ok (.getfield 35, 3) := by decide +kernel
theorem dX9_rule_58 : decode cX9_rule 58 = .ok (.invokevirtual 177, 3) := by decide +kernel
theorem dX9_rule_61 : decode cX9_rule 61 = .ok (.aload_n 0, 1) := by decide +kernel
theorem dX9_rule_62 : decode cX9_rule 62 = .ok (.getfield 31, 3) := by decide +kernel
theorem dX9_rule_65 : decode cX9_rule 65 = .ok (.getfield 181, 3) := by decide +kernel
theorem dX9_rule_68 : decode cX9_rule 68 = .ok (.ireturn, 1) := by decide +kernel
set_option maxRecDepth 20000 in
theorem ggX9_fault_X4_faultPlace : GoodIn wsX9_fault wsX4_faultPlace := goodIn_r _ [6, 7, 17, 18, 19, 20, 21, 22] (by decide +kernel) (by decide +kernel)
set_option maxRecDepth 20000 in
theorem gX9_fault_X4_faultPlace : GoodIn wsX9_fault (wsV RX9 184 RX4 yX4_faultPlace wsX4_faultPlace) := goodIn_app (goodIn_of _ (by decide +kernel)) ggX9_fault_X4_faultPlace
theorem dX9_fault_0 : decode cX9_fault 0 = .ok (.aload_n 0, 1) := by decide +kernel
theorem dX9_fault_1 : decode cX9_fault 1 = .ok (.getfield 19, 3) := by decide +kernel
theorem dX9_fault_4 : decode cX9_fault 4 = .ok (.invokevirtual 184, 3) := by decide +kernel
theorem dX9_fault_7 : decode cX9_fault 7 = .ok (.ireturn, 1) := by decide +kernel
set_option maxRecDepth 20000 in
theorem ggX9_train_X9_within : GoodIn wsX9_train wsX9_within := goodIn_r _ [5] (by decide +kernel) (by decide +kernel)
set_option maxRecDepth 20000 in
theorem gX9_train_X9_within : GoodIn wsX9_train (va_wsS RX9 63 yX9_within wsX9_within) := goodIn_app (goodIn_of _ (by decide +kernel)) ggX9_train_X9_within
set_option maxRecDepth 20000 in
theorem ggX9_train_X9_demand : GoodIn wsX9_train wsX9_demand := goodIn_ca (goodIn_r _ [8, 9, 10] (by decide +kernel) (by decide +kernel)) (goodIn_sub (fun _ h => List.mem_cons_of_mem _ (List.mem_append_right _ h)) (by decide +kernel))
set_option maxRecDepth 20000 in
theorem gX9_train_X9_demand : GoodIn wsX9_train (va_wsS RX9 67 yX9_demand wsX9_demand) := goodIn_app (goodIn_of _ (by decide +kernel)) ggX9_train_X9_demand
set_option maxRecDepth 20000 in
theorem ggX9_train_X7_add : GoodIn wsX9_train wsX7_add := goodIn_r _ [15, 16, 17, 18, 19, 20, 21, 31, 32] (by decide +kernel) (by decide +kernel)
set_option maxRecDepth 20000 in
theorem gX9_train_X7_add : GoodIn wsX9_train (wsV RX9 187 RX7 yX7_add wsX7_add) := goodIn_app (goodIn_of _ (by decide +kernel)) ggX9_train_X7_add
theorem dX9_train_0 : decode cX9_train 0 = .ok (.iload_n 1, 1) := by decide +kernel
theorem dX9_train_1 : decode cX9_train 1 = .ok (.iconst 0, 1) := by decide +kernel
theorem dX9_train_2 : decode cX9_train 2 = .ok (.sipush 299, 3) := by decide +kernel
theorem dX9_train_5 : decode cX9_train 5 = .ok (.invokestatic 63, 3) := by decide +kernel
theorem dX9_train_8 : decode cX9_train 8 = .ok (.ifCond .eq 18, 3) := by decide +kernel
theorem dX9_train_11 : decode cX9_train 11 = .ok (.iload_n 2, 1) := by decide +kernel
theorem dX9_train_12 : decode cX9_train 12 = .ok (.iconst 1, 1) := by decide +kernel
theorem dX9_train_13 : decode cX9_train 13 = .ok (.sipush 300, 3) := by decide +kernel
theorem dX9_train_16 : decode cX9_train 16 = .ok (.invokestatic 63, 3) := by decide +kernel
theorem dX9_train_19 : decode cX9_train 19 = .ok (.ifCond .eq 7, 3) := by decide +kernel
theorem dX9_train_22 : decode cX9_train 22 = .ok (.iconst 1, 1) := by decide +kernel
theorem dX9_train_23 : decode cX9_train 23 = .ok (.goto 4, 3) := by decide +kernel
theorem dX9_train_26 : decode cX9_train 26 = .ok (.iconst 0, 1) := by decide +kernel
theorem dX9_train_27 : decode cX9_train 27 = .ok (.invokestatic 67, 3) := by decide +kernel
theorem dX9_train_30 : decode cX9_train 30 = .ok (.aload_n 0, 1) := by decide +kernel
theorem dX9_train_31 : decode cX9_train 31 = .ok (.getfield 41, 3) := by decide +kernel
theorem dX9_train_34 : decode cX9_train 34 = .ok (.iload_n 1, 1) := by decide +kernel
theorem dX9_train_35 : decode cX9_train 35 = .ok (.iload_n 2, 1) := by decide +kernel
theorem dX9_train_36 : decode cX9_train 36 = .ok (.invokevirtual 187, 3) := by decide +kernel
theorem dX9_train_39 : decode cX9_train 39 = .ok (.ireturn, 1) := by decide +kernel
set_option maxRecDepth 20000 in
theorem ggX9_range_X9_settled : GoodIn wsX9_range wsX9_settled := goodIn_ca (goodIn_r _ [7, 1, 8, 9, 10, 6, 11, 12, 13, 14, 15, 16, 17, 18, 19, 20, 21, 22, 23, 24, 25, 26, 27, 28, 29, 30, 31, 32, 33, 34, 35, 36, 37, 38, 39, 40, 41, 42, 43, 44, 45, 46, 47, 48, 49, 50, 51, 52, 53, 54, 55, 56, 57, 58, 59, 60, 61, 62, 63, 64, 65, 66, 67, 68, 69, 70, 71, 72, 73, 74, 75, 76, 77, 78, 79, 80, 81, 82, 83, 84, 85, 86, 87, 88, 89, 90, 91, 92, 93, 94, 95, 96, 97, 98, 99, 100, 101, 102, 103, 104, 105, 106, 107, 108, 109, 110, 111, 112, 113, 114, 115, 116, 117, 118, 119, 120, 121, 122, 123, 124, 125, 126, 127, 128, 129, 130, 131, 132, 133, 134, 135, 136, 137, 138, 139, 140, 141, 142, 143, 144, 145, 146, 147, 148, 149, 150, 151, 185, 186, 187, 188, 189, 190, 191, 192, 193, 194, 195, 196, 197, 198, 199, 200, 201, 202, 203, 204, 205, 206, 207, 208, 209, 210, 211, 212, 213, 214, 215, 216, 217, 218, 219, 220, 221, 222, 223, 224, 225, 226, 227, 228, 229, 230, 231] (by decide +kernel) (by decide +kernel)) (goodIn_sub (fun _ h => List.mem_cons_of_mem _ (List.mem_append_right _ h)) (by decide +kernel))
set_option maxRecDepth 20000 in
theorem gX9_range_X9_settled : GoodIn wsX9_range (wsV RX9 103 RX9 yX9_settled wsX9_settled) := goodIn_app (goodIn_of _ (by decide +kernel)) ggX9_range_X9_settled
set_option maxRecDepth 20000 in
theorem ggX9_range_X9_windowsNow : GoodIn wsX9_range wsX9_windowsNow := goodIn_r _ [155, 1, 156, 157, 158, 6, 159, 14, 160, 36, 23, 37, 161, 32, 33, 18, 34, 26, 27, 35, 38, 39, 40, 41, 42, 43, 162, 163, 164, 165, 166, 167, 185, 186, 187, 188, 189, 190, 191, 192, 193, 203, 204, 205, 206, 207, 208, 209, 210, 211, 212, 194, 195, 196, 197, 198, 199, 200, 201, 202] (by decide +kernel) (by decide +kernel)
set_option maxRecDepth 20000 in
theorem gX9_range_X9_windowsNow : GoodIn wsX9_range (wsV RX9 189 RX9 yX9_windowsNow wsX9_windowsNow) := goodIn_app (goodIn_of _ (by decide +kernel)) ggX9_range_X9_windowsNow
set_option maxRecDepth 20000 in
theorem ggX9_range_X9_within : GoodIn wsX9_range wsX9_within := goodIn_r _ [170] (by decide +kernel) (by decide +kernel)
set_option maxRecDepth 20000 in
theorem gX9_range_X9_within : GoodIn wsX9_range (va_wsS RX9 63 yX9_within wsX9_within) := goodIn_app (goodIn_of _ (by decide +kernel)) ggX9_range_X9_within
set_option maxRecDepth 20000 in
theorem ggX9_range_X6_rangeIn : GoodIn wsX9_range wsX6_rangeIn := goodIn_r _ [174, 25, 21, 22, 23, 24, 35, 36, 37, 175, 176, 177, 18, 178, 30, 179, 180, 181, 182, 183, 184, 194, 195, 196, 197, 198, 199, 200, 201, 202, 203, 204, 205, 206, 207, 208, 209, 210, 232, 233] (by decide +kernel) (by decide +kernel)
set_option maxRecDepth 20000 in
theorem gX9_range_X6_rangeIn : GoodIn wsX9_range (wsV RX9 192 RX6 yX6_rangeIn wsX6_rangeIn) := goodIn_app (goodIn_of _ (by decide +kernel)) ggX9_range_X6_rangeIn
theorem dX9_range_0 : decode cX9_range 0 = .ok (.aload_n 0, 1) := by decide +kernel
theorem dX9_range_1 : decode cX9_range 1 = .ok (.iload_n 1, 1) := by decide +kernel
theorem dX9_range_2 : decode cX9_range 2 = .ok (.invokevirtual 103, 3) := by decide +kernel
theorem dX9_range_5 : decode cX9_range 5 = .ok (.astore_n 3, 1) := by decide +kernel
theorem dX9_range_6 : decode cX9_range 6 = .ok (.iload_n 2, 1) := by decide +kernel
theorem dX9_range_7 : decode cX9_range 7 = .ok (.iconst 0, 1) := by decide +kernel
theorem dX9_range_8 : decode cX9_range 8 = .ok (.aload_n 0, 1) := by decide +kernel
theorem dX9_range_9 : decode cX9_range 9 = .ok (.invokevirtual 189, 3) := by decide +kernel
theorem dX9_range_12 : decode cX9_range 12 = .ok (.iconst 1, 1) := by decide +kernel
theorem dX9_range_13 : decode cX9_range 13 = .ok (.isub, 1) := by decide +kernel
theorem dX9_range_14 : decode cX9_range 14 = .ok (.invokestatic 63, 3) := by decide +kernel
theorem dX9_range_17 : decode cX9_range 17 = .ok (.ifCond .ne 5, 3) := by decide +kernel
theorem dX9_range_20 : decode cX9_range 20 = .ok (.iconst (-1), 1) := by decide +kernel
theorem dX9_range_21 : decode cX9_range 21 = .ok (.ireturn, 1) := by decide +kernel
theorem dX9_range_22 : decode cX9_range 22 = .ok (.aload_n 3, 1) := by decide +kernel
theorem dX9_range_23 : decode cX9_range 23 = .ok (.iload_n 2, 1) := by decide +kernel
theorem dX9_range_24 : decode cX9_range 24 = .ok (.aload_n 0, 1) := by decide +kernel
theorem dX9_range_25 : decode cX9_range 25 = .ok (.getfield 31, 3) := by decide +kernel
theorem dX9_range_28 : decode cX9_range 28 = .ok (.aload_n 0, 1) := by decide +kernel
theorem dX9_range_29 : decode cX9_range 29 = .ok (.getfield 41, 3) := by decide +kernel
theorem dX9_range_32 : decode cX9_range 32 = .ok (.invokevirtual 192, 3) := by decide +kernel
theorem dX9_range_35 : decode cX9_range 35 = .ok (.ireturn, 1) := by decide +kernel
set_option maxRecDepth 20000 in
theorem ggX9_index_X9_layWindows : GoodIn wsX9_index wsX9_layWindows := goodIn_ca (goodIn_r _ [6, 1, 7, 8, 9, 10, 11, 12, 5, 13, 14, 15, 16, 17, 18, 19, 20, 21, 22, 23, 24, 25, 26, 27, 28, 29, 30, 31, 32, 33, 34, 35, 36, 37, 38, 39, 40, 41, 42, 43, 44, 45, 46, 47, 48, 49, 50, 51, 52, 53, 54, 55, 56, 57, 58, 59, 60, 61, 62, 63, 64, 65, 66, 67, 68, 69, 70, 71, 72, 73, 74, 75, 76, 77, 78, 79, 80, 81, 82, 83, 84, 85, 86, 87, 88, 89, 90, 91, 92, 93, 94, 95, 96, 97, 98, 99, 100, 101, 102, 103, 104, 105, 106, 107, 108, 109, 110, 111, 112, 113, 114, 115, 116, 117, 118, 119, 120, 121, 122, 123, 124, 125, 126, 127, 128, 129, 130, 131, 132, 133, 134, 135, 136, 137, 138, 139, 140, 141, 142, 143, 144, 145, 146, 147, 148, 149, 150, 151, 152, 153, 154, 155, 156, 157, 158, 159, 160, 161, 162, 163, 164, 165, 166, 167, 168, 169, 170, 171, 172, 173, 174, 175, 176, 177, 178, 179, 180, 181, 182, 183, 184, 185, 186, 187, 188, 189, 190, 191, 192, 193, 194, 195, 196, 197, 198, 199, 200, 201, 202, 203, 204, 205, 206, 207, 208, 209, 210, 211, 212, 213, 218, 219, 220, 221, 222, 223, 224, 225, 226, 227, 228, 229, 230, 231, 232, 233, 234, 235, 236, 237, 238, 239, 240, 241, 242, 243, 244, 245, 246, 247, 248, 249, 250, 251, 252, 253, 254, 255, 256, 257, 258, 259, 260, 261, 262, 263, 264, 265, 266, 267, 268] (by decide +kernel) (by decide +kernel)) (goodIn_sub (fun _ h => List.mem_cons_of_mem _ (List.mem_append_right _ h)) (by decide +kernel))
set_option maxRecDepth 20000 in
theorem gX9_index_X9_layWindows : GoodIn wsX9_index (wsV RX9 196 RX9 yX9_layWindows wsX9_layWindows) := goodIn_app (goodIn_of _ (by decide +kernel)) ggX9_index_X9_layWindows
set_option maxRecDepth 20000 in
theorem ggX9_index_X8_indexOf : GoodIn wsX9_index wsX8_indexOf := goodIn_r _ [217, 51, 52, 246, 247] (by decide +kernel) (by decide +kernel)
set_option maxRecDepth 20000 in
theorem gX9_index_X8_indexOf : GoodIn wsX9_index (wsV RX9 199 RX8 yX8_indexOf wsX8_indexOf) := goodIn_app (goodIn_of _ (by decide +kernel)) ggX9_index_X8_indexOf
theorem dX9_index_0 : decode cX9_index 0 = .ok (.aload_n 0, 1) := by decide +kernel
theorem dX9_index_1 : decode cX9_index 1 = .ok (.invokevirtual 196, 3) := by decide +kernel
theorem dX9_index_4 : decode cX9_index 4 = .ok (.aload_n 0, 1) := by decide +kernel
theorem dX9_index_5 : decode cX9_index 5 = .ok (.getfield 48, 3) := by decide +kernel
theorem dX9_index_8 : decode cX9_index 8 = .ok (.iload_n 1, 1) := by decide +kernel
theorem dX9_index_9 : decode cX9_index 9 = .ok (.invokevirtual 199, 3) := by decide +kernel
theorem dX9_index_12 : decode cX9_index 12 = .ok (.ireturn, 1) := by decide +kernel
set_option maxRecDepth 20000 in
theorem ggX9_storm_X9_within : GoodIn wsX9_storm wsX9_within := goodIn_r _ [6] (by decide +kernel) (by decide +kernel)
set_option maxRecDepth 20000 in
theorem gX9_storm_X9_within : GoodIn wsX9_storm (va_wsS RX9 63 yX9_within wsX9_within) := goodIn_app (goodIn_of _ (by decide +kernel)) ggX9_storm_X9_within
set_option maxRecDepth 20000 in
theorem ggX9_storm_X9_demand : GoodIn wsX9_storm wsX9_demand := goodIn_ca (goodIn_r _ [9, 10, 11] (by decide +kernel) (by decide +kernel)) (goodIn_sub (fun _ h => List.mem_cons_of_mem _ (List.mem_append_left _ (List.mem_append_right _ h))) (by decide +kernel))
set_option maxRecDepth 20000 in
theorem gX9_storm_X9_demand : GoodIn wsX9_storm (va_wsS RX9 67 yX9_demand wsX9_demand) := goodIn_app (goodIn_of _ (by decide +kernel)) ggX9_storm_X9_demand
set_option maxRecDepth 20000 in
theorem ggX9_storm_X9_layWindows : GoodIn wsX9_storm wsX9_layWindows := goodIn_ca (goodIn_r _ [15, 1, 16, 2, 17, 18, 19, 20, 5, 21, 22, 23, 24, 25, 26, 27, 28, 29, 30, 31, 32, 33, 34, 35, 36, 37, 38, 39, 40, 41, 42, 43, 44, 45, 46, 47, 48, 49, 50, 51, 52, 53, 54, 55, 56, 57, 58, 59, 60, 61, 62, 63, 64, 65, 66, 67, 68, 69, 70, 71, 72, 73, 74, 75, 76, 77, 78, 79, 80, 81, 82, 83, 84, 85, 86, 87, 88, 89, 90, 91, 92, 93, 94, 95, 96, 97, 98, 99, 100, 101, 102, 103, 104, 105, 106, 107, 108, 109, 110, 111, 112, 113, 114, 115, 116, 117, 118, 119, 120, 121, 122, 123, 124, 125, 126, 127, 128, 129, 130, 131, 132, 133, 134, 135, 136, 137, 138, 139, 140, 141, 142, 143, 144, 145, 146, 147, 148, 149, 150, 151, 152, 153, 154, 155, 156, 157, 158, 159, 160, 161, 162, 163, 164, 165, 166, 167, 168, 169, 170, 171, 172, 173, 174, 175, 176, 177, 178, 179, 180, 181, 182, 183, 184, 185, 186, 187, 188, 189, 190, 191, 192, 193, 194, 195, 196, 197, 198, 199, 200, 201, 202, 203, 204, 205, 206, 207, 208, 209, 210, 211, 212, 213, 214, 215, 216, 217, 218, 219, 220, 221, 235, 236, 237, 238, 239, 240, 241, 242, 243, 253, 254, 255, 256, 257, 258, 259, 260, 261, 262, 244, 245, 246, 247, 248, 249, 250, 251, 252, 263, 264, 265, 266, 267, 268, 269, 270, 271, 272, 273, 274, 275, 276, 277, 278, 279, 280, 281, 282, 283, 284, 285] (by decide +kernel) (by decide +kernel)) (goodIn_sub (fun _ h => List.mem_cons_of_mem _ (List.mem_append_right _ h)) (by decide +kernel))
set_option maxRecDepth 20000 in
theorem gX9_storm_X9_layWindows : GoodIn wsX9_storm (wsV RX9 196 RX9 yX9_layWindows wsX9_layWindows) := goodIn_app (goodIn_of _ (by decide +kernel)) ggX9_storm_X9_layWindows
set_option maxRecDepth 20000 in
theorem ggX9_storm_X8_stormStart : GoodIn wsX9_storm wsX8_stormStart := goodIn_r _ [225, 59, 226, 227, 228, 53, 229, 230, 231, 232, 233, 60, 263, 264] (by decide +kernel) (by decide +kernel)
set_option maxRecDepth 20000 in
theorem gX9_storm_X8_stormStart : GoodIn wsX9_storm (wsV RX9 205 RX8 yX8_stormStart wsX8_stormStart) := goodIn_app (goodIn_of _ (by decide +kernel)) ggX9_storm_X8_stormStart
set_option maxRecDepth 20000 in
theorem ggX9_storm_X8_stormLength : GoodIn wsX9_storm wsX8_stormLength := goodIn_r _ [229, 59, 230, 231, 232, 53, 233, 60, 263, 264] (by decide +kernel) (by decide +kernel)
set_option maxRecDepth 20000 in
theorem gX9_storm_X8_stormLength : GoodIn wsX9_storm (wsV RX9 208 RX8 yX8_stormLength wsX8_stormLength) := goodIn_app (goodIn_of _ (by decide +kernel)) ggX9_storm_X8_stormLength
theorem dX9_storm_0 : decode cX9_storm 0 = .ok (.iload_n 2, 1) := by decide +kernel
theorem dX9_storm_1 : decode cX9_storm 1 = .ok (.iconst 0, 1) := by decide +kernel
theorem dX9_storm_2 : decode cX9_storm 2 = .ok (.iconst 1, 1) := by decide +kernel
theorem dX9_storm_3 : decode cX9_storm 3 = .ok (.invokestatic 63, 3) := by decide +kernel
theorem dX9_storm_6 : decode cX9_storm 6 = .ok (.invokestatic 67, 3) := by decide +kernel
theorem dX9_storm_9 : decode cX9_storm 9 = .ok (.aload_n 0, 1) := by decide +kernel
theorem dX9_storm_10 : decode cX9_storm 10 = .ok (.invokevirtual 196, 3) := by decide +kernel
theorem dX9_storm_13 : decode cX9_storm 13 = .ok (.aload_n 0, 1) := by decide +kernel
theorem dX9_storm_14 : decode cX9_storm 14 = .ok (.getfield 48, 3) := by decide +kernel
theorem dX9_storm_17 : decode cX9_storm 17 = .ok (.iload_n 1, 1) := by decide +kernel
theorem dX9_storm_18 : decode cX9_storm 18 = .ok (.aload_n 0, 1) := by decide +kernel
theorem dX9_storm_19 : decode cX9_storm 19 = .ok (.getfield 31, 3) := by decide +kernel
theorem dX9_storm_22 : decode cX9_storm 22 = .ok (.getfield 202, 3) := by decide +kernel
theorem dX9_storm_25 : decode cX9_storm 25 = .ok (.invokevirtual 205, 3) := by decide +kernel
theorem dX9_storm_28 : decode cX9_storm 28 = .ok (.istore_n 3, 1) := by decide +kernel
theorem dX9_storm_29 : decode cX9_storm 29 = .ok (.iload_n 3, 1) := by decide +kernel
theorem dX9_storm_30 : decode cX9_storm 30 = .ok (.iconst (-1), 1) := by decide +kernel
theorem dX9_storm_31 : decode cX9_storm 31 = .ok (.if_icmp .eq 7, 3) := by decide +kernel
theorem dX9_storm_34 : decode cX9_storm 34 = .ok (.iload_n 2, 1) := by decide +kernel
theorem dX9_storm_35 : decode cX9_storm 35 = .ok (.ifCond .ne 5, 3) := by decide +kernel
theorem dX9_storm_38 : decode cX9_storm 38 = .ok (.iload_n 3, 1) := by decide +kernel
theorem dX9_storm_39 : decode cX9_storm 39 = .ok (.ireturn, 1) := by decide +kernel
theorem dX9_storm_40 : decode cX9_storm 40 = .ok (.aload_n 0, 1) := by decide +kernel
theorem dX9_storm_41 : decode cX9_storm 41 = .ok (.getfield 48, 3) := by decide +kernel
theorem dX9_storm_44 : decode cX9_storm 44 = .ok (.iload_n 3, 1) := by decide +kernel
theorem dX9_storm_45 : decode cX9_storm 45 = .ok (.aload_n 0, 1) := by decide +kernel
theorem dX9_storm_46 : decode cX9_storm 46 = .ok (.getfield 31, 3) := by decide +kernel
theorem dX9_storm_49 : decode cX9_storm 49 = .ok (.getfield 202, 3) := by decide +kernel
theorem dX9_storm_52 : decode cX9_storm 52 = .ok (.invokevirtual 208, 3) := by decide +kernel
theorem dX9_storm_55 : decode cX9_storm 55 = .ok (.ireturn, 1) := by decide +kernel
set_option maxRecDepth 20000 in
theorem ggX9_quiet_X9_layWindows : GoodIn wsX9_quiet wsX9_layWindows := goodIn_ca (goodIn_r _ [6, 1, 7, 8, 9, 10, 11, 12, 5, 13, 14, 15, 16, 17, 18, 19, 20, 21, 22, 23, 24, 25, 26, 27, 28, 29, 30, 31, 32, 33, 34, 35, 36, 37, 38, 39, 40, 41, 42, 43, 44, 45, 46, 47, 48, 49, 50, 51, 52, 53, 54, 55, 56, 57, 58, 59, 60, 61, 62, 63, 64, 65, 66, 67, 68, 69, 70, 71, 72, 73, 74, 75, 76, 77, 78, 79, 80, 81, 82, 83, 84, 85, 86, 87, 88, 89, 90, 91, 92, 93, 94, 95, 96, 97, 98, 99, 100, 101, 102, 103, 104, 105, 106, 107, 108, 109, 110, 111, 112, 113, 114, 115, 116, 117, 118, 119, 120, 121, 122, 123, 124, 125, 126, 127, 128, 129, 130, 131, 132, 133, 134, 135, 136, 137, 138, 139, 140, 141, 142, 143, 144, 145, 146, 147, 148, 149, 150, 151, 152, 153, 154, 155, 156, 157, 158, 159, 160, 161, 162, 163, 164, 165, 166, 167, 168, 169, 170, 171, 172, 173, 174, 175, 176, 177, 178, 179, 180, 181, 182, 183, 184, 185, 186, 187, 188, 189, 190, 191, 192, 193, 194, 195, 196, 197, 198, 199, 200, 201, 202, 203, 204, 205, 206, 207, 208, 209, 210, 211, 212, 213, 218, 219, 220, 221, 222, 223, 224, 225, 226, 227, 228, 229, 230, 231, 232, 233, 234, 235, 236, 237, 238, 239, 240, 241, 242, 243, 244, 245, 246, 247, 248, 249, 250, 251, 252, 253, 254, 255, 256, 257, 258, 259, 260, 261, 262, 263, 264, 265, 266, 267, 268] (by decide +kernel) (by decide +kernel)) (goodIn_sub (fun _ h => List.mem_cons_of_mem _ (List.mem_append_right _ h)) (by decide +kernel))
set_option maxRecDepth 20000 in
theorem gX9_quiet_X9_layWindows : GoodIn wsX9_quiet (wsV RX9 196 RX9 yX9_layWindows wsX9_layWindows) := goodIn_app (goodIn_of _ (by decide +kernel)) ggX9_quiet_X9_layWindows
set_option maxRecDepth 20000 in
theorem ggX9_quiet_X8_quietWindow : GoodIn wsX9_quiet wsX8_quietWindow := goodIn_r _ [217, 51, 52, 246, 247] (by decide +kernel) (by decide +kernel)
set_option maxRecDepth 20000 in
theorem gX9_quiet_X8_quietWindow : GoodIn wsX9_quiet (wsV RX9 211 RX8 yX8_quietWindow wsX8_quietWindow) := goodIn_app (goodIn_of _ (by decide +kernel)) ggX9_quiet_X8_quietWindow
theorem dX9_quiet_0 : decode cX9_quiet 0 = .ok (.aload_n 0, 1) := by decide +kernel
theorem dX9_quiet_1 : decode cX9_quiet 1 = .ok (.invokevirtual 196, 3) := by decide +kernel
theorem dX9_quiet_4 : decode cX9_quiet 4 = .ok (.aload_n 0, 1) := by decide +kernel
theorem dX9_quiet_5 : decode cX9_quiet 5 = .ok (.getfield 48, 3) := by decide +kernel
theorem dX9_quiet_8 : decode cX9_quiet 8 = .ok (.iload_n 1, 1) := by decide +kernel
theorem dX9_quiet_9 : decode cX9_quiet 9 = .ok (.invokevirtual 211, 3) := by decide +kernel
theorem dX9_quiet_12 : decode cX9_quiet 12 = .ok (.ireturn, 1) := by decide +kernel
set_option maxRecDepth 20000 in
theorem ggX9_publish_X9_settled : GoodIn wsX9_publish wsX9_settled := goodIn_ca (goodIn_r _ [7, 8, 9, 10, 11, 6, 12, 13, 14, 1, 15, 16, 17, 18, 19, 20, 21, 22, 23, 24, 25, 26, 27, 28, 29, 30, 31, 32, 33, 34, 35, 36, 37, 38, 39, 40, 41, 42, 43, 44, 45, 46, 47, 48, 49, 50, 51, 52, 53, 54, 55, 56, 57, 58, 59, 60, 61, 62, 63, 64, 65, 66, 67, 68, 69, 70, 71, 72, 73, 74, 75, 76, 77, 78, 79, 80, 81, 82, 83, 84, 85, 86, 87, 88, 89, 90, 91, 92, 93, 94, 95, 96, 97, 98, 99, 100, 101, 102, 103, 104, 105, 106, 107, 108, 109, 110, 111, 112, 113, 114, 115, 116, 117, 118, 119, 120, 121, 122, 123, 124, 125, 126, 127, 128, 129, 130, 131, 132, 133, 134, 135, 136, 137, 138, 139, 140, 141, 142, 143, 144, 145, 146, 147, 148, 149, 150, 151, 161, 162, 163, 164, 165, 166, 167, 168, 169, 170, 171, 172, 173, 174, 175, 176, 177, 178, 179, 180, 181, 182, 183, 184, 185, 186, 187, 188, 189, 190, 191, 192, 193, 194, 195, 196, 197, 198, 199, 200, 201, 202, 203, 204, 205, 206, 207] (by decide +kernel) (by decide +kernel)) (goodIn_sub (fun _ h => List.mem_cons_of_mem _ (List.mem_append_right _ h)) (by decide +kernel))
set_option maxRecDepth 20000 in
theorem gX9_publish_X9_settled : GoodIn wsX9_publish (wsV RX9 103 RX9 yX9_settled wsX9_settled) := goodIn_app (goodIn_of _ (by decide +kernel)) ggX9_publish_X9_settled
set_option maxRecDepth 20000 in
theorem ggX9_publish_X6_keepFinals : GoodIn wsX9_publish wsX6_keepFinals := goodIn_r _ [155, 156, 25, 157, 158, 159, 18, 160, 30, 179, 180, 181, 182, 183, 184, 185, 186] (by decide +kernel) (by decide +kernel)
set_option maxRecDepth 20000 in
theorem gX9_publish_X6_keepFinals : GoodIn wsX9_publish (wsV RX9 214 RX6 yX6_keepFinals wsX6_keepFinals) := goodIn_app (goodIn_of _ (by decide +kernel)) ggX9_publish_X6_keepFinals
theorem dX9_publish_0 : decode cX9_publish 0 = .ok (.iconst 0, 1) := by decide +kernel
theorem dX9_publish_1 : decode cX9_publish 1 = .ok (.istore_n 1, 1) := by decide +kernel
theorem dX9_publish_2 : decode cX9_publish 2 = .ok (.iconst 0, 1) := by decide +kernel
theorem dX9_publish_3 : decode cX9_publish 3 = .ok (.istore_n 2, 1) := by decide +kernel
theorem dX9_publish_4 : decode cX9_publish 4 = .ok (.iload_n 2, 1) := by decide +kernel
theorem dX9_publish_5 : decode cX9_publish 5 = .ok (.aload_n 0, 1) := by decide +kernel
theorem dX9_publish_6 : decode cX9_publish 6 = .ok (.getfield 11, 3) := by decide +kernel
theorem dX9_publish_9 : decode cX9_publish 9 = .ok (.arraylength, 1) := by decide +kernel
theorem dX9_publish_10 : decode cX9_publish 10 = .ok (.if_icmp .ge 20, 3) := by decide +kernel
theorem dX9_publish_13 : decode cX9_publish 13 = .ok (.iload_n 1, 1) := by decide +kernel
theorem dX9_publish_14 : decode cX9_publish 14 = .ok (.aload_n 0, 1) := by decide +kernel
theorem dX9_publish_15 : decode cX9_publish 15 = .ok (.iload_n 2, 1) := by decide +kernel
theorem dX9_publish_16 : decode cX9_publish 16 = .ok (.invokevirtual 103, 3) := by decide +kernel
theorem dX9_publish_19 : decode cX9_publish 19 = .ok (.invokevirtual 214, 3) := by decide +kernel
theorem dX9_publish_22 : decode cX9_publish 22 = .ok (.iadd, 1) := by decide +kernel
theorem dX9_publish_23 : decode cX9_publish 23 = .ok (.istore_n 1, 1) := by decide +kernel
theorem dX9_publish_24 : decode cX9_publish 24 = .ok (.iinc 2 1, 3) := by decide +kernel
theorem dX9_publish_27 : decode cX9_publish 27 = .ok (.goto (-23), 3) := by decide +kernel
theorem dX9_publish_30 : decode cX9_publish 30 = .ok (.aload_n 0, 1) := by decide +kernel
theorem dX9_publish_31 : decode cX9_publish 31 = .ok (.dup, 1) := by decide +kernel
theorem dX9_publish_32 : decode cX9_publish 32 = .ok (.getfield 56, 3) := by decide +kernel
theorem dX9_publish_35 : decode cX9_publish 35 = .ok (.iconst 1, 1) := by decide +kernel
theorem dX9_publish_36 : decode cX9_publish 36 = .ok (.iadd, 1) := by decide +kernel
theorem dX9_publish_37 : decode cX9_publish 37 = .ok (.putfield 56, 3) := by decide +kernel
theorem dX9_publish_40 : decode cX9_publish 40 = .ok (.iload_n 1, 1) := by decide +kernel
theorem dX9_publish_41 : decode cX9_publish 41 = .ok (.ireturn, 1) := by decide +kernel
set_option maxRecDepth 20000 in
theorem ggX9_changed_X9_settled : GoodIn wsX9_changed wsX9_settled := goodIn_ca (goodIn_r _ [6, 7, 8, 9, 10, 5, 11, 12, 13, 14, 15, 16, 17, 18, 19, 20, 21, 22, 23, 24, 25, 26, 27, 28, 29, 30, 31, 32, 33, 34, 35, 36, 37, 38, 39, 40, 41, 42, 43, 44, 45, 46, 47, 48, 49, 50, 51, 52, 53, 54, 55, 56, 57, 58, 59, 60, 61, 62, 63, 64, 65, 66, 67, 68, 69, 70, 71, 72, 73, 74, 75, 76, 77, 78, 79, 80, 81, 82, 83, 84, 85, 86, 87, 88, 89, 90, 91, 92, 93, 94, 95, 96, 97, 98, 99, 100, 101, 102, 103, 104, 105, 106, 107, 108, 109, 110, 111, 112, 113, 114, 115, 116, 117, 118, 119, 120, 121, 122, 123, 124, 125, 126, 127, 128, 129, 130, 131, 132, 133, 134, 135, 136, 137, 138, 139, 140, 141, 142, 143, 144, 145, 146, 147, 148, 149, 150, 151, 165, 166, 167, 168, 169, 170, 171, 172, 173, 174, 175, 176, 177, 178, 179, 180, 181, 182, 183, 184, 185, 186, 187, 188, 189, 190, 191, 192, 193, 194, 195, 196, 197, 198, 199, 200, 201, 202, 203, 204, 205, 206, 207, 208, 209, 210, 211] (by decide +kernel) (by decide +kernel)) (goodIn_sub (fun _ h => List.mem_cons_of_mem _ (List.mem_append_right _ h)) (by decide +kernel))
set_option maxRecDepth 20000 in
theorem gX9_changed_X9_settled : GoodIn wsX9_changed (wsV RX9 103 RX9 yX9_settled wsX9_settled) := goodIn_app (goodIn_of _ (by decide +kernel)) ggX9_changed_X9_settled
set_option maxRecDepth 20000 in
theorem ggX9_changed_X6_changeTime : GoodIn wsX9_changed wsX6_changeTime := goodIn_r _ [155, 156, 157, 158, 18, 159, 30, 25, 160, 161, 162, 163, 164, 183, 184, 185, 186, 187, 188, 189, 190] (by decide +kernel) (by decide +kernel)
set_option maxRecDepth 20000 in
theorem gX9_changed_X6_changeTime : GoodIn wsX9_changed (wsV RX9 217 RX6 yX6_changeTime wsX6_changeTime) := goodIn_app (goodIn_of _ (by decide +kernel)) ggX9_changed_X6_changeTime
theorem dX9_changed_0 : decode cX9_changed 0 = .ok (.aload_n 0, 1) := by decide +kernel
theorem dX9_changed_1 : decode cX9_changed 1 = .ok (.iload_n 1, 1) := by decide +kernel
theorem dX9_changed_2 : decode cX9_changed 2 = .ok (.invokevirtual 103, 3) := by decide +kernel
theorem dX9_changed_5 : decode cX9_changed 5 = .ok (.astore_n 3, 1) := by decide +kernel
theorem dX9_changed_6 : decode cX9_changed 6 = .ok (.aload_n 0, 1) := by decide +kernel
theorem dX9_changed_7 : decode cX9_changed 7 = .ok (.getfield 56, 3) := by decide +kernel
theorem dX9_changed_10 : decode cX9_changed 10 = .ok (.ifCond .ne 5, 3) := by decide +kernel
theorem dX9_changed_13 : decode cX9_changed 13 = .ok (.iconst (-1), 1) := by decide +kernel
theorem dX9_changed_14 : decode cX9_changed 14 = .ok (.ireturn, 1) := by decide +kernel
theorem dX9_changed_15 : decode cX9_changed 15 = .ok (.aload_n 3, 1) := by decide +kernel
theorem dX9_changed_16 : decode cX9_changed 16 = .ok (.iload_n 2, 1) := by decide +kernel
theorem dX9_changed_17 : decode cX9_changed 17 = .ok (.invokevirtual 217, 3) := by decide +kernel
theorem dX9_changed_20 : decode cX9_changed 20 = .ok (.ireturn, 1) := by decide +kernel
set_option maxRecDepth 20000 in
theorem ggX9_published_X9_trackOf : GoodIn wsX9_published wsX9_trackOf := goodIn_ca (goodIn_r _ [5, 6, 7, 8, 16, 17, 18, 19, 20, 21, 22, 23, 24] (by decide +kernel) (by decide +kernel)) (goodIn_sub (fun _ h => List.mem_cons_of_mem _ (List.mem_append_right _ h)) (by decide +kernel))
set_option maxRecDepth 20000 in
theorem gX9_published_X9_trackOf : GoodIn wsX9_published (wsV RX9 110 RX9 yX9_trackOf wsX9_trackOf) := goodIn_app (goodIn_of _ (by decide +kernel)) ggX9_published_X9_trackOf
set_option maxRecDepth 20000 in
theorem ggX9_published_X6_keptAt : GoodIn wsX9_published wsX6_keptAt := goodIn_r _ [13, 14, 15, 25, 26, 27, 28, 29, 30, 31, 32] (by decide +kernel) (by decide +kernel)
set_option maxRecDepth 20000 in
theorem gX9_published_X6_keptAt : GoodIn wsX9_published (wsV RX9 220 RX6 yX6_keptAt wsX6_keptAt) := goodIn_app (goodIn_of _ (by decide +kernel)) ggX9_published_X6_keptAt
theorem dX9_published_0 : decode cX9_published 0 = .ok (.aload_n 0, 1) := by decide +kernel
theorem dX9_published_1 : decode cX9_published 1 = .ok (.iload_n 1, 1) := by decide +kernel
theorem dX9_published_2 : decode cX9_published 2 = .ok (.invokevirtual 110, 3) := by decide +kernel
theorem dX9_published_5 : decode cX9_published 5 = .ok (.iload_n 2, 1) := by decide +kernel
theorem dX9_published_6 : decode cX9_published 6 = .ok (.invokevirtual 220, 3) := by decide +kernel
theorem dX9_published_9 : decode cX9_published 9 = .ok (.ireturn, 1) := by decide +kernel
set_option maxRecDepth 20000 in
theorem ggX9_count_X9_timesNow : GoodIn wsX9_count wsX9_timesNow := goodIn_r _ [9, 10, 11, 12, 13, 14, 15, 16, 17, 18, 19, 20, 21, 22, 23, 24, 25, 26, 27, 28, 51, 52, 53, 54, 55, 56, 57, 58, 59, 69, 70, 71, 72, 73, 74, 75, 76, 77, 78] (by decide +kernel) (by decide +kernel)
set_option maxRecDepth 20000 in
theorem gX9_count_X9_timesNow : GoodIn wsX9_count (wsV RX9 223 RX9 yX9_timesNow wsX9_timesNow) := goodIn_app (goodIn_of _ (by decide +kernel)) ggX9_count_X9_timesNow
set_option maxRecDepth 20000 in
theorem ggX9_count_X9_windowsNow : GoodIn wsX9_count wsX9_windowsNow := goodIn_r _ [32, 2, 5, 6, 7, 8, 9, 10, 11, 12, 13, 14, 15, 16, 17, 18, 19, 20, 21, 22, 23, 24, 25, 26, 27, 28, 33, 34, 35, 36, 37, 38, 51, 52, 53, 54, 55, 56, 57, 58, 59, 69, 70, 71, 72, 73, 74, 75, 76, 77, 78, 60, 61, 62, 63, 64, 65, 66, 67, 68] (by decide +kernel) (by decide +kernel)
set_option maxRecDepth 20000 in
theorem gX9_count_X9_windowsNow : GoodIn wsX9_count (wsV RX9 189 RX9 yX9_windowsNow wsX9_windowsNow) := goodIn_app (goodIn_of _ (by decide +kernel)) ggX9_count_X9_windowsNow
set_option maxRecDepth 20000 in
theorem ggX9_count_X7_size : GoodIn wsX9_count wsX7_size := goodIn_r _ [43, 44, 79, 80] (by decide +kernel) (by decide +kernel)
set_option maxRecDepth 20000 in
theorem gX9_count_X7_size : GoodIn wsX9_count (wsV RX9 226 RX7 yX7_size wsX7_size) := goodIn_app (goodIn_of _ (by decide +kernel)) ggX9_count_X7_size
set_option maxRecDepth 20000 in
theorem ggX9_count_X5_size : GoodIn wsX9_count wsX5_size := goodIn_r _ [49, 50, 81, 82] (by decide +kernel) (by decide +kernel)
set_option maxRecDepth 20000 in
theorem gX9_count_X5_size : GoodIn wsX9_count (wsV RX9 166 RX5 yX5_size wsX5_size) := goodIn_app (goodIn_of _ (by decide +kernel)) ggX9_count_X5_size
theorem dX9_count_0 : decode cX9_count 0 = .ok (.iload_n 1, 1) := by decide +kernel
theorem dX9_count_1 : decode cX9_count 1 = .ok (.tableswitch 78 0 5 #[39, 44, 49, 57, 65, 73], 39) := by decide +kernel
theorem dX9_count_40 : decode cX9_count 40 = .ok (.aload_n 0, 1) := by decide +kernel
theorem dX9_count_41 : decode cX9_count 41 = .ok (.invokevirtual 223, 3) := by decide +kernel
theorem dX9_count_44 : decode cX9_count 44 = .ok (.ireturn, 1) := by decide +kernel
theorem dX9_count_45 : decode cX9_count 45 = .ok (.aload_n 0, 1) := by decide +kernel
theorem dX9_count_46 : decode cX9_count 46 = .ok (.invokevirtual 189, 3) := by decide +kernel
theorem dX9_count_49 : decode cX9_count 49 = .ok (.ireturn, 1) := by decide +kernel
theorem dX9_count_50 : decode cX9_count 50 = .ok (.aload_n 0, 1) := by decide +kernel
theorem dX9_count_51 : decode cX9_count 51 = .ok (.getfield 41, 3) := by decide +kernel
theorem dX9_count_54 : decode cX9_count 54 = .ok (.invokevirtual 226, 3) := by decide +kernel
theorem dX9_count_57 : decode cX9_count 57 = .ok (.ireturn, 1) := by decide +kernel
theorem dX9_count_58 : decode cX9_count 58 = .ok (.aload_n 0, 1) := by decide +kernel
theorem dX9_count_59 : decode cX9_count 59 = .ok (.getfield 31, 3) := by decide +kernel
theorem dX9_count_62 : decode cX9_count 62 = .ok (.getfield 181, 3) := by decide +kernel
theorem dX9_count_65 : decode cX9_count 65 = .ok (.ireturn, 1) := by decide +kernel
theorem dX9_count_66 : decode cX9_count 66 = .ok (.aload_n 0, 1) := by decide +kernel
theorem dX9_count_67 : decode cX9_count 67 = .ok (.getfield 27, 3) := by decide +kernel
theorem dX9_count_70 : decode cX9_count 70 = .ok (.invokevirtual 166, 3) := by decide +kernel
theorem dX9_count_73 : decode cX9_count 73 = .ok (.ireturn, 1) := by decide +kernel
theorem dX9_count_74 : decode cX9_count 74 = .ok (.aload_n 0, 1) := by decide +kernel
theorem dX9_count_75 : decode cX9_count 75 = .ok (.getfield 56, 3) := by decide +kernel
theorem dX9_count_78 : decode cX9_count 78 = .ok (.ireturn, 1) := by decide +kernel
theorem dX9_count_79 : decode cX9_count 79 = .ok (.iconst (-1), 1) := by decide +kernel
theorem dX9_count_80 : decode cX9_count 80 = .ok (.ireturn, 1) := by decide +kernel
set_option maxRecDepth 20000 in
theorem ggX9_trackIn_X9_within : GoodIn wsX9_trackIn wsX9_within := goodIn_r _ [6] (by decide +kernel) (by decide +kernel)
set_option maxRecDepth 20000 in
theorem gX9_trackIn_X9_within : GoodIn wsX9_trackIn (va_wsS RX9 63 yX9_within wsX9_within) := goodIn_app (goodIn_of _ (by decide +kernel)) ggX9_trackIn_X9_within
set_option maxRecDepth 20000 in
theorem ggX9_trackIn_X9_trackOf : GoodIn wsX9_trackIn wsX9_trackOf := goodIn_ca (goodIn_r _ [10, 1, 2, 11, 12, 13, 14, 15, 16, 17, 18, 19, 20] (by decide +kernel) (by decide +kernel)) (goodIn_sub (fun _ h => List.mem_cons_of_mem _ (List.mem_append_right _ h)) (by decide +kernel))
set_option maxRecDepth 20000 in
theorem gX9_trackIn_X9_trackOf : GoodIn wsX9_trackIn (wsV RX9 110 RX9 yX9_trackOf wsX9_trackOf) := goodIn_app (goodIn_of _ (by decide +kernel)) ggX9_trackIn_X9_trackOf
theorem dX9_trackIn_0 : decode cX9_trackIn 0 = .ok (.iload_n 1, 1) := by decide +kernel
theorem dX9_trackIn_1 : decode cX9_trackIn 1 = .ok (.iconst 0, 1) := by decide +kernel
theorem dX9_trackIn_2 : decode cX9_trackIn 2 = .ok (.iconst 1, 1) := by decide +kernel
theorem dX9_trackIn_3 : decode cX9_trackIn 3 = .ok (.invokestatic 63, 3) := by decide +kernel
theorem dX9_trackIn_6 : decode cX9_trackIn 6 = .ok (.ifCond .ne 13, 3) := by decide +kernel
theorem dX9_trackIn_9 : decode cX9_trackIn 9 = .ok (.new 227, 3) := by decide +kernel
theorem dX9_trackIn_12 : decode cX9_trackIn 12 = .ok (.dup, 1) := by decide +kernel
theorem dX9_trackIn_13 : decode cX9_trackIn 13 = .ok (.ldc 229, 2) := by decide +kernel
theorem dX9_trackIn_15 : decode cX9_trackIn 15 = .ok (.invokespecial 231, 3) := by decide +kernel
theorem dX9_trackIn_18 : decode cX9_trackIn 18 = .ok (.athrow, 1) := by decide +kernel
theorem dX9_trackIn_19 : decode cX9_trackIn 19 = .ok (.aload_n 0, 1) := by decide +kernel
theorem dX9_trackIn_20 : decode cX9_trackIn 20 = .ok (.iload_n 2, 1) := by decide +kernel
theorem dX9_trackIn_21 : decode cX9_trackIn 21 = .ok (.invokevirtual 110, 3) := by decide +kernel
theorem dX9_trackIn_24 : decode cX9_trackIn 24 = .ok (.areturn, 1) := by decide +kernel
theorem dX9_trackOf_0 : decode cX9_trackOf 0 = .ok (.iload_n 1, 1) := by decide +kernel
theorem dX9_trackOf_1 : decode cX9_trackOf 1 = .ok (.ifCond .lt 12, 3) := by decide +kernel
theorem dX9_trackOf_4 : decode cX9_trackOf 4 = .ok (.iload_n 1, 1) := by decide +kernel
theorem dX9_trackOf_5 : decode cX9_trackOf 5 = .ok (.aload_n 0, 1) := by decide +kernel
theorem dX9_trackOf_6 : decode cX9_trackOf 6 = .ok (.getfield 11, 3) := by decide +kernel
theorem dX9_trackOf_9 : decode cX9_trackOf 9 = .ok (.arraylength, 1) := by decide +kernel
theorem dX9_trackOf_10 : decode cX9_trackOf 10 = .ok (.if_icmp .lt 13, 3) := by decide +kernel
theorem dX9_trackOf_13 : decode cX9_trackOf 13 = .ok (.new 227, 3) := by decide +kernel
theorem dX9_trackOf_16 : decode cX9_trackOf 16 = .ok (.dup, 1) := by decide +kernel
theorem dX9_trackOf_17 : decode cX9_trackOf 17 = .ok (.ldc 234, 2) := by decide +kernel
theorem dX9_trackOf_19 : decode cX9_trackOf 19 = .ok (.invokespecial 231, 3) := by decide +kernel
theorem dX9_trackOf_22 : decode cX9_trackOf 22 = .ok (.athrow, 1) := by decide +kernel
theorem dX9_trackOf_23 : decode cX9_trackOf 23 = .ok (.aload_n 0, 1) := by decide +kernel
theorem dX9_trackOf_24 : decode cX9_trackOf 24 = .ok (.getfield 11, 3) := by decide +kernel
theorem dX9_trackOf_27 : decode cX9_trackOf 27 = .ok (.iload_n 1, 1) := by decide +kernel
theorem dX9_trackOf_28 : decode cX9_trackOf 28 = .ok (.aaload, 1) := by decide +kernel
theorem dX9_trackOf_29 : decode cX9_trackOf 29 = .ok (.areturn, 1) := by decide +kernel
set_option maxRecDepth 20000 in
theorem ggX9_settled_X9_trackOf : GoodIn wsX9_settled wsX9_trackOf := goodIn_ca (goodIn_r _ [6, 7, 8, 9, 147, 148, 149, 150, 151, 152, 153, 154, 155] (by decide +kernel) (by decide +kernel)) (goodIn_sub (fun _ h => List.mem_cons_of_mem _ (List.mem_append_right _ h)) (by decide +kernel))
set_option maxRecDepth 20000 in
theorem gX9_settled_X9_trackOf : GoodIn wsX9_settled (wsV RX9 110 RX9 yX9_trackOf wsX9_trackOf) := goodIn_app (goodIn_of _ (by decide +kernel)) ggX9_settled_X9_trackOf
set_option maxRecDepth 20000 in
theorem ggX9_settled_X6_settle : GoodIn wsX9_settled wsX6_settle := goodIn_r _ [14, 15, 16, 17, 18, 19, 20, 21, 22, 23, 24, 25, 26, 27, 28, 13, 29, 30, 31, 32, 33, 34, 35, 36, 37, 38, 39, 40, 41, 42, 43, 44, 45, 46, 47, 48, 49, 50, 51, 52, 53, 54, 55, 56, 57, 58, 59, 60, 61, 62, 63, 64, 65, 66, 67, 68, 69, 70, 71, 72, 73, 74, 75, 76, 77, 78, 79, 80, 81, 82, 83, 84, 85, 86, 87, 88, 89, 90, 91, 92, 93, 94, 95, 96, 97, 98, 99, 100, 101, 102, 103, 104, 105, 106, 107, 108, 109, 110, 111, 112, 113, 114, 115, 116, 117, 118, 119, 120, 121, 122, 123, 124, 125, 126, 127, 128, 129, 130, 131, 132, 133, 134, 135, 136, 137, 138, 139, 140, 141, 142, 143, 144, 145, 146, 165, 166, 167, 168, 169, 170, 171, 172, 173, 174, 175, 176, 177, 178, 179, 180, 181, 182, 183, 184, 185, 186, 187, 188, 189, 190, 191, 192, 193] (by decide +kernel) (by decide +kernel)
set_option maxRecDepth 20000 in
theorem gX9_settled_X6_settle : GoodIn wsX9_settled (wsV RX9 239 RX6 yX6_settle wsX6_settle) := goodIn_app (goodIn_of _ (by decide +kernel)) ggX9_settled_X6_settle
theorem dX9_settled_0 : decode cX9_settled 0 = .ok (.aload_n 0, 1) := by decide +kernel
theorem dX9_settled_1 : decode cX9_settled 1 = .ok (.iload_n 1, 1) := by decide +kernel
theorem dX9_settled_2 : decode cX9_settled 2 = .ok (.invokevirtual 110, 3) := by decide +kernel
theorem dX9_settled_5 : decode cX9_settled 5 = .ok (.astore_n 2, 1) := by decide +kernel
theorem dX9_settled_6 : decode cX9_settled 6 = .ok (.aload_n 2, 1) := by decide +kernel
theorem dX9_settled_7 : decode cX9_settled 7 = .ok (.aload_n 0, 1) := by decide +kernel
theorem dX9_settled_8 : decode cX9_settled 8 = .ok (.getfield 31, 3) := by decide +kernel
theorem dX9_settled_11 : decode cX9_settled 11 = .ok (.getfield 236, 3) := by decide +kernel
theorem dX9_settled_14 : decode cX9_settled 14 = .ok (.invokevirtual 239, 3) := by decide +kernel
theorem dX9_settled_17 : decode cX9_settled 17 = .ok (.aload_n 2, 1) := by decide +kernel
theorem dX9_settled_18 : decode cX9_settled 18 = .ok (.areturn, 1) := by decide +kernel
set_option maxRecDepth 20000 in
theorem ggX9_timesNow_X6_times : GoodIn wsX9_timesNow wsX6_times := goodIn_r _ [10, 11, 12, 13, 3, 4, 5, 14, 15, 16, 17, 18, 19, 29, 30, 31, 32, 33, 34, 35, 36, 37, 38] (by decide +kernel) (by decide +kernel)
set_option maxRecDepth 20000 in
theorem gX9_timesNow_X6_times : GoodIn wsX9_timesNow (wsV RX9 242 RX6 yX6_times wsX6_times) := goodIn_app (goodIn_of _ (by decide +kernel)) ggX9_timesNow_X6_times
theorem dX9_timesNow_0 : decode cX9_timesNow 0 = .ok (.iconst 0, 1) := by decide +kernel
theorem dX9_timesNow_1 : decode cX9_timesNow 1 = .ok (.istore_n 1, 1) := by decide +kernel
theorem dX9_timesNow_2 : decode cX9_timesNow 2 = .ok (.iconst 0, 1) := by decide +kernel
theorem dX9_timesNow_3 : decode cX9_timesNow 3 = .ok (.istore_n 2, 1) := by decide +kernel
theorem dX9_timesNow_4 : decode cX9_timesNow 4 = .ok (.iload_n 2, 1) := by decide +kernel
theorem dX9_timesNow_5 : decode cX9_timesNow 5 = .ok (.aload_n 0, 1) := by decide +kernel
theorem dX9_timesNow_6 : decode cX9_timesNow 6 = .ok (.getfield 11, 3) := by decide +kernel
theorem dX9_timesNow_9 : decode cX9_timesNow 9 = .ok (.arraylength, 1) := by decide +kernel
theorem dX9_timesNow_10 : decode cX9_timesNow 10 = .ok (.if_icmp .ge 23, 3) := by decide +kernel
theorem dX9_timesNow_13 : decode cX9_timesNow 13 = .ok (.iload_n 1, 1) := by decide +kernel
theorem dX9_timesNow_14 : decode cX9_timesNow 14 = .ok (.aload_n 0, 1) := by decide +kernel
theorem dX9_timesNow_15 : decode cX9_timesNow 15 = .ok (.getfield 11, 3) := by decide +kernel
theorem dX9_timesNow_18 : decode cX9_timesNow 18 = .ok (.iload_n 2, 1) := by decide +kernel
theorem dX9_timesNow_19 : decode cX9_timesNow 19 = .ok (.aaload, 1) := by decide +kernel
theorem dX9_timesNow_20 : decode cX9_timesNow 20 = .ok (.invokevirtual 242, 3) := by decide +kernel
theorem dX9_timesNow_23 : decode cX9_timesNow 23 = .ok (.invokestatic 245, 3) := by decide +kernel
theorem dX9_timesNow_26 : decode cX9_timesNow 26 = .ok (.istore_n 1, 1) := by decide +kernel
theorem dX9_timesNow_27 : decode cX9_timesNow 27 = .ok (.iinc 2 1, 3) := by decide +kernel
theorem dX9_timesNow_30 : decode cX9_timesNow 30 = .ok (.goto (-26), 3) := by decide +kernel
theorem dX9_timesNow_33 : decode cX9_timesNow 33 = .ok (.iload_n 1, 1) := by decide +kernel
theorem dX9_timesNow_34 : decode cX9_timesNow 34 = .ok (.ireturn, 1) := by decide +kernel
set_option maxRecDepth 20000 in
theorem ggX9_windowsNow_X9_timesNow : GoodIn wsX9_windowsNow wsX9_timesNow := goodIn_r _ [6, 7, 8, 9, 10, 11, 12, 13, 14, 15, 16, 17, 18, 19, 20, 21, 22, 23, 24, 25, 32, 33, 34, 35, 36, 37, 38, 39, 40, 41, 42, 43, 44, 45, 46, 47, 48, 49, 50] (by decide +kernel) (by decide +kernel)
set_option maxRecDepth 20000 in
theorem gX9_windowsNow_X9_timesNow : GoodIn wsX9_windowsNow (wsV RX9 223 RX9 yX9_timesNow wsX9_timesNow) := goodIn_app (goodIn_of _ (by decide +kernel)) ggX9_windowsNow_X9_timesNow
set_option maxRecDepth 20000 in
theorem ggX9_windowsNow_X3_windowsBelow : GoodIn wsX9_windowsNow wsX3_windowsBelow := goodIn_r _ [30, 31, 51, 52, 53, 54, 55, 56, 57, 58, 59] (by decide +kernel) (by decide +kernel)
set_option maxRecDepth 20000 in
theorem gX9_windowsNow_X3_windowsBelow : GoodIn wsX9_windowsNow (wsV RX9 248 RX3 yX3_windowsBelow wsX3_windowsBelow) := goodIn_app (goodIn_of _ (by decide +kernel)) ggX9_windowsNow_X3_windowsBelow
theorem dX9_windowsNow_0 : decode cX9_windowsNow 0 = .ok (.aload_n 0, 1) := by decide +kernel
theorem dX9_windowsNow_1 : decode cX9_windowsNow 1 = .ok (.getfield 31, 3) := by decide +kernel
theorem dX9_windowsNow_4 : decode cX9_windowsNow 4 = .ok (.aload_n 0, 1) := by decide +kernel
theorem dX9_windowsNow_5 : decode cX9_windowsNow 5 = .ok (.invokevirtual 223, 3) := by decide +kernel
theorem dX9_windowsNow_8 : decode cX9_windowsNow 8 = .ok (.invokevirtual 248, 3) := by decide +kernel
theorem dX9_windowsNow_11 : decode cX9_windowsNow 11 = .ok (.ireturn, 1) := by decide +kernel
set_option maxRecDepth 20000 in
theorem ggX9_layWindows_X9_windowsNow : GoodIn wsX9_layWindows wsX9_windowsNow := goodIn_r _ [9, 3, 10, 11, 12, 8, 13, 2, 14, 15, 16, 17, 18, 19, 20, 21, 22, 23, 24, 25, 26, 27, 28, 29, 30, 31, 32, 33, 34, 35, 36, 37, 210, 211, 212, 213, 214, 215, 216, 217, 218, 219, 220, 221, 222, 223, 224, 225, 226, 227, 228, 229, 230, 231, 232, 233, 234, 235, 236, 237] (by decide +kernel) (by decide +kernel)
set_option maxRecDepth 20000 in
theorem gX9_layWindows_X9_windowsNow : GoodIn wsX9_layWindows (wsV RX9 189 RX9 yX9_windowsNow wsX9_windowsNow) := goodIn_app (goodIn_of _ (by decide +kernel)) ggX9_layWindows_X9_windowsNow
set_option maxRecDepth 20000 in
theorem ggX9_layWindows_X8_clear : GoodIn wsX9_layWindows wsX8_clear := goodIn_r _ [42, 43, 44, 16, 45, 46, 15, 17, 47, 48, 49, 50, 51, 52, 238, 239] (by decide +kernel) (by decide +kernel)
set_option maxRecDepth 20000 in
theorem gX9_layWindows_X8_clear : GoodIn wsX9_layWindows (wsV RX9 251 RX8 yX8_clear wsX8_clear) := goodIn_app (goodIn_of _ (by decide +kernel)) ggX9_layWindows_X8_clear
set_option maxRecDepth 20000 in
theorem ggX9_layWindows_X9_settled : GoodIn wsX9_layWindows wsX9_settled := goodIn_ca (goodIn_r _ [56, 3, 57, 58, 59, 8, 60, 61, 62, 2, 63, 64, 65, 21, 66, 67, 68, 44, 16, 45, 69, 23, 24, 70, 71, 72, 73, 19, 20, 22, 25, 15, 17, 26, 27, 28, 29, 30, 31, 74, 75, 76, 77, 78, 79, 80, 81, 82, 83, 84, 85, 86, 87, 88, 89, 90, 91, 92, 93, 94, 95, 96, 97, 98, 99, 100, 101, 102, 103, 104, 105, 106, 107, 108, 109, 110, 111, 112, 113, 114, 115, 116, 117, 118, 119, 120, 121, 122, 123, 124, 125, 126, 127, 128, 129, 130, 131, 132, 133, 134, 135, 136, 137, 138, 139, 140, 141, 142, 143, 144, 145, 146, 147, 148, 149, 150, 151, 152, 153, 154, 155, 156, 157, 158, 159, 160, 161, 162, 163, 164, 165, 166, 167, 168, 169, 170, 171, 172, 173, 174, 175, 176, 177, 178, 179, 180, 181, 210, 211, 212, 213, 214, 215, 216, 217, 218, 229, 230, 231, 232, 233, 234, 235, 236, 237, 219, 220, 221, 222, 223, 224, 225, 226, 227, 228, 240, 241, 242, 243, 244, 245, 246, 247, 248, 249, 250, 251, 252, 253, 254, 255, 256, 257, 258] (by decide +kernel) (by decide +kernel)) (goodIn_sub (fun _ h => List.mem_cons_of_mem _ (List.mem_append_right _ h)) (by decide +kernel))
set_option maxRecDepth 20000 in
theorem gX9_layWindows_X9_settled : GoodIn wsX9_layWindows (wsV RX9 103 RX9 yX9_settled wsX9_settled) := goodIn_app (goodIn_of _ (by decide +kernel)) ggX9_layWindows_X9_settled
set_option maxRecDepth 20000 in
theorem ggX9_layWindows_X8_takeRanges : GoodIn wsX9_layWindows wsX8_takeRanges := goodIn_r _ [185, 47, 48, 46, 15, 16, 17, 186, 187, 188, 21, 189, 69, 68, 44, 45, 25, 190, 191, 192, 193, 72, 194, 195, 196, 197, 198, 199, 238, 239, 229, 230, 231, 232, 233, 234, 235, 236, 237, 219, 220, 221, 222, 223, 224, 225, 226, 259, 260] (by decide +kernel) (by decide +kernel)
set_option maxRecDepth 20000 in
theorem gX9_layWindows_X8_takeRanges : GoodIn wsX9_layWindows (wsV RX9 254 RX8 yX8_takeRanges wsX8_takeRanges) := goodIn_app (goodIn_of _ (by decide +kernel)) ggX9_layWindows_X8_takeRanges
set_option maxRecDepth 20000 in
theorem ggX9_layWindows_X8_turnRangesToIndices : GoodIn wsX9_layWindows wsX8_turnRangesToIndices := goodIn_r _ [203, 47, 48, 204, 205, 206, 35, 207, 208, 209, 238, 239, 229, 230, 231, 232, 233, 234, 235, 236, 237] (by decide +kernel) (by decide +kernel)
set_option maxRecDepth 20000 in
theorem gX9_layWindows_X8_turnRangesToIndices : GoodIn wsX9_layWindows (wsV RX9 258 RX8 yX8_turnRangesToIndices wsX8_turnRangesToIndices) := goodIn_app (goodIn_of _ (by decide +kernel)) ggX9_layWindows_X8_turnRangesToIndices
theorem dX9_layWindows_0 : decode cX9_layWindows 0 = .ok (.aload_n 0, 1) := by decide +kernel
theorem dX9_layWindows_1 : decode cX9_layWindows 1 = .ok (.getfield 48, 3) := by decide +kernel
theorem dX9_layWindows_4 : decode cX9_layWindows 4 = .ok (.aload_n 0, 1) := by decide +kernel
theorem dX9_layWindows_5 : decode cX9_layWindows 5 = .ok (.invokevirtual 189, 3) := by decide +kernel
theorem dX9_layWindows_8 : decode cX9_layWindows 8 = .ok (.invokevirtual 251, 3) := by decide +kernel
theorem dX9_layWindows_11 : decode cX9_layWindows 11 = .ok (.iconst 0, 1) := by decide +kernel
theorem dX9_layWindows_12 : decode cX9_layWindows 12 = .ok (.istore_n 1, 1) := by decide +kernel
theorem dX9_layWindows_13 : decode cX9_layWindows 13 = .ok (.iload_n 1, 1) := by decide +kernel
theorem dX9_layWindows_14 : decode cX9_layWindows 14 = .ok (.aload_n 0, 1) := by decide +kernel
theorem dX9_layWindows_15 : decode cX9_layWindows 15 = .ok (.getfield 11, 3) := by decide +kernel
theorem dX9_layWindows_18 : decode cX9_layWindows 18 = .ok (.arraylength, 1) := by decide +kernel
theorem dX9_layWindows_19 : decode cX9_layWindows 19 = .ok (.if_icmp .ge 29, 3) := by decide +kernel
theorem dX9_layWindows_22 : decode cX9_layWindows 22 = .ok (.aload_n 0, 1) := by decide +kernel
theorem dX9_layWindows_23 : decode cX9_layWindows 23 = .ok (.getfield 48, 3) := by decide +kernel
theorem dX9_layWindows_26 : decode cX9_layWindows 26 = .ok (.aload_n 0, 1) := by decide +kernel
theorem dX9_layWindows_27 : decode cX9_layWindows 27 = .ok (.iload_n 1, 1) := by decide +kernel
theorem dX9_layWindows_28 : decode cX9_layWindows 28 = .ok (.invokevirtual 103, 3) := by decide +kernel
theorem dX9_layWindows_31 : decode cX9_layWindows 31 = .ok (.aload_n 0, 1) := by decide +kernel
theorem dX9_layWindows_32 : decode cX9_layWindows 32 = .ok (.getfield 31, 3) := by decide +kernel
theorem dX9_layWindows_35 : decode cX9_layWindows 35 = .ok (.aload_n 0, 1) := by decide +kernel
theorem dX9_layWindows_36 : decode cX9_layWindows 36 = .ok (.getfield 41, 3) := by decide +kernel
theorem dX9_layWindows_39 : decode cX9_layWindows 39 = .ok (.invokevirtual 254, 3) := by decide +kernel
theorem dX9_layWindows_42 : decode cX9_layWindows 42 = .ok (.iinc 1 1, 3) := by decide +kernel
theorem dX9_layWindows_45 : decode cX9_layWindows 45 = .ok (.goto (-32), 3) := by decide +kernel
theorem dX9_layWindows_48 : decode cX9_layWindows 48 = .ok (.aload_n 0, 1) := by decide +kernel
theorem dX9_layWindows_49 : decode cX9_layWindows 49 = .ok (.getfield 48, 3) := by decide +kernel
theorem dX9_layWindows_52 : decode cX9_layWindows 52 = .ok (.aload_n 0, 1) := by decide +kernel
theorem dX9_layWindows_53 : decode cX9_layWindows 53 = .ok (.getfield 31, 3) := by decide +kernel
theorem dX9_layWindows_56 : decode cX9_layWindows 56 = .ok (.invokevirtual 258, 3) := by decide +kernel
theorem dX9_layWindows_59 : decode cX9_layWindows 59 = .ok (.return_, 1) := by decide +kernel
theorem dX9_demand_0 : decode cX9_demand 0 = .ok (.iload_n 0, 1) := by decide +kernel
theorem dX9_demand_1 : decode cX9_demand 1 = .ok (.ifCond .ne 14, 3) := by decide +kernel
theorem dX9_demand_4 : decode cX9_demand 4 = .ok (.new 261, 3) := by decide +kernel
theorem dX9_demand_7 : decode cX9_demand 7 = .ok (.dup, 1) := by decide +kernel
theorem dX9_demand_8 : decode cX9_demand 8 = .ok (.ldc_w 263, 3) := by decide +kernel
theorem dX9_demand_11 : decode cX9_demand 11 = .ok (.invokespecial 265, 3) := by decide +kernel
theorem dX9_demand_14 : decode cX9_demand 14 = .ok (.athrow, 1) := by decide +kernel
theorem dX9_demand_15 : decode cX9_demand 15 = .ok (.return_, 1) := by decide +kernel
