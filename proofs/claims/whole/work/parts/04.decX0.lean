theorem dX0_init_0 : decode cX0_init 0 = .ok (.aload_n 0, 1) := by decide +kernel
theorem dX0_init_1 : decode cX0_init 1 = .ok (.invokespecial 3, 3) := by decide +kernel
theorem dX0_init_4 : decode cX0_init 4 = .ok (.aload_n 0, 1) := by decide +kernel
theorem dX0_init_5 : decode cX0_init 5 = .ok (.bipush 20, 2) := by decide +kernel
theorem dX0_init_7 : decode cX0_init 7 = .ok (.newarray .int, 2) := by decide +kernel
theorem dX0_init_9 : decode cX0_init 9 = .ok (.putfield 9, 3) := by decide +kernel
theorem dX0_init_12 : decode cX0_init 12 = .ok (.aload_n 0, 1) := by decide +kernel
theorem dX0_init_13 : decode cX0_init 13 = .ok (.bipush 20, 2) := by decide +kernel
theorem dX0_init_15 : decode cX0_init 15 = .ok (.newarray .int, 2) := by decide +kernel
theorem dX0_init_17 : decode cX0_init 17 = .ok (.putfield 15, 3) := by decide +kernel
theorem dX0_init_20 : decode cX0_init 20 = .ok (.aload_n 0, 1) := by decide +kernel
theorem dX0_init_21 : decode cX0_init 21 = .ok (.bipush 20, 2) := by decide +kernel
theorem dX0_init_23 : decode cX0_init 23 = .ok (.newarray .int, 2) := by decide +kernel
theorem dX0_init_25 : decode cX0_init 25 = .ok (.putfield 18, 3) := by decide +kernel
theorem dX0_init_28 : decode cX0_init 28 = .ok (.aload_n 0, 1) := by decide +kernel
theorem dX0_init_29 : decode cX0_init 29 = .ok (.bipush 20, 2) := by decide +kernel
theorem dX0_init_31 : decode cX0_init 31 = .ok (.newarray .int, 2) := by decide +kernel
theorem dX0_init_33 : decode cX0_init 33 = .ok (.putfield 21, 3) := by decide +kernel
theorem dX0_init_36 : decode cX0_init 36 = .ok (.aload_n 0, 1) := by decide +kernel
theorem dX0_init_37 : decode cX0_init 37 = .ok (.iconst 0, 1) := by decide +kernel
theorem dX0_init_38 : decode cX0_init 38 = .ok (.putfield 24, 3) := by decide +kernel
theorem dX0_init_41 : decode cX0_init 41 = .ok (.return_, 1) := by decide +kernel
theorem dX0_size_0 : decode cX0_size 0 = .ok (.aload_n 0, 1) := by decide +kernel
theorem dX0_size_1 : decode cX0_size 1 = .ok (.getfield 24, 3) := by decide +kernel
theorem dX0_size_4 : decode cX0_size 4 = .ok (.ireturn, 1) := by decide +kernel
theorem dX0_add_0 : decode cX0_add 0 = .ok (.aload_n 0, 1) := by decide +kernel
theorem dX0_add_1 : decode cX0_add 1 = .ok (.getfield 24, 3) := by decide +kernel
theorem dX0_add_4 : decode cX0_add 4 = .ok (.bipush 20, 2) := by decide +kernel
theorem dX0_add_6 : decode cX0_add 6 = .ok (.if_icmp .lt 5, 3) := by decide +kernel
theorem dX0_add_9 : decode cX0_add 9 = .ok (.iconst (-1), 1) := by decide +kernel
theorem dX0_add_10 : decode cX0_add 10 = .ok (.ireturn, 1) := by decide +kernel
theorem dX0_add_11 : decode cX0_add 11 = .ok (.aload_n 0, 1) := by decide +kernel
theorem dX0_add_12 : decode cX0_add 12 = .ok (.getfield 24, 3) := by decide +kernel
theorem dX0_add_15 : decode cX0_add 15 = .ok (.ifCond .le 21, 3) := by decide +kernel
theorem dX0_add_18 : decode cX0_add 18 = .ok (.aload_n 0, 1) := by decide +kernel
theorem dX0_add_19 : decode cX0_add 19 = .ok (.getfield 9, 3) := by decide +kernel
theorem dX0_add_22 : decode cX0_add 22 = .ok (.aload_n 0, 1) := by decide +kernel
theorem dX0_add_23 : decode cX0_add 23 = .ok (.getfield 24, 3) := by decide +kernel
theorem dX0_add_26 : decode cX0_add 26 = .ok (.iconst 1, 1) := by decide +kernel
theorem dX0_add_27 : decode cX0_add 27 = .ok (.isub, 1) := by decide +kernel
theorem dX0_add_28 : decode cX0_add 28 = .ok (.iaload, 1) := by decide +kernel
theorem dX0_add_29 : decode cX0_add 29 = .ok (.iload_n 1, 1) := by decide +kernel
theorem dX0_add_30 : decode cX0_add 30 = .ok (.if_icmp .lt 6, 3) := by decide +kernel
theorem dX0_add_33 : decode cX0_add 33 = .ok (.bipush (-2), 2) := by decide +kernel
theorem dX0_add_35 : decode cX0_add 35 = .ok (.ireturn, 1) := by decide +kernel
theorem dX0_add_36 : decode cX0_add 36 = .ok (.aload_n 0, 1) := by decide +kernel
theorem dX0_add_37 : decode cX0_add 37 = .ok (.getfield 9, 3) := by decide +kernel
theorem dX0_add_40 : decode cX0_add 40 = .ok (.aload_n 0, 1) := by decide +kernel
theorem dX0_add_41 : decode cX0_add 41 = .ok (.getfield 24, 3) := by decide +kernel
theorem dX0_add_44 : decode cX0_add 44 = .ok (.iload_n 1, 1) := by decide +kernel
theorem dX0_add_45 : decode cX0_add 45 = .ok (.iastore, 1) := by decide +kernel
theorem dX0_add_46 : decode cX0_add 46 = .ok (.aload_n 0, 1) := by decide +kernel
theorem dX0_add_47 : decode cX0_add 47 = .ok (.getfield 15, 3) := by decide +kernel
theorem dX0_add_50 : decode cX0_add 50 = .ok (.aload_n 0, 1) := by decide +kernel
theorem dX0_add_51 : decode cX0_add 51 = .ok (.getfield 24, 3) := by decide +kernel
theorem dX0_add_54 : decode cX0_add 54 = .ok (.iload_n 2, 1) := by decide +kernel
theorem dX0_add_55 : decode cX0_add 55 = .ok (.iastore, 1) := by decide +kernel
theorem dX0_add_56 : decode cX0_add 56 = .ok (.aload_n 0, 1) := by decide +kernel
theorem dX0_add_57 : decode cX0_add 57 = .ok (.getfield 18, 3) := by decide +kernel
theorem dX0_add_60 : decode cX0_add 60 = .ok (.aload_n 0, 1) := by decide +kernel
theorem dX0_add_61 : decode cX0_add 61 = .ok (.getfield 24, 3) := by decide +kernel
theorem dX0_add_64 : decode cX0_add 64 = .ok (.iload_n 3, 1) := by decide +kernel
theorem dX0_add_65 : decode cX0_add 65 = .ok (.iastore, 1) := by decide +kernel
theorem dX0_add_66 : decode cX0_add 66 = .ok (.aload_n 0, 1) := by decide +kernel
theorem dX0_add_67 : decode cX0_add 67 = .ok (.getfield 21, 3) := by decide +kernel
theorem dX0_add_70 : decode cX0_add 70 = .ok (.aload_n 0, 1) := by decide +kernel
theorem dX0_add_71 : decode cX0_add 71 = .ok (.getfield 24, 3) := by decide +kernel
theorem dX0_add_74 : decode cX0_add 74 = .ok (.iload 4, 2) := by decide +kernel
theorem dX0_add_76 : decode cX0_add 76 = .ok (.iastore, 1) := by decide +kernel
theorem dX0_add_77 : decode cX0_add 77 = .ok (.aload_n 0, 1) := by decide +kernel
theorem dX0_add_78 : decode cX0_add 78 = .ok (.dup, 1) := by decide +kernel
theorem dX0_add_79 : decode cX0_add 79 = .ok (.getfield 24, 3) := by decide +kernel
theorem dX0_add_82 : decode cX0_add 82 = .ok (.iconst 1, 1) := by decide +kernel
theorem dX0_add_83 : decode cX0_add 83 = .ok (.iadd, 1) := by decide +kernel
theorem dX0_add_84 : decode cX0_add 84 = .ok (.putfield 24, 3) := by decide +kernel
theorem dX0_add_87 : decode cX0_add 87 = .ok (.aload_n 0, 1) := by decide +kernel
theorem dX0_add_88 : decode cX0_add 88 = .ok (.getfield 24, 3) := by decide +kernel
theorem dX0_add_91 : decode cX0_add 91 = .ok (.iconst 1, 1) := by decide +kernel
theorem dX0_add_92 : decode cX0_add 92 = .ok (.isub, 1) := by decide +kernel
theorem dX0_add_93 : decode cX0_add 93 = .ok (.ireturn, 1) := by decide +kernel
theorem dX0_tell_0 : decode cX0_tell 0 = .ok (.iload_n 1, 1) := by decide +kernel
theorem dX0_tell_1 : decode cX0_tell 1 = .ok (.ifCond .lt 11, 3) := by decide +kernel
theorem dX0_tell_4 : decode cX0_tell 4 = .ok (.iload_n 1, 1) := by decide +kernel
theorem dX0_tell_5 : decode cX0_tell 5 = .ok (.aload_n 0, 1) := by decide +kernel
theorem dX0_tell_6 : decode cX0_tell 6 = .ok (.getfield 24, 3) := by decide +kernel
theorem dX0_tell_9 : decode cX0_tell 9 = .ok (.if_icmp .lt 6, 3) := by decide +kernel
theorem dX0_tell_12 : decode cX0_tell 12 = .ok (.ldc 28, 2) := by decide +kernel
theorem dX0_tell_14 : decode cX0_tell 14 = .ok (.ireturn, 1) := by decide +kernel
theorem dX0_tell_15 : decode cX0_tell 15 = .ok (.iload_n 2, 1) := by decide +kernel
theorem dX0_tell_16 : decode cX0_tell 16 = .ok (.tableswitch 60 0 3 #[32, 39, 46, 53], 32) := by decide +kernel
theorem dX0_tell_48 : decode cX0_tell 48 = .ok (.aload_n 0, 1) := by decide +kernel
theorem dX0_tell_49 : decode cX0_tell 49 = .ok (.getfield 9, 3) := by decide +kernel
theorem dX0_tell_52 : decode cX0_tell 52 = .ok (.iload_n 1, 1) := by decide +kernel
theorem dX0_tell_53 : decode cX0_tell 53 = .ok (.iaload, 1) := by decide +kernel
theorem dX0_tell_54 : decode cX0_tell 54 = .ok (.ireturn, 1) := by decide +kernel
theorem dX0_tell_55 : decode cX0_tell 55 = .ok (.aload_n 0, 1) := by decide +kernel
theorem dX0_tell_56 : decode cX0_tell 56 = .ok (.getfield 15, 3) := by decide +kernel
theorem dX0_tell_59 : decode cX0_tell 59 = .ok (.iload_n 1, 1) := by decide +kernel
theorem dX0_tell_60 : decode cX0_tell 60 = .ok (.iaload, 1) := by decide +kernel
theorem dX0_tell_61 : decode cX0_tell 61 = .ok (.ireturn, 1) := by decide +kernel
theorem dX0_tell_62 : decode cX0_tell 62 = .ok (.aload_n 0, 1) := by decide +kernel
theorem dX0_tell_63 : decode cX0_tell 63 = .ok (.getfield 18, 3) := by decide +kernel
theorem dX0_tell_66 : decode cX0_tell 66 = .ok (.iload_n 1, 1) := by decide +kernel
theorem dX0_tell_67 : decode cX0_tell 67 = .ok (.iaload, 1) := by decide +kernel
theorem dX0_tell_68 : decode cX0_tell 68 = .ok (.ireturn, 1) := by decide +kernel
theorem dX0_tell_69 : decode cX0_tell 69 = .ok (.aload_n 0, 1) := by decide +kernel
theorem dX0_tell_70 : decode cX0_tell 70 = .ok (.getfield 21, 3) := by decide +kernel
theorem dX0_tell_73 : decode cX0_tell 73 = .ok (.iload_n 1, 1) := by decide +kernel
theorem dX0_tell_74 : decode cX0_tell 74 = .ok (.iaload, 1) := by decide +kernel
theorem dX0_tell_75 : decode cX0_tell 75 = .ok (.ireturn, 1) := by decide +kernel
theorem dX0_tell_76 : decode cX0_tell 76 = .ok (.ldc 28, 2) := by decide +kernel
theorem dX0_tell_78 : decode cX0_tell 78 = .ok (.ireturn, 1) := by decide +kernel
theorem dX1_init_0 : decode cX1_init 0 = .ok (.aload_n 0, 1) := by decide +kernel
theorem dX1_init_1 : decode cX1_init 1 = .ok (.invokespecial 3, 3) := by decide +kernel
theorem dX1_init_4 : decode cX1_init 4 = .ok (.aload_n 0, 1) := by decide +kernel
theorem dX1_init_5 : decode cX1_init 5 = .ok (.bipush 20, 2) := by decide +kernel
theorem dX1_init_7 : decode cX1_init 7 = .ok (.newarray .int, 2) := by decide +kernel
theorem dX1_init_9 : decode cX1_init 9 = .ok (.putfield 9, 3) := by decide +kernel
theorem dX1_init_12 : decode cX1_init 12 = .ok (.aload_n 0, 1) := by decide +kernel
theorem dX1_init_13 : decode cX1_init 13 = .ok (.bipush 20, 2) := by decide +kernel
theorem dX1_init_15 : decode cX1_init 15 = .ok (.newarray .int, 2) := by decide +kernel
theorem dX1_init_17 : decode cX1_init 17 = .ok (.putfield 15, 3) := by decide +kernel
theorem dX1_init_20 : decode cX1_init 20 = .ok (.aload_n 0, 1) := by decide +kernel
theorem dX1_init_21 : decode cX1_init 21 = .ok (.bipush 20, 2) := by decide +kernel
theorem dX1_init_23 : decode cX1_init 23 = .ok (.newarray .int, 2) := by decide +kernel
theorem dX1_init_25 : decode cX1_init 25 = .ok (.putfield 18, 3) := by decide +kernel
theorem dX1_init_28 : decode cX1_init 28 = .ok (.aload_n 0, 1) := by decide +kernel
theorem dX1_init_29 : decode cX1_init 29 = .ok (.bipush 20, 2) := by decide +kernel
theorem dX1_init_31 : decode cX1_init 31 = .ok (.newarray .int, 2) := by decide +kernel
theorem dX1_init_33 : decode cX1_init 33 = .ok (.putfield 21, 3) := by decide +kernel
theorem dX1_init_36 : decode cX1_init 36 = .ok (.aload_n 0, 1) := by decide +kernel
theorem dX1_init_37 : decode cX1_init 37 = .ok (.bipush 20, 2) := by decide +kernel
theorem dX1_init_39 : decode cX1_init 39 = .ok (.newarray .int, 2) := by decide +kernel
theorem dX1_init_41 : decode cX1_init 41 = .ok (.putfield 24, 3) := by decide +kernel
theorem dX1_init_44 : decode cX1_init 44 = .ok (.aload_n 0, 1) := by decide +kernel
theorem dX1_init_45 : decode cX1_init 45 = .ok (.bipush 20, 2) := by decide +kernel
theorem dX1_init_47 : decode cX1_init 47 = .ok (.newarray .int, 2) := by decide +kernel
theorem dX1_init_49 : decode cX1_init 49 = .ok (.putfield 27, 3) := by decide +kernel
theorem dX1_init_52 : decode cX1_init 52 = .ok (.aload_n 0, 1) := by decide +kernel
theorem dX1_init_53 : decode cX1_init 53 = .ok (.bipush 20, 2) := by decide +kernel
theorem dX1_init_55 : decode cX1_init 55 = .ok (.newarray .int, 2) := by decide +kernel
theorem dX1_init_57 : decode cX1_init 57 = .ok (.putfield 30, 3) := by decide +kernel
theorem dX1_init_60 : decode cX1_init 60 = .ok (.aload_n 0, 1) := by decide +kernel
theorem dX1_init_61 : decode cX1_init 61 = .ok (.bipush 20, 2) := by decide +kernel
theorem dX1_init_63 : decode cX1_init 63 = .ok (.newarray .long, 2) := by decide +kernel
theorem dX1_init_65 : decode cX1_init 65 = .ok (.putfield 33, 3) := by decide +kernel
theorem dX1_init_68 : decode cX1_init 68 = .ok (.aload_n 0, 1) := by decide +kernel
theorem dX1_init_69 : decode cX1_init 69 = .ok (.iconst 0, 1) := by decide +kernel
theorem dX1_init_70 : decode cX1_init 70 = .ok (.putfield 37, 3) := by decide +kernel
theorem dX1_init_73 : decode cX1_init 73 = .ok (.aload_n 0, 1) := by decide +kernel
theorem dX1_init_74 : decode cX1_init 74 = .ok (.iconst 0, 1) := by decide +kernel
theorem dX1_init_75 : decode cX1_init 75 = .ok (.putfield 41, 3) := by decide +kernel
theorem dX1_init_78 : decode cX1_init 78 = .ok (.return_, 1) := by decide +kernel
theorem dX1_size_0 : decode cX1_size 0 = .ok (.aload_n 0, 1) := by decide +kernel
theorem dX1_size_1 : decode cX1_size 1 = .ok (.getfield 41, 3) := by decide +kernel
theorem dX1_size_4 : decode cX1_size 4 = .ok (.ireturn, 1) := by decide +kernel
theorem dX1_clear_0 : decode cX1_clear 0 = .ok (.aload_n 0, 1) := by decide +kernel
theorem dX1_clear_1 : decode cX1_clear 1 = .ok (.iconst 0, 1) := by decide +kernel
theorem dX1_clear_2 : decode cX1_clear 2 = .ok (.putfield 37, 3) := by decide +kernel
theorem dX1_clear_5 : decode cX1_clear 5 = .ok (.aload_n 0, 1) := by decide +kernel
theorem dX1_clear_6 : decode cX1_clear 6 = .ok (.iconst 0, 1) := by decide +kernel
theorem dX1_clear_7 : decode cX1_clear 7 = .ok (.putfield 41, 3) := by decide +kernel
theorem dX1_clear_10 : decode cX1_clear 10 = .ok (.return_, 1) := by decide +kernel
theorem dX1_addPoint_0 : decode cX1_addPoint 0 = .ok (.aload_n 0, 1) := by decide +kernel
theorem dX1_addPoint_1 : decode cX1_addPoint 1 = .ok (.getfield 37, 3) := by decide +kernel
theorem dX1_addPoint_4 : decode cX1_addPoint 4 = .ok (.bipush 20, 2) := by decide +kernel
theorem dX1_addPoint_6 : decode cX1_addPoint 6 = .ok (.if_icmp .lt 4, 3) := by decide +kernel
theorem dX1_addPoint_9 : decode cX1_addPoint 9 = .ok (.return_, 1) := by decide +kernel
theorem dX1_addPoint_10 : decode cX1_addPoint 10 = .ok (.aload_n 0, 1) := by decide +kernel
theorem dX1_addPoint_11 : decode cX1_addPoint 11 = .ok (.getfield 9, 3) := by decide +kernel
theorem dX1_addPoint_14 : decode cX1_addPoint 14 = .ok (.aload_n 0, 1) := by decide +kernel
theorem dX1_addPoint_15 : decode cX1_addPoint 15 = .ok (.getfield 37, 3) := by decide +kernel
theorem dX1_addPoint_18 : decode cX1_addPoint 18 = .ok (.iload_n 1, 1) := by decide +kernel
theorem dX1_addPoint_19 : decode cX1_addPoint 19 = .ok (.iastore, 1) := by decide +kernel
theorem dX1_addPoint_20 : decode cX1_addPoint 20 = .ok (.aload_n 0, 1) := by decide +kernel
theorem dX1_addPoint_21 : decode cX1_addPoint 21 = .ok (.getfield 15, 3) := by decide +kernel
theorem dX1_addPoint_24 : decode cX1_addPoint 24 = .ok (.aload_n 0, 1) := by decide +kernel
theorem dX1_addPoint_25 : decode cX1_addPoint 25 = .ok (.getfield 37, 3) := by decide +kernel
theorem dX1_addPoint_28 : decode cX1_addPoint 28 = .ok (.iload_n 2, 1) := by decide +kernel
theorem dX1_addPoint_29 : decode cX1_addPoint 29 = .ok (.iload_n 3, 1) := by decide +kernel
theorem dX1_addPoint_30 : decode cX1_addPoint 30 = .ok (.isub, 1) := by decide +kernel
theorem dX1_addPoint_31 : decode cX1_addPoint 31 = .ok (.iastore, 1) := by decide +kernel
theorem dX1_addPoint_32 : decode cX1_addPoint 32 = .ok (.aload_n 0, 1) := by decide +kernel
theorem dX1_addPoint_33 : decode cX1_addPoint 33 = .ok (.getfield 18, 3) := by decide +kernel
theorem dX1_addPoint_36 : decode cX1_addPoint 36 = .ok (.aload_n 0, 1) := by decide +kernel
theorem dX1_addPoint_37 : decode cX1_addPoint 37 = .ok (.getfield 37, 3) := by decide +kernel
theorem dX1_addPoint_40 : decode cX1_addPoint 40 = .ok (.iload_n 2, 1) := by decide +kernel
theorem dX1_addPoint_41 : decode cX1_addPoint 41 = .ok (.iload_n 3, 1) := by decide +kernel
theorem dX1_addPoint_42 : decode cX1_addPoint 42 = .ok (.iadd, 1) := by decide +kernel
theorem dX1_addPoint_43 : decode cX1_addPoint 43 = .ok (.iastore, 1) := by decide +kernel
theorem dX1_addPoint_44 : decode cX1_addPoint 44 = .ok (.aload_n 0, 1) := by decide +kernel
theorem dX1_addPoint_45 : decode cX1_addPoint 45 = .ok (.dup, 1) := by decide +kernel
theorem dX1_addPoint_46 : decode cX1_addPoint 46 = .ok (.getfield 37, 3) := by decide +kernel
theorem dX1_addPoint_49 : decode cX1_addPoint 49 = .ok (.iconst 1, 1) := by decide +kernel
theorem dX1_addPoint_50 : decode cX1_addPoint 50 = .ok (.iadd, 1) := by decide +kernel
theorem dX1_addPoint_51 : decode cX1_addPoint 51 = .ok (.putfield 37, 3) := by decide +kernel
theorem dX1_addPoint_54 : decode cX1_addPoint 54 = .ok (.return_, 1) := by decide +kernel
set_option maxRecDepth 20000 in
theorem ggX1_lay_X1_fits : GoodIn wsX1_lay wsX1_fits := goodIn_r _ [6, 7, 8, 9, 10, 11, 12, 13, 41, 42, 43, 44, 45, 46, 47, 48, 49, 50, 51, 52, 53, 54] (by decide +kernel) (by decide +kernel)
set_option maxRecDepth 20000 in
theorem gX1_lay_X1_fits : GoodIn wsX1_lay (wsV RX1 44 RX1 yX1_fits wsX1_fits) := goodIn_app (goodIn_of _ (by decide +kernel)) ggX1_lay_X1_fits
set_option maxRecDepth 20000 in
theorem ggX1_lay_X1_keepPiece : GoodIn wsX1_lay wsX1_keepPiece := goodIn_r _ [17, 11, 10, 13, 12, 18, 19, 20, 21, 22, 7, 23, 24, 25, 26, 27, 2, 3, 4, 5, 6, 8, 9, 28, 29, 30, 31, 32, 33, 34, 35, 36, 37, 38, 39, 40, 41, 42, 43, 44, 45, 46, 47, 48, 49, 50, 51, 52, 53, 54] (by decide +kernel) (by decide +kernel)
set_option maxRecDepth 20000 in
theorem gX1_lay_X1_keepPiece : GoodIn wsX1_lay (wsV RX1 48 RX1 yX1_keepPiece wsX1_keepPiece) := goodIn_app (goodIn_of _ (by decide +kernel)) ggX1_lay_X1_keepPiece
theorem dX1_lay_0 : decode cX1_lay 0 = .ok (.iconst 0, 1) := by decide +kernel
theorem dX1_lay_1 : decode cX1_lay 1 = .ok (.istore_n 1, 1) := by decide +kernel
theorem dX1_lay_2 : decode cX1_lay 2 = .ok (.iconst 0, 1) := by decide +kernel
theorem dX1_lay_3 : decode cX1_lay 3 = .ok (.istore_n 2, 1) := by decide +kernel
theorem dX1_lay_4 : decode cX1_lay 4 = .ok (.iload_n 2, 1) := by decide +kernel
theorem dX1_lay_5 : decode cX1_lay 5 = .ok (.bipush 20, 2) := by decide +kernel
theorem dX1_lay_7 : decode cX1_lay 7 = .ok (.if_icmp .ge 55, 3) := by decide +kernel
theorem dX1_lay_10 : decode cX1_lay 10 = .ok (.iload_n 1, 1) := by decide +kernel
theorem dX1_lay_11 : decode cX1_lay 11 = .ok (.aload_n 0, 1) := by decide +kernel
theorem dX1_lay_12 : decode cX1_lay 12 = .ok (.getfield 37, 3) := by decide +kernel
theorem dX1_lay_15 : decode cX1_lay 15 = .ok (.if_icmp .ge 47, 3) := by decide +kernel
theorem dX1_lay_18 : decode cX1_lay 18 = .ok (.iload_n 1, 1) := by decide +kernel
theorem dX1_lay_19 : decode cX1_lay 19 = .ok (.iconst 1, 1) := by decide +kernel
theorem dX1_lay_20 : decode cX1_lay 20 = .ok (.iadd, 1) := by decide +kernel
theorem dX1_lay_21 : decode cX1_lay 21 = .ok (.istore_n 3, 1) := by decide +kernel
theorem dX1_lay_22 : decode cX1_lay 22 = .ok (.iload_n 3, 1) := by decide +kernel
theorem dX1_lay_23 : decode cX1_lay 23 = .ok (.aload_n 0, 1) := by decide +kernel
theorem dX1_lay_24 : decode cX1_lay 24 = .ok (.getfield 37, 3) := by decide +kernel
theorem dX1_lay_27 : decode cX1_lay 27 = .ok (.if_icmp .ge 20, 3) := by decide +kernel
theorem dX1_lay_30 : decode cX1_lay 30 = .ok (.aload_n 0, 1) := by decide +kernel
theorem dX1_lay_31 : decode cX1_lay 31 = .ok (.iload_n 1, 1) := by decide +kernel
theorem dX1_lay_32 : decode cX1_lay 32 = .ok (.iload_n 3, 1) := by decide +kernel
theorem dX1_lay_33 : decode cX1_lay 33 = .ok (.iconst 1, 1) := by decide +kernel
theorem dX1_lay_34 : decode cX1_lay 34 = .ok (.iadd, 1) := by decide +kernel
theorem dX1_lay_35 : decode cX1_lay 35 = .ok (.invokevirtual 44, 3) := by decide +kernel
theorem dX1_lay_38 : decode cX1_lay 38 = .ok (.ifCond .eq 9, 3) := by decide +kernel
theorem dX1_lay_41 : decode cX1_lay 41 = .ok (.iinc 3 1, 3) := by decide +kernel
theorem dX1_lay_44 : decode cX1_lay 44 = .ok (.goto (-22), 3) := by decide +kernel
theorem dX1_lay_47 : decode cX1_lay 47 = .ok (.aload_n 0, 1) := by decide +kernel
theorem dX1_lay_48 : decode cX1_lay 48 = .ok (.iload_n 2, 1) := by decide +kernel
theorem dX1_lay_49 : decode cX1_lay 49 = .ok (.iload_n 1, 1) := by decide +kernel
theorem dX1_lay_50 : decode cX1_lay 50 = .ok (.iload_n 3, 1) := by decide +kernel
theorem dX1_lay_51 : decode cX1_lay 51 = .ok (.invokevirtual 48, 3) := by decide +kernel
theorem dX1_lay_54 : decode cX1_lay 54 = .ok (.iload_n 3, 1) := by decide +kernel
theorem dX1_lay_55 : decode cX1_lay 55 = .ok (.istore_n 1, 1) := by decide +kernel
theorem dX1_lay_56 : decode cX1_lay 56 = .ok (.iinc 2 1, 3) := by decide +kernel
theorem dX1_lay_59 : decode cX1_lay 59 = .ok (.goto (-55), 3) := by decide +kernel
theorem dX1_lay_62 : decode cX1_lay 62 = .ok (.return_, 1) := by decide +kernel
theorem dX1_fits_0 : decode cX1_fits 0 = .ok (.iconst 0, 1) := by decide +kernel
theorem dX1_fits_1 : decode cX1_fits 1 = .ok (.istore_n 3, 1) := by decide +kernel
theorem dX1_fits_2 : decode cX1_fits 2 = .ok (.iload_n 1, 1) := by decide +kernel
theorem dX1_fits_3 : decode cX1_fits 3 = .ok (.istore 4, 2) := by decide +kernel
theorem dX1_fits_5 : decode cX1_fits 5 = .ok (.iload 4, 2) := by decide +kernel
theorem dX1_fits_7 : decode cX1_fits 7 = .ok (.iload_n 2, 1) := by decide +kernel
theorem dX1_fits_8 : decode cX1_fits 8 = .ok (.if_icmp .ge 151, 3) := by decide +kernel
theorem dX1_fits_11 : decode cX1_fits 11 = .ok (.iload 4, 2) := by decide +kernel
theorem dX1_fits_13 : decode cX1_fits 13 = .ok (.iconst 1, 1) := by decide +kernel
theorem dX1_fits_14 : decode cX1_fits 14 = .ok (.iadd, 1) := by decide +kernel
theorem dX1_fits_15 : decode cX1_fits 15 = .ok (.istore 5, 2) := by decide +kernel
theorem dX1_fits_17 : decode cX1_fits 17 = .ok (.iload 5, 2) := by decide +kernel
theorem dX1_fits_19 : decode cX1_fits 19 = .ok (.iload_n 2, 1) := by decide +kernel
theorem dX1_fits_20 : decode cX1_fits 20 = .ok (.if_icmp .ge 133, 3) := by decide +kernel
theorem dX1_fits_23 : decode cX1_fits 23 = .ok (.aload_n 0, 1) := by decide +kernel
theorem dX1_fits_24 : decode cX1_fits 24 = .ok (.getfield 9, 3) := by decide +kernel
theorem dX1_fits_27 : decode cX1_fits 27 = .ok (.iload 5, 2) := by decide +kernel
theorem dX1_fits_29 : decode cX1_fits 29 = .ok (.iaload, 1) := by decide +kernel
theorem dX1_fits_30 : decode cX1_fits 30 = .ok (.aload_n 0, 1) := by decide +kernel
theorem dX1_fits_31 : decode cX1_fits 31 = .ok (.getfield 9, 3) := by decide +kernel
theorem dX1_fits_34 : decode cX1_fits 34 = .ok (.iload 4, 2) := by decide +kernel
theorem dX1_fits_36 : decode cX1_fits 36 = .ok (.iaload, 1) := by decide +kernel
theorem dX1_fits_37 : decode cX1_fits 37 = .ok (.isub, 1) := by decide +kernel
theorem dX1_fits_38 : decode cX1_fits 38 = .ok (.i2l, 1) := by decide +kernel
theorem dX1_fits_39 : decode cX1_fits 39 = .ok (.lstore 6, 2) := by decide +kernel
theorem dX1_fits_41 : decode cX1_fits 41 = .ok (.aload_n 0, 1) := by decide +kernel
theorem dX1_fits_42 : decode cX1_fits 42 = .ok (.getfield 15, 3) := by decide +kernel
theorem dX1_fits_45 : decode cX1_fits 45 = .ok (.iload 5, 2) := by decide +kernel
theorem dX1_fits_47 : decode cX1_fits 47 = .ok (.iaload, 1) := by decide +kernel
theorem dX1_fits_48 : decode cX1_fits 48 = .ok (.aload_n 0, 1) := by decide +kernel
theorem dX1_fits_49 : decode cX1_fits 49 = .ok (.getfield 18, 3) := by decide +kernel
theorem dX1_fits_52 : decode cX1_fits 52 = .ok (.iload 4, 2) := by decide +kernel
theorem dX1_fits_54 : decode cX1_fits 54 = .ok (.iaload, 1) := by decide +kernel
theorem dX1_fits_55 : decode cX1_fits 55 = .ok (.isub, 1) := by decide +kernel
theorem dX1_fits_56 : decode cX1_fits 56 = .ok (.i2l, 1) := by decide +kernel
theorem dX1_fits_57 : decode cX1_fits 57 = .ok (.lstore 8, 2) := by decide +kernel
theorem dX1_fits_59 : decode cX1_fits 59 = .ok (.aload_n 0, 1) := by decide +kernel
theorem dX1_fits_60 : decode cX1_fits 60 = .ok (.getfield 18, 3) := by decide +kernel
theorem dX1_fits_63 : decode cX1_fits 63 = .ok (.iload 5, 2) := by decide +kernel
theorem dX1_fits_65 : decode cX1_fits 65 = .ok (.iaload, 1) := by decide +kernel
theorem dX1_fits_66 : decode cX1_fits 66 = .ok (.aload_n 0, 1) := by decide +kernel
theorem dX1_fits_67 : decode cX1_fits 67 = .ok (.getfield 15, 3) := by decide +kernel
theorem dX1_fits_70 : decode cX1_fits 70 = .ok (.iload 4, 2) := by decide +kernel
theorem dX1_fits_72 : decode cX1_fits 72 = .ok (.iaload, 1) := by decide +kernel
theorem dX1_fits_73 : decode cX1_fits 73 = .ok (.isub, 1) := by decide +kernel
theorem dX1_fits_74 : decode cX1_fits 74 = .ok (.i2l, 1) := by decide +kernel
theorem dX1_fits_75 : decode cX1_fits 75 = .ok (.lstore 10, 2) := by decide +kernel
theorem dX1_fits_77 : decode cX1_fits 77 = .ok (.iload_n 3, 1) := by decide +kernel
theorem dX1_fits_78 : decode cX1_fits 78 = .ok (.ifCond .eq 21, 3) := by decide +kernel
theorem dX1_fits_81 : decode cX1_fits 81 = .ok (.lload 8, 2) := by decide +kernel
theorem dX1_fits_83 : decode cX1_fits 83 = .ok (.aload_n 0, 1) := by decide +kernel
theorem dX1_fits_84 : decode cX1_fits 84 = .ok (.getfield 52, 3) := by decide +kernel
theorem dX1_fits_87 : decode cX1_fits 87 = .ok (.lmul, 1) := by decide +kernel
theorem dX1_fits_88 : decode cX1_fits 88 = .ok (.aload_n 0, 1) := by decide +kernel
theorem dX1_fits_89 : decode cX1_fits 89 = .ok (.getfield 56, 3) := by decide +kernel
theorem dX1_fits_92 : decode cX1_fits 92 = .ok (.lload 6, 2) := by decide +kernel
theorem dX1_fits_94 : decode cX1_fits 94 = .ok (.lmul, 1) := by decide +kernel
theorem dX1_fits_95 : decode cX1_fits 95 = .ok (.lcmp, 1) := by decide +kernel
theorem dX1_fits_96 : decode cX1_fits 96 = .ok (.ifCond .le 15, 3) := by decide +kernel
theorem dX1_fits_99 : decode cX1_fits 99 = .ok (.aload_n 0, 1) := by decide +kernel
theorem dX1_fits_100 : decode cX1_fits 100 = .ok (.lload 8, 2) := by decide +kernel
theorem dX1_fits_102 : decode cX1_fits 102 = .ok (.putfield 56, 3) := by decide +kernel
theorem dX1_fits_105 : decode cX1_fits 105 = .ok (.aload_n 0, 1) := by decide +kernel
theorem dX1_fits_106 : decode cX1_fits 106 = .ok (.lload 6, 2) := by decide +kernel
theorem dX1_fits_108 : decode cX1_fits 108 = .ok (.putfield 52, 3) := by decide +kernel
theorem dX1_fits_111 : decode cX1_fits 111 = .ok (.iload_n 3, 1) := by decide +kernel
theorem dX1_fits_112 : decode cX1_fits 112 = .ok (.ifCond .eq 21, 3) := by decide +kernel
theorem dX1_fits_115 : decode cX1_fits 115 = .ok (.lload 10, 2) := by decide +kernel
theorem dX1_fits_117 : decode cX1_fits 117 = .ok (.aload_n 0, 1) := by decide +kernel
theorem dX1_fits_118 : decode cX1_fits 118 = .ok (.getfield 59, 3) := by decide +kernel
theorem dX1_fits_121 : decode cX1_fits 121 = .ok (.lmul, 1) := by decide +kernel
theorem dX1_fits_122 : decode cX1_fits 122 = .ok (.aload_n 0, 1) := by decide +kernel
theorem dX1_fits_123 : decode cX1_fits 123 = .ok (.getfield 62, 3) := by decide +kernel
theorem dX1_fits_126 : decode cX1_fits 126 = .ok (.lload 6, 2) := by decide +kernel
theorem dX1_fits_128 : decode cX1_fits 128 = .ok (.lmul, 1) := by decide +kernel
theorem dX1_fits_129 : decode cX1_fits 129 = .ok (.lcmp, 1) := by decide +kernel
theorem dX1_fits_130 : decode cX1_fits 130 = .ok (.ifCond .ge 15, 3) := by decide +kernel
theorem dX1_fits_133 : decode cX1_fits 133 = .ok (.aload_n 0, 1) := by decide +kernel
theorem dX1_fits_134 : decode cX1_fits 134 = .ok (.lload 10, 2) := by decide +kernel
theorem dX1_fits_136 : decode cX1_fits 136 = .ok (.putfield 62, 3) := by decide +kernel
theorem dX1_fits_139 : decode cX1_fits 139 = .ok (.aload_n 0, 1) := by decide +kernel
theorem dX1_fits_140 : decode cX1_fits 140 = .ok (.lload 6, 2) := by decide +kernel
theorem dX1_fits_142 : decode cX1_fits 142 = .ok (.putfield 59, 3) := by decide +kernel
theorem dX1_fits_145 : decode cX1_fits 145 = .ok (.iconst 1, 1) := by decide +kernel
theorem dX1_fits_146 : decode cX1_fits 146 = .ok (.istore_n 3, 1) := by decide +kernel
theorem dX1_fits_147 : decode cX1_fits 147 = .ok (.iinc 5 1, 3) := by decide +kernel
theorem dX1_fits_150 : decode cX1_fits 150 = .ok (.goto (-133), 3) := by decide +kernel
theorem dX1_fits_153 : decode cX1_fits 153 = .ok (.iinc 4 1, 3) := by decide +kernel
theorem dX1_fits_156 : decode cX1_fits 156 = .ok (.goto (-151), 3) := by decide +kernel
theorem dX1_fits_159 : decode cX1_fits 159 = .ok (.iload_n 3, 1) := by decide +kernel
theorem dX1_fits_160 : decode cX1_fits 160 = .ok (.ifCond .eq 25, 3) := by decide +kernel
theorem dX1_fits_163 : decode cX1_fits 163 = .ok (.aload_n 0, 1) := by decide +kernel
theorem dX1_fits_164 : decode cX1_fits 164 = .ok (.getfield 56, 3) := by decide +kernel
theorem dX1_fits_167 : decode cX1_fits 167 = .ok (.aload_n 0, 1) := by decide +kernel
theorem dX1_fits_168 : decode cX1_fits 168 = .ok (.getfield 59, 3) := by decide +kernel
theorem dX1_fits_171 : decode cX1_fits 171 = .ok (.lmul, 1) := by decide +kernel
theorem dX1_fits_172 : decode cX1_fits 172 = .ok (.aload_n 0, 1) := by decide +kernel
theorem dX1_fits_173 : decode cX1_fits 173 = .ok (.getfield 62, 3) := by decide +kernel
theorem dX1_fits_176 : decode cX1_fits 176 = .ok (.aload_n 0, 1) := by decide +kernel
theorem dX1_fits_177 : decode cX1_fits 177 = .ok (.getfield 52, 3) := by decide +kernel
theorem dX1_fits_180 : decode cX1_fits 180 = .ok (.lmul, 1) := by decide +kernel
theorem dX1_fits_181 : decode cX1_fits 181 = .ok (.lcmp, 1) := by decide +kernel
theorem dX1_fits_182 : decode cX1_fits 182 = .ok (.ifCond .gt 7, 3) := by decide +kernel
theorem dX1_fits_185 : decode cX1_fits 185 = .ok (.iconst 1, 1) := by decide +kernel
theorem dX1_fits_186 : decode cX1_fits 186 = .ok (.goto 4, 3) := by decide +kernel
theorem dX1_fits_189 : decode cX1_fits 189 = .ok (.iconst 0, 1) := by decide +kernel
theorem dX1_fits_190 : decode cX1_fits 190 = .ok (.ireturn, 1) := by decide +kernel
set_option maxRecDepth 20000 in
theorem ggX1_keepPiece_X1_fits : GoodIn wsX1_keepPiece wsX1_fits := goodIn_r _ [20, 10, 21, 22, 2, 1, 4, 3, 36, 37, 38, 39, 40, 41, 42, 43, 44, 45, 46, 47, 48, 49] (by decide +kernel) (by decide +kernel)
set_option maxRecDepth 20000 in
theorem gX1_keepPiece_X1_fits : GoodIn wsX1_keepPiece (wsV RX1 44 RX1 yX1_fits wsX1_fits) := goodIn_app (goodIn_of _ (by decide +kernel)) ggX1_keepPiece_X1_fits
set_option maxRecDepth 20000 in
theorem ggX1_keepPiece_X1_commonDivisor : GoodIn wsX1_keepPiece wsX1_commonDivisor := goodIn_r _ [25] (by decide +kernel) (by decide +kernel)
set_option maxRecDepth 20000 in
theorem gX1_keepPiece_X1_commonDivisor : GoodIn wsX1_keepPiece (va_wsS RX1 71 yX1_commonDivisor wsX1_commonDivisor) := goodIn_app (goodIn_of _ (by decide +kernel)) ggX1_keepPiece_X1_commonDivisor
set_option maxRecDepth 20000 in
theorem ggX1_keepPiece_X1_middleOf : GoodIn wsX1_keepPiece wsX1_middleOf := goodIn_r _ [29, 21, 10, 22, 30, 31, 7, 32, 33, 34, 35, 36, 37, 38, 39, 40, 41, 42, 43, 44, 45, 46, 47, 48, 49] (by decide +kernel) (by decide +kernel)
set_option maxRecDepth 20000 in
theorem gX1_keepPiece_X1_middleOf : GoodIn wsX1_keepPiece (wsV RX1 75 RX1 yX1_middleOf wsX1_middleOf) := goodIn_app (goodIn_of _ (by decide +kernel)) ggX1_keepPiece_X1_middleOf
theorem dX1_keepPiece_0 : decode cX1_keepPiece 0 = .ok (.aload_n 0, 1) := by decide +kernel
theorem dX1_keepPiece_1 : decode cX1_keepPiece 1 = .ok (.iload_n 2, 1) := by decide +kernel
theorem dX1_keepPiece_2 : decode cX1_keepPiece 2 = .ok (.iload_n 3, 1) := by decide +kernel
theorem dX1_keepPiece_3 : decode cX1_keepPiece 3 = .ok (.invokevirtual 44, 3) := by decide +kernel
theorem dX1_keepPiece_6 : decode cX1_keepPiece 6 = .ok (.pop, 1) := by decide +kernel
theorem dX1_keepPiece_7 : decode cX1_keepPiece 7 = .ok (.lconst 0, 1) := by decide +kernel
theorem dX1_keepPiece_8 : decode cX1_keepPiece 8 = .ok (.lstore 4, 2) := by decide +kernel
theorem dX1_keepPiece_10 : decode cX1_keepPiece 10 = .ok (.lconst 1, 1) := by decide +kernel
theorem dX1_keepPiece_11 : decode cX1_keepPiece 11 = .ok (.lstore 6, 2) := by decide +kernel
theorem dX1_keepPiece_13 : decode cX1_keepPiece 13 = .ok (.iload_n 3, 1) := by decide +kernel
theorem dX1_keepPiece_14 : decode cX1_keepPiece 14 = .ok (.iload_n 2, 1) := by decide +kernel
theorem dX1_keepPiece_15 : decode cX1_keepPiece 15 = .ok (.isub, 1) := by decide +kernel
theorem dX1_keepPiece_16 : decode cX1_keepPiece 16 = .ok (.iconst 1, 1) := by decide +kernel
theorem dX1_keepPiece_17 : decode cX1_keepPiece 17 = .ok (.if_icmp .le 27, 3) := by decide +kernel
theorem dX1_keepPiece_20 : decode cX1_keepPiece 20 = .ok (.aload_n 0, 1) := by decide +kernel
theorem dX1_keepPiece_21 : decode cX1_keepPiece 21 = .ok (.getfield 56, 3) := by decide +kernel
theorem dX1_keepPiece_24 : decode cX1_keepPiece 24 = .ok (.lconst 0, 1) := by decide +kernel
theorem dX1_keepPiece_25 : decode cX1_keepPiece 25 = .ok (.lcmp, 1) := by decide +kernel
theorem dX1_keepPiece_26 : decode cX1_keepPiece 26 = .ok (.ifCond .le 18, 3) := by decide +kernel
theorem dX1_keepPiece_29 : decode cX1_keepPiece 29 = .ok (.aload_n 0, 1) := by decide +kernel
theorem dX1_keepPiece_30 : decode cX1_keepPiece 30 = .ok (.getfield 56, 3) := by decide +kernel
theorem dX1_keepPiece_33 : decode cX1_keepPiece 33 = .ok (.lstore 4, 2) := by decide +kernel
theorem dX1_keepPiece_35 : decode cX1_keepPiece 35 = .ok (.aload_n 0, 1) := by decide +kernel
theorem dX1_keepPiece_36 : decode cX1_keepPiece 36 = .ok (.getfield 52, 3) := by decide +kernel
theorem dX1_keepPiece_39 : decode cX1_keepPiece 39 = .ok (.lstore 6, 2) := by decide +kernel
theorem dX1_keepPiece_41 : decode cX1_keepPiece 41 = .ok (.goto 31, 3) := by decide +kernel
theorem dX1_keepPiece_44 : decode cX1_keepPiece 44 = .ok (.iload_n 3, 1) := by decide +kernel
theorem dX1_keepPiece_45 : decode cX1_keepPiece 45 = .ok (.iload_n 2, 1) := by decide +kernel
theorem dX1_keepPiece_46 : decode cX1_keepPiece 46 = .ok (.isub, 1) := by decide +kernel
theorem dX1_keepPiece_47 : decode cX1_keepPiece 47 = .ok (.iconst 1, 1) := by decide +kernel
theorem dX1_keepPiece_48 : decode cX1_keepPiece 48 = .ok (.if_icmp .le 24, 3) := by decide +kernel
theorem dX1_keepPiece_51 : decode cX1_keepPiece 51 = .ok (.aload_n 0, 1) := by decide +kernel
theorem dX1_keepPiece_52 : decode cX1_keepPiece 52 = .ok (.getfield 62, 3) := by decide +kernel
theorem dX1_keepPiece_55 : decode cX1_keepPiece 55 = .ok (.lconst 0, 1) := by decide +kernel
theorem dX1_keepPiece_56 : decode cX1_keepPiece 56 = .ok (.lcmp, 1) := by decide +kernel
theorem dX1_keepPiece_57 : decode cX1_keepPiece 57 = .ok (.ifCond .ge 15, 3) := by decide +kernel
theorem dX1_keepPiece_60 : decode cX1_keepPiece 60 = .ok (.aload_n 0, 1) := by decide +kernel
theorem dX1_keepPiece_61 : decode cX1_keepPiece 61 = .ok (.getfield 62, 3) := by decide +kernel
theorem dX1_keepPiece_64 : decode cX1_keepPiece 64 = .ok (.lstore 4, 2) := by decide +kernel
theorem dX1_keepPiece_66 : decode cX1_keepPiece 66 = .ok (.aload_n 0, 1) := by decide +kernel
theorem dX1_keepPiece_67 : decode cX1_keepPiece 67 = .ok (.getfield 59, 3) := by decide +kernel
theorem dX1_keepPiece_70 : decode cX1_keepPiece 70 = .ok (.lstore 6, 2) := by decide +kernel
theorem dX1_keepPiece_72 : decode cX1_keepPiece 72 = .ok (.lload 4, 2) := by decide +kernel
theorem dX1_keepPiece_74 : decode cX1_keepPiece 74 = .ok (.invokestatic 65, 3) := by decide +kernel
theorem dX1_keepPiece_77 : decode cX1_keepPiece 77 = .ok (.lload 6, 2) := by decide +kernel
theorem dX1_keepPiece_79 : decode cX1_keepPiece 79 = .ok (.invokestatic 71, 3) := by decide +kernel
theorem dX1_keepPiece_82 : decode cX1_keepPiece 82 = .ok (.lstore 8, 2) := by decide +kernel
theorem dX1_keepPiece_84 : decode cX1_keepPiece 84 = .ok (.lload 8, 2) := by decide +kernel
theorem dX1_keepPiece_86 : decode cX1_keepPiece 86 = .ok (.lconst 1, 1) := by decide +kernel
theorem dX1_keepPiece_87 : decode cX1_keepPiece 87 = .ok (.lcmp, 1) := by decide +kernel
theorem dX1_keepPiece_88 : decode cX1_keepPiece 88 = .ok (.ifCond .le 17, 3) := by decide +kernel
theorem dX1_keepPiece_91 : decode cX1_keepPiece 91 = .ok (.lload 4, 2) := by decide +kernel
theorem dX1_keepPiece_93 : decode cX1_keepPiece 93 = .ok (.lload 8, 2) := by decide +kernel
theorem dX1_keepPiece_95 : decode cX1_keepPiece 95 = .ok (.ldiv, 1) := by decide +kernel
theorem dX1_keepPiece_96 : decode cX1_keepPiece 96 = .ok (.lstore 4, 2) := by decide +kernel
theorem dX1_keepPiece_98 : decode cX1_keepPiece 98 = .ok (.lload 6, 2) := by decide +kernel
theorem dX1_keepPiece_100 : decode cX1_keepPiece 100 = .ok (.lload 8, 2) := by decide +kernel
theorem dX1_keepPiece_102 : decode cX1_keepPiece 102 = .ok (.ldiv, 1) := by decide +kernel
theorem dX1_keepPiece_103 : decode cX1_keepPiece 103 = .ok (.lstore 6, 2) := by decide +kernel
theorem dX1_keepPiece_105 : decode cX1_keepPiece 105 = .ok (.aload_n 0, 1) := by decide +kernel
theorem dX1_keepPiece_106 : decode cX1_keepPiece 106 = .ok (.getfield 21, 3) := by decide +kernel
theorem dX1_keepPiece_109 : decode cX1_keepPiece 109 = .ok (.iload_n 1, 1) := by decide +kernel
theorem dX1_keepPiece_110 : decode cX1_keepPiece 110 = .ok (.aload_n 0, 1) := by decide +kernel
theorem dX1_keepPiece_111 : decode cX1_keepPiece 111 = .ok (.getfield 9, 3) := by decide +kernel
theorem dX1_keepPiece_114 : decode cX1_keepPiece 114 = .ok (.iload_n 2, 1) := by decide +kernel
theorem dX1_keepPiece_115 : decode cX1_keepPiece 115 = .ok (.iaload, 1) := by decide +kernel
theorem dX1_keepPiece_116 : decode cX1_keepPiece 116 = .ok (.iastore, 1) := by decide +kernel
theorem dX1_keepPiece_117 : decode cX1_keepPiece 117 = .ok (.aload_n 0, 1) := by decide +kernel
theorem dX1_keepPiece_118 : decode cX1_keepPiece 118 = .ok (.getfield 24, 3) := by decide +kernel
theorem dX1_keepPiece_121 : decode cX1_keepPiece 121 = .ok (.iload_n 1, 1) := by decide +kernel
theorem dX1_keepPiece_122 : decode cX1_keepPiece 122 = .ok (.iload_n 3, 1) := by decide +kernel
theorem dX1_keepPiece_123 : decode cX1_keepPiece 123 = .ok (.iload_n 2, 1) := by decide +kernel
theorem dX1_keepPiece_124 : decode cX1_keepPiece 124 = .ok (.isub, 1) := by decide +kernel
theorem dX1_keepPiece_125 : decode cX1_keepPiece 125 = .ok (.iastore, 1) := by decide +kernel
theorem dX1_keepPiece_126 : decode cX1_keepPiece 126 = .ok (.aload_n 0, 1) := by decide +kernel
theorem dX1_keepPiece_127 : decode cX1_keepPiece 127 = .ok (.getfield 27, 3) := by decide +kernel
theorem dX1_keepPiece_130 : decode cX1_keepPiece 130 = .ok (.iload_n 1, 1) := by decide +kernel
theorem dX1_keepPiece_131 : decode cX1_keepPiece 131 = .ok (.lload 4, 2) := by decide +kernel
theorem dX1_keepPiece_133 : decode cX1_keepPiece 133 = .ok (.l2i, 1) := by decide +kernel
theorem dX1_keepPiece_134 : decode cX1_keepPiece 134 = .ok (.iastore, 1) := by decide +kernel
theorem dX1_keepPiece_135 : decode cX1_keepPiece 135 = .ok (.aload_n 0, 1) := by decide +kernel
theorem dX1_keepPiece_136 : decode cX1_keepPiece 136 = .ok (.getfield 30, 3) := by decide +kernel
theorem dX1_keepPiece_139 : decode cX1_keepPiece 139 = .ok (.iload_n 1, 1) := by decide +kernel
theorem dX1_keepPiece_140 : decode cX1_keepPiece 140 = .ok (.lload 6, 2) := by decide +kernel
theorem dX1_keepPiece_142 : decode cX1_keepPiece 142 = .ok (.l2i, 1) := by decide +kernel
theorem dX1_keepPiece_143 : decode cX1_keepPiece 143 = .ok (.iastore, 1) := by decide +kernel
theorem dX1_keepPiece_144 : decode cX1_keepPiece 144 = .ok (.aload_n 0, 1) := by decide +kernel
theorem dX1_keepPiece_145 : decode cX1_keepPiece 145 = .ok (.getfield 33, 3) := by decide +kernel
theorem dX1_keepPiece_148 : decode cX1_keepPiece 148 = .ok (.iload_n 1, 1) := by decide +kernel
theorem dX1_keepPiece_149 : decode cX1_keepPiece 149 = .ok (.aload_n 0, 1) := by decide +kernel
theorem dX1_keepPiece_150 : decode cX1_keepPiece 150 = .ok (.iload_n 2, 1) := by decide +kernel
theorem dX1_keepPiece_151 : decode cX1_keepPiece 151 = .ok (.iload_n 3, 1) := by decide +kernel
theorem dX1_keepPiece_152 : decode cX1_keepPiece 152 = .ok (.lload 4, 2) := by decide +kernel
theorem dX1_keepPiece_154 : decode cX1_keepPiece 154 = .ok (.lload 6, 2) := by decide +kernel
theorem dX1_keepPiece_156 : decode cX1_keepPiece 156 = .ok (.invokevirtual 75, 3) := by decide +kernel
theorem dX1_keepPiece_159 : decode cX1_keepPiece 159 = .ok (.lastore, 1) := by decide +kernel
theorem dX1_keepPiece_160 : decode cX1_keepPiece 160 = .ok (.aload_n 0, 1) := by decide +kernel
theorem dX1_keepPiece_161 : decode cX1_keepPiece 161 = .ok (.iload_n 1, 1) := by decide +kernel
theorem dX1_keepPiece_162 : decode cX1_keepPiece 162 = .ok (.iconst 1, 1) := by decide +kernel
theorem dX1_keepPiece_163 : decode cX1_keepPiece 163 = .ok (.iadd, 1) := by decide +kernel
theorem dX1_keepPiece_164 : decode cX1_keepPiece 164 = .ok (.putfield 41, 3) := by decide +kernel
theorem dX1_keepPiece_167 : decode cX1_keepPiece 167 = .ok (.return_, 1) := by decide +kernel
theorem dX1_middleOf_0 : decode cX1_middleOf 0 = .ok (.aload_n 0, 1) := by decide +kernel
theorem dX1_middleOf_1 : decode cX1_middleOf 1 = .ok (.getfield 15, 3) := by decide +kernel
theorem dX1_middleOf_4 : decode cX1_middleOf 4 = .ok (.iload_n 1, 1) := by decide +kernel
theorem dX1_middleOf_5 : decode cX1_middleOf 5 = .ok (.iaload, 1) := by decide +kernel
theorem dX1_middleOf_6 : decode cX1_middleOf 6 = .ok (.i2l, 1) := by decide +kernel
theorem dX1_middleOf_7 : decode cX1_middleOf 7 = .ok (.lload 5, 2) := by decide +kernel
theorem dX1_middleOf_9 : decode cX1_middleOf 9 = .ok (.lmul, 1) := by decide +kernel
theorem dX1_middleOf_10 : decode cX1_middleOf 10 = .ok (.lload_n 3, 1) := by decide +kernel
theorem dX1_middleOf_11 : decode cX1_middleOf 11 = .ok (.aload_n 0, 1) := by decide +kernel
theorem dX1_middleOf_12 : decode cX1_middleOf 12 = .ok (.getfield 9, 3) := by decide +kernel
theorem dX1_middleOf_15 : decode cX1_middleOf 15 = .ok (.iload_n 1, 1) := by decide +kernel
theorem dX1_middleOf_16 : decode cX1_middleOf 16 = .ok (.iaload, 1) := by decide +kernel
theorem dX1_middleOf_17 : decode cX1_middleOf 17 = .ok (.i2l, 1) := by decide +kernel
theorem dX1_middleOf_18 : decode cX1_middleOf 18 = .ok (.lmul, 1) := by decide +kernel
theorem dX1_middleOf_19 : decode cX1_middleOf 19 = .ok (.lsub, 1) := by decide +kernel
theorem dX1_middleOf_20 : decode cX1_middleOf 20 = .ok (.lstore 7, 2) := by decide +kernel
theorem dX1_middleOf_22 : decode cX1_middleOf 22 = .ok (.aload_n 0, 1) := by decide +kernel
theorem dX1_middleOf_23 : decode cX1_middleOf 23 = .ok (.getfield 18, 3) := by decide +kernel
theorem dX1_middleOf_26 : decode cX1_middleOf 26 = .ok (.iload_n 1, 1) := by decide +kernel
theorem dX1_middleOf_27 : decode cX1_middleOf 27 = .ok (.iaload, 1) := by decide +kernel
theorem dX1_middleOf_28 : decode cX1_middleOf 28 = .ok (.i2l, 1) := by decide +kernel
theorem dX1_middleOf_29 : decode cX1_middleOf 29 = .ok (.lload 5, 2) := by decide +kernel
theorem dX1_middleOf_31 : decode cX1_middleOf 31 = .ok (.lmul, 1) := by decide +kernel
theorem dX1_middleOf_32 : decode cX1_middleOf 32 = .ok (.lload_n 3, 1) := by decide +kernel
theorem dX1_middleOf_33 : decode cX1_middleOf 33 = .ok (.aload_n 0, 1) := by decide +kernel
theorem dX1_middleOf_34 : decode cX1_middleOf 34 = .ok (.getfield 9, 3) := by decide +kernel
theorem dX1_middleOf_37 : decode cX1_middleOf 37 = .ok (.iload_n 1, 1) := by decide +kernel
theorem dX1_middleOf_38 : decode cX1_middleOf 38 = .ok (.iaload, 1) := by decide +kernel
theorem dX1_middleOf_39 : decode cX1_middleOf 39 = .ok (.i2l, 1) := by decide +kernel
theorem dX1_middleOf_40 : decode cX1_middleOf 40 = .ok (.lmul, 1) := by decide +kernel
theorem dX1_middleOf_41 : decode cX1_middleOf 41 = .ok (.lsub, 1) := by decide +kernel
theorem dX1_middleOf_42 : decode cX1_middleOf 42 = .ok (.lstore 9, 2) := by decide +kernel
theorem dX1_middleOf_44 : decode cX1_middleOf 44 = .ok (.iload_n 1, 1) := by decide +kernel
theorem dX1_middleOf_45 : decode cX1_middleOf 45 = .ok (.iconst 1, 1) := by decide +kernel
theorem dX1_middleOf_46 : decode cX1_middleOf 46 = .ok (.iadd, 1) := by decide +kernel
theorem dX1_middleOf_47 : decode cX1_middleOf 47 = .ok (.istore 11, 2) := by decide +kernel
theorem dX1_middleOf_49 : decode cX1_middleOf 49 = .ok (.iload 11, 2) := by decide +kernel
theorem dX1_middleOf_51 : decode cX1_middleOf 51 = .ok (.iload_n 2, 1) := by decide +kernel
theorem dX1_middleOf_52 : decode cX1_middleOf 52 = .ok (.if_icmp .ge 67, 3) := by decide +kernel
theorem dX1_middleOf_55 : decode cX1_middleOf 55 = .ok (.lload 7, 2) := by decide +kernel
theorem dX1_middleOf_57 : decode cX1_middleOf 57 = .ok (.aload_n 0, 1) := by decide +kernel
theorem dX1_middleOf_58 : decode cX1_middleOf 58 = .ok (.getfield 15, 3) := by decide +kernel
theorem dX1_middleOf_61 : decode cX1_middleOf 61 = .ok (.iload 11, 2) := by decide +kernel
theorem dX1_middleOf_63 : decode cX1_middleOf 63 = .ok (.iaload, 1) := by decide +kernel
theorem dX1_middleOf_64 : decode cX1_middleOf 64 = .ok (.i2l, 1) := by decide +kernel
theorem dX1_middleOf_65 : decode cX1_middleOf 65 = .ok (.lload 5, 2) := by decide +kernel
theorem dX1_middleOf_67 : decode cX1_middleOf 67 = .ok (.lmul, 1) := by decide +kernel
theorem dX1_middleOf_68 : decode cX1_middleOf 68 = .ok (.lload_n 3, 1) := by decide +kernel
theorem dX1_middleOf_69 : decode cX1_middleOf 69 = .ok (.aload_n 0, 1) := by decide +kernel
theorem dX1_middleOf_70 : decode cX1_middleOf 70 = .ok (.getfield 9, 3) := by decide +kernel
theorem dX1_middleOf_73 : decode cX1_middleOf 73 = .ok (.iload 11, 2) := by decide +kernel
theorem dX1_middleOf_75 : decode cX1_middleOf 75 = .ok (.iaload, 1) := by decide +kernel
theorem dX1_middleOf_76 : decode cX1_middleOf 76 = .ok (.i2l, 1) := by decide +kernel
theorem dX1_middleOf_77 : decode cX1_middleOf 77 = .ok (.lmul, 1) := by decide +kernel
theorem dX1_middleOf_78 : decode cX1_middleOf 78 = .ok (.lsub, 1) := by decide +kernel
theorem dX1_middleOf_79 : decode cX1_middleOf 79 = .ok (.invokestatic 79, 3) := by decide +kernel
theorem dX1_middleOf_82 : decode cX1_middleOf 82 = .ok (.lstore 7, 2) := by decide +kernel
theorem dX1_middleOf_84 : decode cX1_middleOf 84 = .ok (.lload 9, 2) := by decide +kernel
theorem dX1_middleOf_86 : decode cX1_middleOf 86 = .ok (.aload_n 0, 1) := by decide +kernel
theorem dX1_middleOf_87 : decode cX1_middleOf 87 = .ok (.getfield 18, 3) := by decide +kernel
theorem dX1_middleOf_90 : decode cX1_middleOf 90 = .ok (.iload 11, 2) := by decide +kernel
theorem dX1_middleOf_92 : decode cX1_middleOf 92 = .ok (.iaload, 1) := by decide +kernel
theorem dX1_middleOf_93 : decode cX1_middleOf 93 = .ok (.i2l, 1) := by decide +kernel
theorem dX1_middleOf_94 : decode cX1_middleOf 94 = .ok (.lload 5, 2) := by decide +kernel
theorem dX1_middleOf_96 : decode cX1_middleOf 96 = .ok (.lmul, 1) := by decide +kernel
theorem dX1_middleOf_97 : decode cX1_middleOf 97 = .ok (.lload_n 3, 1) := by decide +kernel
theorem dX1_middleOf_98 : decode cX1_middleOf 98 = .ok (.aload_n 0, 1) := by decide +kernel
theorem dX1_middleOf_99 : decode cX1_middleOf 99 = .ok (.getfield 9, 3) := by decide +kernel
theorem dX1_middleOf_102 : decode cX1_middleOf 102 = .ok (.iload 11, 2) := by decide +kernel
theorem dX1_middleOf_104 : decode cX1_middleOf 104 = .ok (.iaload, 1) := by decide +kernel
theorem dX1_middleOf_105 : decode cX1_middleOf 105 = .ok (.i2l, 1) := by decide +kernel
theorem dX1_middleOf_106 : decode cX1_middleOf 106 = .ok (.lmul, 1) := by decide +kernel
theorem dX1_middleOf_107 : decode cX1_middleOf 107 = .ok (.lsub, 1) := by decide +kernel
theorem dX1_middleOf_108 : decode cX1_middleOf 108 = .ok (.invokestatic 82, 3) := by decide +kernel
theorem dX1_middleOf_111 : decode cX1_middleOf 111 = .ok (.lstore 9, 2) := by decide +kernel
theorem dX1_middleOf_113 : decode cX1_middleOf 113 = .ok (.iinc 11 1, 3) := by decide +kernel
theorem dX1_middleOf_116 : decode cX1_middleOf 116 = .ok (.goto (-67), 3) := by decide +kernel
theorem dX1_middleOf_119 : decode cX1_middleOf 119 = .ok (.lload 7, 2) := by decide +kernel
theorem dX1_middleOf_121 : decode cX1_middleOf 121 = .ok (.lload 9, 2) := by decide +kernel
theorem dX1_middleOf_123 : decode cX1_middleOf 123 = .ok (.ladd, 1) := by decide +kernel
theorem dX1_middleOf_124 : decode cX1_middleOf 124 = .ok (.lreturn, 1) := by decide +kernel
theorem dX1_commonDivisor_0 : decode cX1_commonDivisor 0 = .ok (.lload_n 0, 1) := by decide +kernel
theorem dX1_commonDivisor_1 : decode cX1_commonDivisor 1 = .ok (.lstore 4, 2) := by decide +kernel
theorem dX1_commonDivisor_3 : decode cX1_commonDivisor 3 = .ok (.lload_n 2, 1) := by decide +kernel
theorem dX1_commonDivisor_4 : decode cX1_commonDivisor 4 = .ok (.lstore 6, 2) := by decide +kernel
theorem dX1_commonDivisor_6 : decode cX1_commonDivisor 6 = .ok (.iconst 0, 1) := by decide +kernel
theorem dX1_commonDivisor_7 : decode cX1_commonDivisor 7 = .ok (.istore 8, 2) := by decide +kernel
theorem dX1_commonDivisor_9 : decode cX1_commonDivisor 9 = .ok (.iload 8, 2) := by decide +kernel
theorem dX1_commonDivisor_11 : decode cX1_commonDivisor 11 = .ok (.bipush 64, 2) := by decide +kernel
theorem dX1_commonDivisor_13 : decode cX1_commonDivisor 13 = .ok (.if_icmp .ge 31, 3) := by decide +kernel
theorem dX1_commonDivisor_16 : decode cX1_commonDivisor 16 = .ok (.lload 6, 2) := by decide +kernel
theorem dX1_commonDivisor_18 : decode cX1_commonDivisor 18 = .ok (.lconst 0, 1) := by decide +kernel
theorem dX1_commonDivisor_19 : decode cX1_commonDivisor 19 = .ok (.lcmp, 1) := by decide +kernel
theorem dX1_commonDivisor_20 : decode cX1_commonDivisor 20 = .ok (.ifCond .eq 24, 3) := by decide +kernel
theorem dX1_commonDivisor_23 : decode cX1_commonDivisor 23 = .ok (.lload 4, 2) := by decide +kernel
theorem dX1_commonDivisor_25 : decode cX1_commonDivisor 25 = .ok (.lload 6, 2) := by decide +kernel
theorem dX1_commonDivisor_27 : decode cX1_commonDivisor 27 = .ok (.lrem, 1) := by decide +kernel
theorem dX1_commonDivisor_28 : decode cX1_commonDivisor 28 = .ok (.lstore 9, 2) := by decide +kernel
theorem dX1_commonDivisor_30 : decode cX1_commonDivisor 30 = .ok (.lload 6, 2) := by decide +kernel
theorem dX1_commonDivisor_32 : decode cX1_commonDivisor 32 = .ok (.lstore 4, 2) := by decide +kernel
theorem dX1_commonDivisor_34 : decode cX1_commonDivisor 34 = .ok (.lload 9, 2) := by decide +kernel
theorem dX1_commonDivisor_36 : decode cX1_commonDivisor 36 = .ok (.lstore 6, 2) := by decide +kernel
theorem dX1_commonDivisor_38 : decode cX1_commonDivisor 38 = .ok (.iinc 8 1, 3) := by decide +kernel
theorem dX1_commonDivisor_41 : decode cX1_commonDivisor 41 = .ok (.goto (-32), 3) := by decide +kernel
theorem dX1_commonDivisor_44 : decode cX1_commonDivisor 44 = .ok (.lload 4, 2) := by decide +kernel
theorem dX1_commonDivisor_46 : decode cX1_commonDivisor 46 = .ok (.lreturn, 1) := by decide +kernel
set_option maxRecDepth 20000 in
theorem ggX1_height_J9_floorDiv_f86c9 : GoodIn wsX1_height wsJ9_floorDiv_f86c9 := goodIn_r _ [11] (by decide +kernel) (by decide +kernel)
set_option maxRecDepth 20000 in
theorem gX1_height_J9_floorDiv_f86c9 : GoodIn wsX1_height (va_wsS RX1 88 yJ9_floorDiv_f86c9 wsJ9_floorDiv_f86c9) := goodIn_app (goodIn_of _ (by decide +kernel)) ggX1_height_J9_floorDiv_f86c9
theorem dX1_height_0 : decode cX1_height 0 = .ok (.aload_n 0, 1) := by decide +kernel
theorem dX1_height_1 : decode cX1_height 1 = .ok (.getfield 41, 3) := by decide +kernel
theorem dX1_height_4 : decode cX1_height 4 = .ok (.ifCond .eq 14, 3) := by decide +kernel
theorem dX1_height_7 : decode cX1_height 7 = .ok (.iload_n 1, 1) := by decide +kernel
theorem dX1_height_8 : decode cX1_height 8 = .ok (.ifCond .lt 10, 3) := by decide +kernel
theorem dX1_height_11 : decode cX1_height 11 = .ok (.iload_n 1, 1) := by decide +kernel
theorem dX1_height_12 : decode cX1_height 12 = .ok (.sipush 300, 3) := by decide +kernel
theorem dX1_height_15 : decode cX1_height 15 = .ok (.if_icmp .lt 6, 3) := by decide +kernel
theorem dX1_height_18 : decode cX1_height 18 = .ok (.ldc 85, 2) := by decide +kernel
theorem dX1_height_20 : decode cX1_height 20 = .ok (.ireturn, 1) := by decide +kernel
theorem dX1_height_21 : decode cX1_height 21 = .ok (.iconst 0, 1) := by decide +kernel
theorem dX1_height_22 : decode cX1_height 22 = .ok (.istore_n 2, 1) := by decide +kernel
theorem dX1_height_23 : decode cX1_height 23 = .ok (.iload_n 2, 1) := by decide +kernel
theorem dX1_height_24 : decode cX1_height 24 = .ok (.iconst 1, 1) := by decide +kernel
theorem dX1_height_25 : decode cX1_height 25 = .ok (.iadd, 1) := by decide +kernel
theorem dX1_height_26 : decode cX1_height 26 = .ok (.aload_n 0, 1) := by decide +kernel
theorem dX1_height_27 : decode cX1_height 27 = .ok (.getfield 41, 3) := by decide +kernel
theorem dX1_height_30 : decode cX1_height 30 = .ok (.if_icmp .ge 21, 3) := by decide +kernel
theorem dX1_height_33 : decode cX1_height 33 = .ok (.aload_n 0, 1) := by decide +kernel
theorem dX1_height_34 : decode cX1_height 34 = .ok (.getfield 21, 3) := by decide +kernel
theorem dX1_height_37 : decode cX1_height 37 = .ok (.iload_n 2, 1) := by decide +kernel
theorem dX1_height_38 : decode cX1_height 38 = .ok (.iconst 1, 1) := by decide +kernel
theorem dX1_height_39 : decode cX1_height 39 = .ok (.iadd, 1) := by decide +kernel
theorem dX1_height_40 : decode cX1_height 40 = .ok (.iaload, 1) := by decide +kernel
theorem dX1_height_41 : decode cX1_height 41 = .ok (.iload_n 1, 1) := by decide +kernel
theorem dX1_height_42 : decode cX1_height 42 = .ok (.if_icmp .gt 9, 3) := by decide +kernel
theorem dX1_height_45 : decode cX1_height 45 = .ok (.iinc 2 1, 3) := by decide +kernel
theorem dX1_height_48 : decode cX1_height 48 = .ok (.goto (-25), 3) := by decide +kernel
theorem dX1_height_51 : decode cX1_height 51 = .ok (.aload_n 0, 1) := by decide +kernel
theorem dX1_height_52 : decode cX1_height 52 = .ok (.getfield 30, 3) := by decide +kernel
theorem dX1_height_55 : decode cX1_height 55 = .ok (.iload_n 2, 1) := by decide +kernel
theorem dX1_height_56 : decode cX1_height 56 = .ok (.iaload, 1) := by decide +kernel
theorem dX1_height_57 : decode cX1_height 57 = .ok (.iconst 1, 1) := by decide +kernel
theorem dX1_height_58 : decode cX1_height 58 = .ok (.if_icmp .ge 6, 3) := by decide +kernel
theorem dX1_height_61 : decode cX1_height 61 = .ok (.ldc 85, 2) := by decide +kernel
theorem dX1_height_63 : decode cX1_height 63 = .ok (.ireturn, 1) := by decide +kernel
theorem dX1_height_64 : decode cX1_height 64 = .ok (.ldc2_w 86, 3) := by decide +kernel
theorem dX1_height_67 : decode cX1_height 67 = .ok (.aload_n 0, 1) := by decide +kernel
theorem dX1_height_68 : decode cX1_height 68 = .ok (.getfield 27, 3) := by decide +kernel
theorem dX1_height_71 : decode cX1_height 71 = .ok (.iload_n 2, 1) := by decide +kernel
theorem dX1_height_72 : decode cX1_height 72 = .ok (.iaload, 1) := by decide +kernel
theorem dX1_height_73 : decode cX1_height 73 = .ok (.i2l, 1) := by decide +kernel
theorem dX1_height_74 : decode cX1_height 74 = .ok (.lmul, 1) := by decide +kernel
theorem dX1_height_75 : decode cX1_height 75 = .ok (.iload_n 1, 1) := by decide +kernel
theorem dX1_height_76 : decode cX1_height 76 = .ok (.i2l, 1) := by decide +kernel
theorem dX1_height_77 : decode cX1_height 77 = .ok (.lmul, 1) := by decide +kernel
theorem dX1_height_78 : decode cX1_height 78 = .ok (.aload_n 0, 1) := by decide +kernel
theorem dX1_height_79 : decode cX1_height 79 = .ok (.getfield 33, 3) := by decide +kernel
theorem dX1_height_82 : decode cX1_height 82 = .ok (.iload_n 2, 1) := by decide +kernel
theorem dX1_height_83 : decode cX1_height 83 = .ok (.laload, 1) := by decide +kernel
theorem dX1_height_84 : decode cX1_height 84 = .ok (.ladd, 1) := by decide +kernel
theorem dX1_height_85 : decode cX1_height 85 = .ok (.ldc2_w 86, 3) := by decide +kernel
theorem dX1_height_88 : decode cX1_height 88 = .ok (.aload_n 0, 1) := by decide +kernel
theorem dX1_height_89 : decode cX1_height 89 = .ok (.getfield 30, 3) := by decide +kernel
theorem dX1_height_92 : decode cX1_height 92 = .ok (.iload_n 2, 1) := by decide +kernel
theorem dX1_height_93 : decode cX1_height 93 = .ok (.iaload, 1) := by decide +kernel
theorem dX1_height_94 : decode cX1_height 94 = .ok (.i2l, 1) := by decide +kernel
theorem dX1_height_95 : decode cX1_height 95 = .ok (.lmul, 1) := by decide +kernel
theorem dX1_height_96 : decode cX1_height 96 = .ok (.invokestatic 88, 3) := by decide +kernel
theorem dX1_height_99 : decode cX1_height 99 = .ok (.l2i, 1) := by decide +kernel
theorem dX1_height_100 : decode cX1_height 100 = .ok (.ireturn, 1) := by decide +kernel
theorem dX1_tell_0 : decode cX1_tell 0 = .ok (.iload_n 1, 1) := by decide +kernel
theorem dX1_tell_1 : decode cX1_tell 1 = .ok (.ifCond .lt 11, 3) := by decide +kernel
theorem dX1_tell_4 : decode cX1_tell 4 = .ok (.iload_n 1, 1) := by decide +kernel
theorem dX1_tell_5 : decode cX1_tell 5 = .ok (.aload_n 0, 1) := by decide +kernel
theorem dX1_tell_6 : decode cX1_tell 6 = .ok (.getfield 41, 3) := by decide +kernel
theorem dX1_tell_9 : decode cX1_tell 9 = .ok (.if_icmp .lt 6, 3) := by decide +kernel
theorem dX1_tell_12 : decode cX1_tell 12 = .ok (.ldc 85, 2) := by decide +kernel
theorem dX1_tell_14 : decode cX1_tell 14 = .ok (.ireturn, 1) := by decide +kernel
theorem dX1_tell_15 : decode cX1_tell 15 = .ok (.iload_n 2, 1) := by decide +kernel
theorem dX1_tell_16 : decode cX1_tell 16 = .ok (.tableswitch 60 0 3 #[32, 39, 46, 53], 32) := by decide +kernel
theorem dX1_tell_48 : decode cX1_tell 48 = .ok (.aload_n 0, 1) := by decide +kernel
theorem dX1_tell_49 : decode cX1_tell 49 = .ok (.getfield 21, 3) := by decide +kernel
theorem dX1_tell_52 : decode cX1_tell 52 = .ok (.iload_n 1, 1) := by decide +kernel
theorem dX1_tell_53 : decode cX1_tell 53 = .ok (.iaload, 1) := by decide +kernel
theorem dX1_tell_54 : decode cX1_tell 54 = .ok (.ireturn, 1) := by decide +kernel
theorem dX1_tell_55 : decode cX1_tell 55 = .ok (.aload_n 0, 1) := by decide +kernel
theorem dX1_tell_56 : decode cX1_tell 56 = .ok (.getfield 24, 3) := by decide +kernel
theorem dX1_tell_59 : decode cX1_tell 59 = .ok (.iload_n 1, 1) := by decide +kernel
theorem dX1_tell_60 : decode cX1_tell 60 = .ok (.iaload, 1) := by decide +kernel
theorem dX1_tell_61 : decode cX1_tell 61 = .ok (.ireturn, 1) := by decide +kernel
theorem dX1_tell_62 : decode cX1_tell 62 = .ok (.aload_n 0, 1) := by decide +kernel
theorem dX1_tell_63 : decode cX1_tell 63 = .ok (.getfield 27, 3) := by decide +kernel
theorem dX1_tell_66 : decode cX1_tell 66 = .ok (.iload_n 1, 1) := by decide +kernel
theorem dX1_tell_67 : decode cX1_tell 67 = .ok (.iaload, 1) := by decide +kernel
theorem dX1_tell_68 : decode cX1_tell 68 = .ok (.ireturn, 1) := by decide +kernel
theorem dX1_tell_69 : decode cX1_tell 69 = .ok (.aload_n 0, 1) := by decide +kernel
theorem dX1_tell_70 : decode cX1_tell 70 = .ok (.getfield 30, 3) := by decide +kernel
theorem dX1_tell_73 : decode cX1_tell 73 = .ok (.iload_n 1, 1) := by decide +kernel
theorem dX1_tell_74 : decode cX1_tell 74 = .ok (.iaload, 1) := by decide +kernel
theorem dX1_tell_75 : decode cX1_tell 75 = .ok (.ireturn, 1) := by decide +kernel
theorem dX1_tell_76 : decode cX1_tell 76 = .ok (.ldc 85, 2) := by decide +kernel
theorem dX1_tell_78 : decode cX1_tell 78 = .ok (.ireturn, 1) := by decide +kernel
set_option maxRecDepth 20000 in
theorem ggX2_init_J7_fill_53178 : GoodIn wsX2_init wsJ7_fill_53178 := goodIn_r _ [11] (by decide +kernel) (by decide +kernel)
set_option maxRecDepth 20000 in
theorem gX2_init_J7_fill_53178 : GoodIn wsX2_init (va_wsS RX2 16 yJ7_fill_53178 wsJ7_fill_53178) := goodIn_app (goodIn_of _ (by decide +kernel)) ggX2_init_J7_fill_53178
theorem dX2_init_0 : decode cX2_init 0 = .ok (.aload_n 0, 1) := by decide +kernel
theorem dX2_init_1 : decode cX2_init 1 = .ok (.invokespecial 3, 3) := by decide +kernel
theorem dX2_init_4 : decode cX2_init 4 = .ok (.aload_n 0, 1) := by decide +kernel
theorem dX2_init_5 : decode cX2_init 5 = .ok (.sipush 300, 3) := by decide +kernel
theorem dX2_init_8 : decode cX2_init 8 = .ok (.newarray .int, 2) := by decide +kernel
theorem dX2_init_10 : decode cX2_init 10 = .ok (.putfield 9, 3) := by decide +kernel
theorem dX2_init_13 : decode cX2_init 13 = .ok (.aload_n 0, 1) := by decide +kernel
theorem dX2_init_14 : decode cX2_init 14 = .ok (.getfield 9, 3) := by decide +kernel
theorem dX2_init_17 : decode cX2_init 17 = .ok (.ldc 15, 2) := by decide +kernel
theorem dX2_init_19 : decode cX2_init 19 = .ok (.invokestatic 16, 3) := by decide +kernel
theorem dX2_init_22 : decode cX2_init 22 = .ok (.aload_n 0, 1) := by decide +kernel
theorem dX2_init_23 : decode cX2_init 23 = .ok (.iconst 0, 1) := by decide +kernel
theorem dX2_init_24 : decode cX2_init 24 = .ok (.putfield 22, 3) := by decide +kernel
theorem dX2_init_27 : decode cX2_init 27 = .ok (.return_, 1) := by decide +kernel
theorem dX2_size_0 : decode cX2_size 0 = .ok (.aload_n 0, 1) := by decide +kernel
theorem dX2_size_1 : decode cX2_size 1 = .ok (.getfield 22, 3) := by decide +kernel
theorem dX2_size_4 : decode cX2_size 4 = .ok (.ireturn, 1) := by decide +kernel
theorem dX2_add_0 : decode cX2_add 0 = .ok (.aload_n 0, 1) := by decide +kernel
theorem dX2_add_1 : decode cX2_add 1 = .ok (.getfield 22, 3) := by decide +kernel
theorem dX2_add_4 : decode cX2_add 4 = .ok (.aload_n 0, 1) := by decide +kernel
theorem dX2_add_5 : decode cX2_add 5 = .ok (.getfield 9, 3) := by decide +kernel
theorem dX2_add_8 : decode cX2_add 8 = .ok (.arraylength, 1) := by decide +kernel
theorem dX2_add_9 : decode cX2_add 9 = .ok (.if_icmp .lt 5, 3) := by decide +kernel
theorem dX2_add_12 : decode cX2_add 12 = .ok (.iconst (-1), 1) := by decide +kernel
theorem dX2_add_13 : decode cX2_add 13 = .ok (.ireturn, 1) := by decide +kernel
theorem dX2_add_14 : decode cX2_add 14 = .ok (.aload_n 0, 1) := by decide +kernel
theorem dX2_add_15 : decode cX2_add 15 = .ok (.getfield 9, 3) := by decide +kernel
theorem dX2_add_18 : decode cX2_add 18 = .ok (.aload_n 0, 1) := by decide +kernel
theorem dX2_add_19 : decode cX2_add 19 = .ok (.getfield 22, 3) := by decide +kernel
theorem dX2_add_22 : decode cX2_add 22 = .ok (.iload_n 1, 1) := by decide +kernel
theorem dX2_add_23 : decode cX2_add 23 = .ok (.iastore, 1) := by decide +kernel
theorem dX2_add_24 : decode cX2_add 24 = .ok (.aload_n 0, 1) := by decide +kernel
theorem dX2_add_25 : decode cX2_add 25 = .ok (.dup, 1) := by decide +kernel
theorem dX2_add_26 : decode cX2_add 26 = .ok (.getfield 22, 3) := by decide +kernel
theorem dX2_add_29 : decode cX2_add 29 = .ok (.iconst 1, 1) := by decide +kernel
theorem dX2_add_30 : decode cX2_add 30 = .ok (.iadd, 1) := by decide +kernel
theorem dX2_add_31 : decode cX2_add 31 = .ok (.putfield 22, 3) := by decide +kernel
theorem dX2_add_34 : decode cX2_add 34 = .ok (.aload_n 0, 1) := by decide +kernel
theorem dX2_add_35 : decode cX2_add 35 = .ok (.getfield 22, 3) := by decide +kernel
theorem dX2_add_38 : decode cX2_add 38 = .ok (.ireturn, 1) := by decide +kernel
theorem dX2_addLost_0 : decode cX2_addLost 0 = .ok (.iload_n 1, 1) := by decide +kernel
theorem dX2_addLost_1 : decode cX2_addLost 1 = .ok (.aload_n 0, 1) := by decide +kernel
theorem dX2_addLost_2 : decode cX2_addLost 2 = .ok (.getfield 9, 3) := by decide +kernel
theorem dX2_addLost_5 : decode cX2_addLost 5 = .ok (.arraylength, 1) := by decide +kernel
theorem dX2_addLost_6 : decode cX2_addLost 6 = .ok (.aload_n 0, 1) := by decide +kernel
theorem dX2_addLost_7 : decode cX2_addLost 7 = .ok (.getfield 22, 3) := by decide +kernel
theorem dX2_addLost_10 : decode cX2_addLost 10 = .ok (.isub, 1) := by decide +kernel
theorem dX2_addLost_11 : decode cX2_addLost 11 = .ok (.if_icmp .le 5, 3) := by decide +kernel
theorem dX2_addLost_14 : decode cX2_addLost 14 = .ok (.iconst (-1), 1) := by decide +kernel
theorem dX2_addLost_15 : decode cX2_addLost 15 = .ok (.ireturn, 1) := by decide +kernel
theorem dX2_addLost_16 : decode cX2_addLost 16 = .ok (.aload_n 0, 1) := by decide +kernel
theorem dX2_addLost_17 : decode cX2_addLost 17 = .ok (.dup, 1) := by decide +kernel
theorem dX2_addLost_18 : decode cX2_addLost 18 = .ok (.getfield 22, 3) := by decide +kernel
theorem dX2_addLost_21 : decode cX2_addLost 21 = .ok (.iload_n 1, 1) := by decide +kernel
theorem dX2_addLost_22 : decode cX2_addLost 22 = .ok (.iadd, 1) := by decide +kernel
theorem dX2_addLost_23 : decode cX2_addLost 23 = .ok (.putfield 22, 3) := by decide +kernel
theorem dX2_addLost_26 : decode cX2_addLost 26 = .ok (.aload_n 0, 1) := by decide +kernel
theorem dX2_addLost_27 : decode cX2_addLost 27 = .ok (.getfield 22, 3) := by decide +kernel
theorem dX2_addLost_30 : decode cX2_addLost 30 = .ok (.ireturn, 1) := by decide +kernel
theorem dX2_reading_0 : decode cX2_reading 0 = .ok (.iload_n 1, 1) := by decide +kernel
theorem dX2_reading_1 : decode cX2_reading 1 = .ok (.ifCond .lt 12, 3) := by decide +kernel
theorem dX2_reading_4 : decode cX2_reading 4 = .ok (.iload_n 1, 1) := by decide +kernel
theorem dX2_reading_5 : decode cX2_reading 5 = .ok (.aload_n 0, 1) := by decide +kernel
theorem dX2_reading_6 : decode cX2_reading 6 = .ok (.getfield 9, 3) := by decide +kernel
theorem dX2_reading_9 : decode cX2_reading 9 = .ok (.arraylength, 1) := by decide +kernel
theorem dX2_reading_10 : decode cX2_reading 10 = .ok (.if_icmp .lt 6, 3) := by decide +kernel
theorem dX2_reading_13 : decode cX2_reading 13 = .ok (.ldc 15, 2) := by decide +kernel
theorem dX2_reading_15 : decode cX2_reading 15 = .ok (.ireturn, 1) := by decide +kernel
theorem dX2_reading_16 : decode cX2_reading 16 = .ok (.aload_n 0, 1) := by decide +kernel
theorem dX2_reading_17 : decode cX2_reading 17 = .ok (.getfield 9, 3) := by decide +kernel
theorem dX2_reading_20 : decode cX2_reading 20 = .ok (.iload_n 1, 1) := by decide +kernel
theorem dX2_reading_21 : decode cX2_reading 21 = .ok (.iaload, 1) := by decide +kernel
theorem dX2_reading_22 : decode cX2_reading 22 = .ok (.ireturn, 1) := by decide +kernel
set_option maxRecDepth 20000 in
theorem ggX2_move_X2_canMove : GoodIn wsX2_move wsX2_canMove := goodIn_r _ [7, 1, 2, 8, 9, 10, 6, 11, 12, 13, 14, 15, 16] (by decide +kernel) (by decide +kernel)
set_option maxRecDepth 20000 in
theorem gX2_move_X2_canMove : GoodIn wsX2_move (wsV RX2 26 RX2 yX2_canMove wsX2_canMove) := goodIn_app (goodIn_of _ (by decide +kernel)) ggX2_move_X2_canMove
theorem dX2_move_0 : decode cX2_move 0 = .ok (.iload_n 1, 1) := by decide +kernel
theorem dX2_move_1 : decode cX2_move 1 = .ok (.ifCond .lt 12, 3) := by decide +kernel
theorem dX2_move_4 : decode cX2_move 4 = .ok (.aload_n 0, 1) := by decide +kernel
theorem dX2_move_5 : decode cX2_move 5 = .ok (.iload_n 1, 1) := by decide +kernel
theorem dX2_move_6 : decode cX2_move 6 = .ok (.iload_n 2, 1) := by decide +kernel
theorem dX2_move_7 : decode cX2_move 7 = .ok (.invokevirtual 26, 3) := by decide +kernel
theorem dX2_move_10 : decode cX2_move 10 = .ok (.ifCond .ne 5, 3) := by decide +kernel
theorem dX2_move_13 : decode cX2_move 13 = .ok (.iconst (-1), 1) := by decide +kernel
theorem dX2_move_14 : decode cX2_move 14 = .ok (.ireturn, 1) := by decide +kernel
theorem dX2_move_15 : decode cX2_move 15 = .ok (.iconst 0, 1) := by decide +kernel
theorem dX2_move_16 : decode cX2_move 16 = .ok (.istore_n 3, 1) := by decide +kernel
theorem dX2_move_17 : decode cX2_move 17 = .ok (.iload_n 1, 1) := by decide +kernel
theorem dX2_move_18 : decode cX2_move 18 = .ok (.istore 4, 2) := by decide +kernel
theorem dX2_move_20 : decode cX2_move 20 = .ok (.iload 4, 2) := by decide +kernel
theorem dX2_move_22 : decode cX2_move 22 = .ok (.aload_n 0, 1) := by decide +kernel
theorem dX2_move_23 : decode cX2_move 23 = .ok (.getfield 9, 3) := by decide +kernel
theorem dX2_move_26 : decode cX2_move 26 = .ok (.arraylength, 1) := by decide +kernel
theorem dX2_move_27 : decode cX2_move 27 = .ok (.if_icmp .ge 35, 3) := by decide +kernel
theorem dX2_move_30 : decode cX2_move 30 = .ok (.aload_n 0, 1) := by decide +kernel
theorem dX2_move_31 : decode cX2_move 31 = .ok (.getfield 9, 3) := by decide +kernel
theorem dX2_move_34 : decode cX2_move 34 = .ok (.iload 4, 2) := by decide +kernel
theorem dX2_move_36 : decode cX2_move 36 = .ok (.iaload, 1) := by decide +kernel
theorem dX2_move_37 : decode cX2_move 37 = .ok (.ldc 15, 2) := by decide +kernel
theorem dX2_move_39 : decode cX2_move 39 = .ok (.if_icmp .eq 17, 3) := by decide +kernel
theorem dX2_move_42 : decode cX2_move 42 = .ok (.aload_n 0, 1) := by decide +kernel
theorem dX2_move_43 : decode cX2_move 43 = .ok (.getfield 9, 3) := by decide +kernel
theorem dX2_move_46 : decode cX2_move 46 = .ok (.iload 4, 2) := by decide +kernel
theorem dX2_move_48 : decode cX2_move 48 = .ok (.dup2, 1) := by decide +kernel
theorem dX2_move_49 : decode cX2_move 49 = .ok (.iaload, 1) := by decide +kernel
theorem dX2_move_50 : decode cX2_move 50 = .ok (.iload_n 2, 1) := by decide +kernel
theorem dX2_move_51 : decode cX2_move 51 = .ok (.iadd, 1) := by decide +kernel
theorem dX2_move_52 : decode cX2_move 52 = .ok (.iastore, 1) := by decide +kernel
theorem dX2_move_53 : decode cX2_move 53 = .ok (.iinc 3 1, 3) := by decide +kernel
theorem dX2_move_56 : decode cX2_move 56 = .ok (.iinc 4 1, 3) := by decide +kernel
theorem dX2_move_59 : decode cX2_move 59 = .ok (.goto (-39), 3) := by decide +kernel
theorem dX2_move_62 : decode cX2_move 62 = .ok (.iload_n 3, 1) := by decide +kernel
theorem dX2_move_63 : decode cX2_move 63 = .ok (.ireturn, 1) := by decide +kernel
set_option maxRecDepth 20000 in
theorem ggX2_canMove_X2_reading : GoodIn wsX2_canMove wsX2_reading := goodIn_r _ [7, 1, 2, 11, 12] (by decide +kernel) (by decide +kernel)
set_option maxRecDepth 20000 in
theorem gX2_canMove_X2_reading : GoodIn wsX2_canMove (wsV RX2 30 RX2 yX2_reading wsX2_reading) := goodIn_app (goodIn_of _ (by decide +kernel)) ggX2_canMove_X2_reading
set_option maxRecDepth 20000 in
theorem ggX2_canMove_X9_within : GoodIn wsX2_canMove wsX9_within := goodIn_r _ [10] (by decide +kernel) (by decide +kernel)
set_option maxRecDepth 20000 in
theorem gX2_canMove_X9_within_n34 : GoodIn wsX2_canMove (wsX9_within) := ggX2_canMove_X9_within
theorem dX2_canMove_0 : decode cX2_canMove 0 = .ok (.iload_n 1, 1) := by decide +kernel
theorem dX2_canMove_1 : decode cX2_canMove 1 = .ok (.istore_n 3, 1) := by decide +kernel
theorem dX2_canMove_2 : decode cX2_canMove 2 = .ok (.iload_n 3, 1) := by decide +kernel
theorem dX2_canMove_3 : decode cX2_canMove 3 = .ok (.aload_n 0, 1) := by decide +kernel
theorem dX2_canMove_4 : decode cX2_canMove 4 = .ok (.getfield 9, 3) := by decide +kernel
theorem dX2_canMove_7 : decode cX2_canMove 7 = .ok (.arraylength, 1) := by decide +kernel
theorem dX2_canMove_8 : decode cX2_canMove 8 = .ok (.if_icmp .ge 41, 3) := by decide +kernel
theorem dX2_canMove_11 : decode cX2_canMove 11 = .ok (.aload_n 0, 1) := by decide +kernel
theorem dX2_canMove_12 : decode cX2_canMove 12 = .ok (.iload_n 3, 1) := by decide +kernel
theorem dX2_canMove_13 : decode cX2_canMove 13 = .ok (.invokevirtual 30, 3) := by decide +kernel
theorem dX2_canMove_16 : decode cX2_canMove 16 = .ok (.istore 4, 2) := by decide +kernel
theorem dX2_canMove_18 : decode cX2_canMove 18 = .ok (.iload 4, 2) := by decide +kernel
theorem dX2_canMove_20 : decode cX2_canMove 20 = .ok (.ldc 15, 2) := by decide +kernel
theorem dX2_canMove_22 : decode cX2_canMove 22 = .ok (.if_icmp .eq 21, 3) := by decide +kernel
theorem dX2_canMove_25 : decode cX2_canMove 25 = .ok (.iload 4, 2) := by decide +kernel
theorem dX2_canMove_27 : decode cX2_canMove 27 = .ok (.iload_n 2, 1) := by decide +kernel
theorem dX2_canMove_28 : decode cX2_canMove 28 = .ok (.iadd, 1) := by decide +kernel
theorem dX2_canMove_29 : decode cX2_canMove 29 = .ok (.sipush (-30000), 3) := by decide +kernel
theorem dX2_canMove_32 : decode cX2_canMove 32 = .ok (.sipush 30000, 3) := by decide +kernel
theorem dX2_canMove_35 : decode cX2_canMove 35 = .ok (.invokestatic 34, 3) := by decide +kernel
theorem dX2_canMove_38 : decode cX2_canMove 38 = .ok (.ifCond .ne 5, 3) := by decide +kernel
theorem dX2_canMove_41 : decode cX2_canMove 41 = .ok (.iconst 0, 1) := by decide +kernel
theorem dX2_canMove_42 : decode cX2_canMove 42 = .ok (.ireturn, 1) := by decide +kernel
theorem dX2_canMove_43 : decode cX2_canMove 43 = .ok (.iinc 3 1, 3) := by decide +kernel
theorem dX2_canMove_46 : decode cX2_canMove 46 = .ok (.goto (-44), 3) := by decide +kernel
theorem dX2_canMove_49 : decode cX2_canMove 49 = .ok (.iconst 1, 1) := by decide +kernel
theorem dX2_canMove_50 : decode cX2_canMove 50 = .ok (.ireturn, 1) := by decide +kernel
set_option maxRecDepth 20000 in
theorem ggX2_step_X2_reading : GoodIn wsX2_step wsX2_reading := goodIn_r _ [10, 11, 1, 12, 13] (by decide +kernel) (by decide +kernel)
set_option maxRecDepth 20000 in
theorem gX2_step_X2_reading : GoodIn wsX2_step (wsV RX2 30 RX2 yX2_reading wsX2_reading) := goodIn_app (goodIn_of _ (by decide +kernel)) ggX2_step_X2_reading
theorem dX2_step_0 : decode cX2_step 0 = .ok (.aload_n 0, 1) := by decide +kernel
theorem dX2_step_1 : decode cX2_step 1 = .ok (.iload_n 1, 1) := by decide +kernel
theorem dX2_step_2 : decode cX2_step 2 = .ok (.invokevirtual 30, 3) := by decide +kernel
theorem dX2_step_5 : decode cX2_step 5 = .ok (.istore_n 2, 1) := by decide +kernel
theorem dX2_step_6 : decode cX2_step 6 = .ok (.aload_n 0, 1) := by decide +kernel
theorem dX2_step_7 : decode cX2_step 7 = .ok (.iload_n 1, 1) := by decide +kernel
theorem dX2_step_8 : decode cX2_step 8 = .ok (.iconst 1, 1) := by decide +kernel
theorem dX2_step_9 : decode cX2_step 9 = .ok (.isub, 1) := by decide +kernel
theorem dX2_step_10 : decode cX2_step 10 = .ok (.invokevirtual 30, 3) := by decide +kernel
theorem dX2_step_13 : decode cX2_step 13 = .ok (.istore_n 3, 1) := by decide +kernel
theorem dX2_step_14 : decode cX2_step 14 = .ok (.iload_n 2, 1) := by decide +kernel
theorem dX2_step_15 : decode cX2_step 15 = .ok (.ldc 15, 2) := by decide +kernel
theorem dX2_step_17 : decode cX2_step 17 = .ok (.if_icmp .eq 9, 3) := by decide +kernel
theorem dX2_step_20 : decode cX2_step 20 = .ok (.iload_n 3, 1) := by decide +kernel
theorem dX2_step_21 : decode cX2_step 21 = .ok (.ldc 15, 2) := by decide +kernel
theorem dX2_step_23 : decode cX2_step 23 = .ok (.if_icmp .ne 5, 3) := by decide +kernel
theorem dX2_step_26 : decode cX2_step 26 = .ok (.iconst (-1), 1) := by decide +kernel
theorem dX2_step_27 : decode cX2_step 27 = .ok (.ireturn, 1) := by decide +kernel
theorem dX2_step_28 : decode cX2_step 28 = .ok (.iload_n 2, 1) := by decide +kernel
theorem dX2_step_29 : decode cX2_step 29 = .ok (.iload_n 3, 1) := by decide +kernel
theorem dX2_step_30 : decode cX2_step 30 = .ok (.isub, 1) := by decide +kernel
theorem dX2_step_31 : decode cX2_step 31 = .ok (.invokestatic 38, 3) := by decide +kernel
theorem dX2_step_34 : decode cX2_step 34 = .ok (.ireturn, 1) := by decide +kernel
set_option maxRecDepth 20000 in
theorem ggX3_init_X3_reset : GoodIn wsX3_init wsX3_reset := goodIn_r _ [10, 11, 12, 13, 14, 15, 16, 17, 18, 19, 20, 9, 21, 22, 23, 24, 25, 26, 5, 27, 28, 29, 30, 31, 32, 33, 34, 35] (by decide +kernel) (by decide +kernel)
set_option maxRecDepth 20000 in
theorem gX3_init_X3_reset : GoodIn wsX3_init (wsV RX3 15 RX3 yX3_reset wsX3_reset) := goodIn_app (goodIn_of _ (by decide +kernel)) ggX3_init_X3_reset
theorem dX3_init_0 : decode cX3_init 0 = .ok (.aload_n 0, 1) := by decide +kernel
theorem dX3_init_1 : decode cX3_init 1 = .ok (.invokespecial 3, 3) := by decide +kernel
theorem dX3_init_4 : decode cX3_init 4 = .ok (.aload_n 0, 1) := by decide +kernel
theorem dX3_init_5 : decode cX3_init 5 = .ok (.bipush 9, 2) := by decide +kernel
theorem dX3_init_7 : decode cX3_init 7 = .ok (.newarray .int, 2) := by decide +kernel
theorem dX3_init_9 : decode cX3_init 9 = .ok (.putfield 9, 3) := by decide +kernel
theorem dX3_init_12 : decode cX3_init 12 = .ok (.aload_n 0, 1) := by decide +kernel
theorem dX3_init_13 : decode cX3_init 13 = .ok (.invokevirtual 15, 3) := by decide +kernel
theorem dX3_init_16 : decode cX3_init 16 = .ok (.return_, 1) := by decide +kernel
set_option maxRecDepth 20000 in
theorem ggX3_reset_X3_clearSteps : GoodIn wsX3_reset wsX3_clearSteps := goodIn_r _ [12, 13, 19, 20, 21, 22, 23, 24, 25, 26, 27] (by decide +kernel) (by decide +kernel)
set_option maxRecDepth 20000 in
theorem gX3_reset_X3_clearSteps : GoodIn wsX3_reset (wsV RX3 40 RX3 yX3_clearSteps wsX3_clearSteps) := goodIn_app (goodIn_of _ (by decide +kernel)) ggX3_reset_X3_clearSteps
set_option maxRecDepth 20000 in
theorem ggX3_reset_X3_addStep : GoodIn wsX3_reset wsX3_addStep := goodIn_r _ [17, 13, 18, 19, 20, 21, 22, 23, 24, 25, 26, 27] (by decide +kernel) (by decide +kernel)
set_option maxRecDepth 20000 in
theorem gX3_reset_X3_addStep : GoodIn wsX3_reset (wsV RX3 43 RX3 yX3_addStep wsX3_addStep) := goodIn_app (goodIn_of _ (by decide +kernel)) ggX3_reset_X3_addStep
theorem dX3_reset_0 : decode cX3_reset 0 = .ok (.aload_n 0, 1) := by decide +kernel
theorem dX3_reset_1 : decode cX3_reset 1 = .ok (.bipush 50, 2) := by decide +kernel
theorem dX3_reset_3 : decode cX3_reset 3 = .ok (.putfield 18, 3) := by decide +kernel
theorem dX3_reset_6 : decode cX3_reset 6 = .ok (.aload_n 0, 1) := by decide +kernel
theorem dX3_reset_7 : decode cX3_reset 7 = .ok (.iconst 5, 1) := by decide +kernel
theorem dX3_reset_8 : decode cX3_reset 8 = .ok (.putfield 22, 3) := by decide +kernel
theorem dX3_reset_11 : decode cX3_reset 11 = .ok (.aload_n 0, 1) := by decide +kernel
theorem dX3_reset_12 : decode cX3_reset 12 = .ok (.iconst 1, 1) := by decide +kernel
theorem dX3_reset_13 : decode cX3_reset 13 = .ok (.putfield 25, 3) := by decide +kernel
theorem dX3_reset_16 : decode cX3_reset 16 = .ok (.aload_n 0, 1) := by decide +kernel
theorem dX3_reset_17 : decode cX3_reset 17 = .ok (.iconst 2, 1) := by decide +kernel
theorem dX3_reset_18 : decode cX3_reset 18 = .ok (.putfield 28, 3) := by decide +kernel
theorem dX3_reset_21 : decode cX3_reset 21 = .ok (.aload_n 0, 1) := by decide +kernel
theorem dX3_reset_22 : decode cX3_reset 22 = .ok (.bipush 10, 2) := by decide +kernel
theorem dX3_reset_24 : decode cX3_reset 24 = .ok (.putfield 31, 3) := by decide +kernel
theorem dX3_reset_27 : decode cX3_reset 27 = .ok (.aload_n 0, 1) := by decide +kernel
theorem dX3_reset_28 : decode cX3_reset 28 = .ok (.iconst 5, 1) := by decide +kernel
theorem dX3_reset_29 : decode cX3_reset 29 = .ok (.putfield 34, 3) := by decide +kernel
theorem dX3_reset_32 : decode cX3_reset 32 = .ok (.aload_n 0, 1) := by decide +kernel
theorem dX3_reset_33 : decode cX3_reset 33 = .ok (.iconst 0, 1) := by decide +kernel
theorem dX3_reset_34 : decode cX3_reset 34 = .ok (.putfield 37, 3) := by decide +kernel
theorem dX3_reset_37 : decode cX3_reset 37 = .ok (.aload_n 0, 1) := by decide +kernel
theorem dX3_reset_38 : decode cX3_reset 38 = .ok (.invokevirtual 40, 3) := by decide +kernel
theorem dX3_reset_41 : decode cX3_reset 41 = .ok (.aload_n 0, 1) := by decide +kernel
theorem dX3_reset_42 : decode cX3_reset 42 = .ok (.iconst 5, 1) := by decide +kernel
theorem dX3_reset_43 : decode cX3_reset 43 = .ok (.invokevirtual 43, 3) := by decide +kernel
theorem dX3_reset_46 : decode cX3_reset 46 = .ok (.aload_n 0, 1) := by decide +kernel
theorem dX3_reset_47 : decode cX3_reset 47 = .ok (.bipush 10, 2) := by decide +kernel
theorem dX3_reset_49 : decode cX3_reset 49 = .ok (.invokevirtual 43, 3) := by decide +kernel
theorem dX3_reset_52 : decode cX3_reset 52 = .ok (.aload_n 0, 1) := by decide +kernel
theorem dX3_reset_53 : decode cX3_reset 53 = .ok (.bipush 20, 2) := by decide +kernel
theorem dX3_reset_55 : decode cX3_reset 55 = .ok (.invokevirtual 43, 3) := by decide +kernel
theorem dX3_reset_58 : decode cX3_reset 58 = .ok (.aload_n 0, 1) := by decide +kernel
theorem dX3_reset_59 : decode cX3_reset 59 = .ok (.bipush 40, 2) := by decide +kernel
theorem dX3_reset_61 : decode cX3_reset 61 = .ok (.invokevirtual 43, 3) := by decide +kernel
theorem dX3_reset_64 : decode cX3_reset 64 = .ok (.aload_n 0, 1) := by decide +kernel
theorem dX3_reset_65 : decode cX3_reset 65 = .ok (.bipush 70, 2) := by decide +kernel
theorem dX3_reset_67 : decode cX3_reset 67 = .ok (.invokevirtual 43, 3) := by decide +kernel
theorem dX3_reset_70 : decode cX3_reset 70 = .ok (.aload_n 0, 1) := by decide +kernel
theorem dX3_reset_71 : decode cX3_reset 71 = .ok (.bipush 120, 2) := by decide +kernel
theorem dX3_reset_73 : decode cX3_reset 73 = .ok (.invokevirtual 43, 3) := by decide +kernel
theorem dX3_reset_76 : decode cX3_reset 76 = .ok (.aload_n 0, 1) := by decide +kernel
theorem dX3_reset_77 : decode cX3_reset 77 = .ok (.sipush 200, 3) := by decide +kernel
theorem dX3_reset_80 : decode cX3_reset 80 = .ok (.invokevirtual 43, 3) := by decide +kernel
theorem dX3_reset_83 : decode cX3_reset 83 = .ok (.aload_n 0, 1) := by decide +kernel
theorem dX3_reset_84 : decode cX3_reset 84 = .ok (.sipush 330, 3) := by decide +kernel
theorem dX3_reset_87 : decode cX3_reset 87 = .ok (.invokevirtual 43, 3) := by decide +kernel
theorem dX3_reset_90 : decode cX3_reset 90 = .ok (.aload_n 0, 1) := by decide +kernel
theorem dX3_reset_91 : decode cX3_reset 91 = .ok (.sipush 500, 3) := by decide +kernel
theorem dX3_reset_94 : decode cX3_reset 94 = .ok (.invokevirtual 43, 3) := by decide +kernel
theorem dX3_reset_97 : decode cX3_reset 97 = .ok (.return_, 1) := by decide +kernel
theorem dX3_become_0 : decode cX3_become 0 = .ok (.aload_n 0, 1) := by decide +kernel
theorem dX3_become_1 : decode cX3_become 1 = .ok (.aload_n 1, 1) := by decide +kernel
theorem dX3_become_2 : decode cX3_become 2 = .ok (.getfield 18, 3) := by decide +kernel
theorem dX3_become_5 : decode cX3_become 5 = .ok (.putfield 18, 3) := by decide +kernel
theorem dX3_become_8 : decode cX3_become 8 = .ok (.aload_n 0, 1) := by decide +kernel
theorem dX3_become_9 : decode cX3_become 9 = .ok (.aload_n 1, 1) := by decide +kernel
theorem dX3_become_10 : decode cX3_become 10 = .ok (.getfield 22, 3) := by decide +kernel
theorem dX3_become_13 : decode cX3_become 13 = .ok (.putfield 22, 3) := by decide +kernel
theorem dX3_become_16 : decode cX3_become 16 = .ok (.aload_n 0, 1) := by decide +kernel
theorem dX3_become_17 : decode cX3_become 17 = .ok (.aload_n 1, 1) := by decide +kernel
theorem dX3_become_18 : decode cX3_become 18 = .ok (.getfield 25, 3) := by decide +kernel
theorem dX3_become_21 : decode cX3_become 21 = .ok (.putfield 25, 3) := by decide +kernel
theorem dX3_become_24 : decode cX3_become 24 = .ok (.aload_n 0, 1) := by decide +kernel
theorem dX3_become_25 : decode cX3_become 25 = .ok (.aload_n 1, 1) := by decide +kernel
theorem dX3_become_26 : decode cX3_become 26 = .ok (.getfield 28, 3) := by decide +kernel
theorem dX3_become_29 : decode cX3_become 29 = .ok (.putfield 28, 3) := by decide +kernel
theorem dX3_become_32 : decode cX3_become 32 = .ok (.aload_n 0, 1) := by decide +kernel
theorem dX3_become_33 : decode cX3_become 33 = .ok (.aload_n 1, 1) := by decide +kernel
theorem dX3_become_34 : decode cX3_become 34 = .ok (.getfield 31, 3) := by decide +kernel
theorem dX3_become_37 : decode cX3_become 37 = .ok (.putfield 31, 3) := by decide +kernel
theorem dX3_become_40 : decode cX3_become 40 = .ok (.aload_n 0, 1) := by decide +kernel
theorem dX3_become_41 : decode cX3_become 41 = .ok (.aload_n 1, 1) := by decide +kernel
theorem dX3_become_42 : decode cX3_become 42 = .ok (.getfield 34, 3) := by decide +kernel
theorem dX3_become_45 : decode cX3_become 45 = .ok (.putfield 34, 3) := by decide +kernel
theorem dX3_become_48 : decode cX3_become 48 = .ok (.aload_n 0, 1) := by decide +kernel
theorem dX3_become_49 : decode cX3_become 49 = .ok (.aload_n 1, 1) := by decide +kernel
theorem dX3_become_50 : decode cX3_become 50 = .ok (.getfield 37, 3) := by decide +kernel
theorem dX3_become_53 : decode cX3_become 53 = .ok (.putfield 37, 3) := by decide +kernel
theorem dX3_become_56 : decode cX3_become 56 = .ok (.aload_n 0, 1) := by decide +kernel
theorem dX3_become_57 : decode cX3_become 57 = .ok (.aload_n 1, 1) := by decide +kernel
theorem dX3_become_58 : decode cX3_become 58 = .ok (.getfield 47, 3) := by decide +kernel
theorem dX3_become_61 : decode cX3_become 61 = .ok (.putfield 47, 3) := by decide +kernel
theorem dX3_become_64 : decode cX3_become 64 = .ok (.aload_n 1, 1) := by decide +kernel
theorem dX3_become_65 : decode cX3_become 65 = .ok (.getfield 9, 3) := by decide +kernel
theorem dX3_become_68 : decode cX3_become 68 = .ok (.iconst 0, 1) := by decide +kernel
theorem dX3_become_69 : decode cX3_become 69 = .ok (.aload_n 0, 1) := by decide +kernel
theorem dX3_become_70 : decode cX3_become 70 = .ok (.getfield 9, 3) := by decide +kernel
theorem dX3_become_73 : decode cX3_become 73 = .ok (.iconst 0, 1) := by decide +kernel
theorem dX3_become_74 : decode cX3_become 74 = .ok (.bipush 9, 2) := by decide +kernel
theorem dX3_become_76 : decode cX3_become 76 = .ok (.invokestatic 50, 3) := by decide +kernel
theorem dX3_become_79 : decode cX3_become 79 = .ok (.return_, 1) := by decide +kernel
theorem dX3_clearSteps_0 : decode cX3_clearSteps 0 = .ok (.aload_n 0, 1) := by decide +kernel
theorem dX3_clearSteps_1 : decode cX3_clearSteps 1 = .ok (.iconst 0, 1) := by decide +kernel
theorem dX3_clearSteps_2 : decode cX3_clearSteps 2 = .ok (.putfield 47, 3) := by decide +kernel
theorem dX3_clearSteps_5 : decode cX3_clearSteps 5 = .ok (.return_, 1) := by decide +kernel
theorem dX3_addStep_0 : decode cX3_addStep 0 = .ok (.aload_n 0, 1) := by decide +kernel
theorem dX3_addStep_1 : decode cX3_addStep 1 = .ok (.getfield 47, 3) := by decide +kernel
theorem dX3_addStep_4 : decode cX3_addStep 4 = .ok (.bipush 9, 2) := by decide +kernel
theorem dX3_addStep_6 : decode cX3_addStep 6 = .ok (.if_icmp .ge 23, 3) := by decide +kernel
theorem dX3_addStep_9 : decode cX3_addStep 9 = .ok (.aload_n 0, 1) := by decide +kernel
theorem dX3_addStep_10 : decode cX3_addStep 10 = .ok (.getfield 9, 3) := by decide +kernel
theorem dX3_addStep_13 : decode cX3_addStep 13 = .ok (.aload_n 0, 1) := by decide +kernel
theorem dX3_addStep_14 : decode cX3_addStep 14 = .ok (.getfield 47, 3) := by decide +kernel
theorem dX3_addStep_17 : decode cX3_addStep 17 = .ok (.iload_n 1, 1) := by decide +kernel
theorem dX3_addStep_18 : decode cX3_addStep 18 = .ok (.iastore, 1) := by decide +kernel
theorem dX3_addStep_19 : decode cX3_addStep 19 = .ok (.aload_n 0, 1) := by decide +kernel
theorem dX3_addStep_20 : decode cX3_addStep 20 = .ok (.dup, 1) := by decide +kernel
theorem dX3_addStep_21 : decode cX3_addStep 21 = .ok (.getfield 47, 3) := by decide +kernel
theorem dX3_addStep_24 : decode cX3_addStep 24 = .ok (.iconst 1, 1) := by decide +kernel
theorem dX3_addStep_25 : decode cX3_addStep 25 = .ok (.iadd, 1) := by decide +kernel
theorem dX3_addStep_26 : decode cX3_addStep 26 = .ok (.putfield 47, 3) := by decide +kernel
theorem dX3_addStep_29 : decode cX3_addStep 29 = .ok (.return_, 1) := by decide +kernel
theorem dX3_stepsUpTo_0 : decode cX3_stepsUpTo 0 = .ok (.iconst 0, 1) := by decide +kernel
theorem dX3_stepsUpTo_1 : decode cX3_stepsUpTo 1 = .ok (.istore_n 2, 1) := by decide +kernel
theorem dX3_stepsUpTo_2 : decode cX3_stepsUpTo 2 = .ok (.iconst 0, 1) := by decide +kernel
theorem dX3_stepsUpTo_3 : decode cX3_stepsUpTo 3 = .ok (.istore_n 3, 1) := by decide +kernel
theorem dX3_stepsUpTo_4 : decode cX3_stepsUpTo 4 = .ok (.iload_n 3, 1) := by decide +kernel
theorem dX3_stepsUpTo_5 : decode cX3_stepsUpTo 5 = .ok (.aload_n 0, 1) := by decide +kernel
theorem dX3_stepsUpTo_6 : decode cX3_stepsUpTo 6 = .ok (.getfield 47, 3) := by decide +kernel
theorem dX3_stepsUpTo_9 : decode cX3_stepsUpTo 9 = .ok (.if_icmp .ge 22, 3) := by decide +kernel
theorem dX3_stepsUpTo_12 : decode cX3_stepsUpTo 12 = .ok (.aload_n 0, 1) := by decide +kernel
theorem dX3_stepsUpTo_13 : decode cX3_stepsUpTo 13 = .ok (.getfield 9, 3) := by decide +kernel
theorem dX3_stepsUpTo_16 : decode cX3_stepsUpTo 16 = .ok (.iload_n 3, 1) := by decide +kernel
theorem dX3_stepsUpTo_17 : decode cX3_stepsUpTo 17 = .ok (.iaload, 1) := by decide +kernel
theorem dX3_stepsUpTo_18 : decode cX3_stepsUpTo 18 = .ok (.iload_n 1, 1) := by decide +kernel
theorem dX3_stepsUpTo_19 : decode cX3_stepsUpTo 19 = .ok (.if_icmp .gt 6, 3) := by decide +kernel
theorem dX3_stepsUpTo_22 : decode cX3_stepsUpTo 22 = .ok (.iinc 2 1, 3) := by decide +kernel
theorem dX3_stepsUpTo_25 : decode cX3_stepsUpTo 25 = .ok (.iinc 3 1, 3) := by decide +kernel
theorem dX3_stepsUpTo_28 : decode cX3_stepsUpTo 28 = .ok (.goto (-24), 3) := by decide +kernel
theorem dX3_stepsUpTo_31 : decode cX3_stepsUpTo 31 = .ok (.iload_n 2, 1) := by decide +kernel
theorem dX3_stepsUpTo_32 : decode cX3_stepsUpTo 32 = .ok (.ireturn, 1) := by decide +kernel
theorem dX3_windowsBelow_0 : decode cX3_windowsBelow 0 = .ok (.aload_n 0, 1) := by decide +kernel
theorem dX3_windowsBelow_1 : decode cX3_windowsBelow 1 = .ok (.getfield 31, 3) := by decide +kernel
theorem dX3_windowsBelow_4 : decode cX3_windowsBelow 4 = .ok (.iconst 2, 1) := by decide +kernel
theorem dX3_windowsBelow_5 : decode cX3_windowsBelow 5 = .ok (.if_icmp .ge 7, 3) := by decide +kernel
theorem dX3_windowsBelow_8 : decode cX3_windowsBelow 8 = .ok (.iconst 0, 1) := by decide +kernel
theorem dX3_windowsBelow_9 : decode cX3_windowsBelow 9 = .ok (.goto 9, 3) := by decide +kernel
theorem dX3_windowsBelow_12 : decode cX3_windowsBelow 12 = .ok (.iload_n 1, 1) := by decide +kernel
theorem dX3_windowsBelow_13 : decode cX3_windowsBelow 13 = .ok (.aload_n 0, 1) := by decide +kernel
theorem dX3_windowsBelow_14 : decode cX3_windowsBelow 14 = .ok (.getfield 31, 3) := by decide +kernel
theorem dX3_windowsBelow_17 : decode cX3_windowsBelow 17 = .ok (.idiv, 1) := by decide +kernel
theorem dX3_windowsBelow_18 : decode cX3_windowsBelow 18 = .ok (.ireturn, 1) := by decide +kernel
set_option maxRecDepth 20000 in
theorem ggX4_init_X5_init : GoodIn wsX4_init wsX5_init := goodIn_r _ [15, 16, 2, 3, 17, 18, 19, 20, 21] (by decide +kernel) (by decide +kernel)
set_option maxRecDepth 20000 in
theorem gX4_init_X5_init : GoodIn wsX4_init (wsX5_init) := ggX4_init_X5_init
theorem dX4_init_0 : decode cX4_init 0 = .ok (.aload_n 0, 1) := by decide +kernel
theorem dX4_init_1 : decode cX4_init 1 = .ok (.invokespecial 3, 3) := by decide +kernel
theorem dX4_init_4 : decode cX4_init 4 = .ok (.aload_n 0, 1) := by decide +kernel
theorem dX4_init_5 : decode cX4_init 5 = .ok (.new 9, 3) := by decide +kernel
theorem dX4_init_8 : decode cX4_init 8 = .ok (.dup, 1) := by decide +kernel
theorem dX4_init_9 : decode cX4_init 9 = .ok (.invokespecial 11, 3) := by decide +kernel
theorem dX4_init_12 : decode cX4_init 12 = .ok (.putfield 12, 3) := by decide +kernel
theorem dX4_init_15 : decode cX4_init 15 = .ok (.aload_n 0, 1) := by decide +kernel
theorem dX4_init_16 : decode cX4_init 16 = .ok (.iconst 0, 1) := by decide +kernel
theorem dX4_init_17 : decode cX4_init 17 = .ok (.putfield 18, 3) := by decide +kernel
theorem dX4_init_20 : decode cX4_init 20 = .ok (.aload_n 0, 1) := by decide +kernel
theorem dX4_init_21 : decode cX4_init 21 = .ok (.iconst 0, 1) := by decide +kernel
theorem dX4_init_22 : decode cX4_init 22 = .ok (.putfield 22, 3) := by decide +kernel
theorem dX4_init_25 : decode cX4_init 25 = .ok (.aload_n 0, 1) := by decide +kernel
theorem dX4_init_26 : decode cX4_init 26 = .ok (.iconst 0, 1) := by decide +kernel
theorem dX4_init_27 : decode cX4_init 27 = .ok (.putfield 25, 3) := by decide +kernel
theorem dX4_init_30 : decode cX4_init 30 = .ok (.aload_n 0, 1) := by decide +kernel
theorem dX4_init_31 : decode cX4_init 31 = .ok (.iconst 0, 1) := by decide +kernel
theorem dX4_init_32 : decode cX4_init 32 = .ok (.putfield 28, 3) := by decide +kernel
theorem dX4_init_35 : decode cX4_init 35 = .ok (.aload_n 0, 1) := by decide +kernel
theorem dX4_init_36 : decode cX4_init 36 = .ok (.iconst (-1), 1) := by decide +kernel
theorem dX4_init_37 : decode cX4_init 37 = .ok (.putfield 31, 3) := by decide +kernel
theorem dX4_init_40 : decode cX4_init 40 = .ok (.return_, 1) := by decide +kernel
theorem dX4_faultKind_0 : decode cX4_faultKind 0 = .ok (.aload_n 0, 1) := by decide +kernel
theorem dX4_faultKind_1 : decode cX4_faultKind 1 = .ok (.getfield 28, 3) := by decide +kernel
theorem dX4_faultKind_4 : decode cX4_faultKind 4 = .ok (.ireturn, 1) := by decide +kernel
theorem dX4_faultPlace_0 : decode cX4_faultPlace 0 = .ok (.aload_n 0, 1) := by decide +kernel
theorem dX4_faultPlace_1 : decode cX4_faultPlace 1 = .ok (.getfield 31, 3) := by decide +kernel
theorem dX4_faultPlace_4 : decode cX4_faultPlace 4 = .ok (.ireturn, 1) := by decide +kernel
set_option maxRecDepth 20000 in
theorem ggX4_readInto_X3_reset : GoodIn wsX4_readInto wsX3_reset := goodIn_r _ [9, 10, 11, 12, 13, 14, 15, 16, 17, 18, 19, 8, 20, 21, 22, 23, 24, 25, 26, 148, 149, 150, 151, 152, 153, 154, 155, 156] (by decide +kernel) (by decide +kernel)
set_option maxRecDepth 20000 in
theorem gX4_readInto_X3_reset : GoodIn wsX4_readInto (wsV RX4 34 RX3 yX3_reset wsX3_reset) := goodIn_app (goodIn_of _ (by decide +kernel)) ggX4_readInto_X3_reset
set_option maxRecDepth 20000 in
theorem ggX4_readInto_X4_skipBlanks : GoodIn wsX4_readInto wsX4_skipBlanks := goodIn_r _ [31, 2, 1, 32, 33, 34, 30, 35, 36, 37, 38, 39, 40, 41, 42, 43, 142, 143, 144, 145, 146, 147, 157, 158] (by decide +kernel) (by decide +kernel)
set_option maxRecDepth 20000 in
theorem gX4_readInto_X4_skipBlanks : GoodIn wsX4_readInto (wsV RX4 39 RX4 yX4_skipBlanks wsX4_skipBlanks) := goodIn_app (goodIn_of _ (by decide +kernel)) ggX4_readInto_X4_skipBlanks
set_option maxRecDepth 20000 in
theorem ggX4_readInto_X4_readClause : GoodIn wsX4_readInto wsX4_readClause := goodIn_r _ [47, 2, 48, 49, 50, 30, 51, 52, 53, 54, 55, 1, 32, 33, 34, 35, 36, 37, 38, 39, 40, 41, 42, 43, 56, 57, 58, 59, 60, 61, 62, 63, 64, 65, 66, 67, 68, 69, 70, 71, 72, 73, 74, 75, 76, 77, 78, 79, 80, 81, 82, 83, 84, 85, 86, 87, 88, 89, 90, 91, 92, 93, 94, 95, 96, 97, 98, 99, 100, 101, 102, 103, 104, 105, 106, 107, 108, 109, 110, 111, 112, 113, 114, 115, 3, 4, 116, 117, 118, 119, 120, 121, 18, 19, 8, 20, 21, 122, 123, 124, 125, 126, 127, 128, 129, 27, 28, 29, 31, 130, 131, 132, 133, 23, 24, 25, 26, 134, 135, 136, 137, 138, 139, 140, 141, 142, 143, 144, 145, 146, 147, 148, 149, 150, 151, 152, 153, 154, 155, 156, 157, 158] (by decide +kernel) (by decide +kernel)
set_option maxRecDepth 20000 in
theorem gX4_readInto_X4_readClause : GoodIn wsX4_readInto (wsV RX4 42 RX4 yX4_readClause wsX4_readClause) := goodIn_app (goodIn_of _ (by decide +kernel)) ggX4_readInto_X4_readClause
theorem dX4_readInto_0 : decode cX4_readInto 0 = .ok (.aload_n 0, 1) := by decide +kernel
theorem dX4_readInto_1 : decode cX4_readInto 1 = .ok (.iload_n 2, 1) := by decide +kernel
theorem dX4_readInto_2 : decode cX4_readInto 2 = .ok (.putfield 18, 3) := by decide +kernel
theorem dX4_readInto_5 : decode cX4_readInto 5 = .ok (.aload_n 0, 1) := by decide +kernel
theorem dX4_readInto_6 : decode cX4_readInto 6 = .ok (.iconst 0, 1) := by decide +kernel
theorem dX4_readInto_7 : decode cX4_readInto 7 = .ok (.putfield 22, 3) := by decide +kernel
theorem dX4_readInto_10 : decode cX4_readInto 10 = .ok (.aload_n 0, 1) := by decide +kernel
theorem dX4_readInto_11 : decode cX4_readInto 11 = .ok (.iconst 0, 1) := by decide +kernel
theorem dX4_readInto_12 : decode cX4_readInto 12 = .ok (.putfield 28, 3) := by decide +kernel
theorem dX4_readInto_15 : decode cX4_readInto 15 = .ok (.aload_n 0, 1) := by decide +kernel
theorem dX4_readInto_16 : decode cX4_readInto 16 = .ok (.iconst (-1), 1) := by decide +kernel
theorem dX4_readInto_17 : decode cX4_readInto 17 = .ok (.putfield 31, 3) := by decide +kernel
theorem dX4_readInto_20 : decode cX4_readInto 20 = .ok (.aload_n 1, 1) := by decide +kernel
theorem dX4_readInto_21 : decode cX4_readInto 21 = .ok (.invokevirtual 34, 3) := by decide +kernel
theorem dX4_readInto_24 : decode cX4_readInto 24 = .ok (.iconst 1, 1) := by decide +kernel
theorem dX4_readInto_25 : decode cX4_readInto 25 = .ok (.istore_n 3, 1) := by decide +kernel
theorem dX4_readInto_26 : decode cX4_readInto 26 = .ok (.aload_n 0, 1) := by decide +kernel
theorem dX4_readInto_27 : decode cX4_readInto 27 = .ok (.invokevirtual 39, 3) := by decide +kernel
theorem dX4_readInto_30 : decode cX4_readInto 30 = .ok (.iconst 0, 1) := by decide +kernel
theorem dX4_readInto_31 : decode cX4_readInto 31 = .ok (.istore 4, 2) := by decide +kernel
theorem dX4_readInto_33 : decode cX4_readInto 33 = .ok (.iload 4, 2) := by decide +kernel
theorem dX4_readInto_35 : decode cX4_readInto 35 = .ok (.bipush 12, 2) := by decide +kernel
theorem dX4_readInto_37 : decode cX4_readInto 37 = .ok (.if_icmp .gt 34, 3) := by decide +kernel
theorem dX4_readInto_40 : decode cX4_readInto 40 = .ok (.iload_n 3, 1) := by decide +kernel
theorem dX4_readInto_41 : decode cX4_readInto 41 = .ok (.ifCond .eq 30, 3) := by decide +kernel
theorem dX4_readInto_44 : decode cX4_readInto 44 = .ok (.aload_n 0, 1) := by decide +kernel
theorem dX4_readInto_45 : decode cX4_readInto 45 = .ok (.getfield 22, 3) := by decide +kernel
theorem dX4_readInto_48 : decode cX4_readInto 48 = .ok (.aload_n 0, 1) := by decide +kernel
theorem dX4_readInto_49 : decode cX4_readInto 49 = .ok (.getfield 18, 3) := by decide +kernel
theorem dX4_readInto_52 : decode cX4_readInto 52 = .ok (.if_icmp .ge 19, 3) := by decide +kernel
theorem dX4_readInto_55 : decode cX4_readInto 55 = .ok (.aload_n 0, 1) := by decide +kernel
theorem dX4_readInto_56 : decode cX4_readInto 56 = .ok (.aload_n 1, 1) := by decide +kernel
theorem dX4_readInto_57 : decode cX4_readInto 57 = .ok (.invokevirtual 42, 3) := by decide +kernel
theorem dX4_readInto_60 : decode cX4_readInto 60 = .ok (.istore_n 3, 1) := by decide +kernel
theorem dX4_readInto_61 : decode cX4_readInto 61 = .ok (.aload_n 0, 1) := by decide +kernel
theorem dX4_readInto_62 : decode cX4_readInto 62 = .ok (.invokevirtual 39, 3) := by decide +kernel
theorem dX4_readInto_65 : decode cX4_readInto 65 = .ok (.iinc 4 1, 3) := by decide +kernel
theorem dX4_readInto_68 : decode cX4_readInto 68 = .ok (.goto (-35), 3) := by decide +kernel
theorem dX4_readInto_71 : decode cX4_readInto 71 = .ok (.iload_n 3, 1) := by decide +kernel
theorem dX4_readInto_72 : decode cX4_readInto 72 = .ok (.ireturn, 1) := by decide +kernel
set_option maxRecDepth 20000 in
theorem ggX4_readClause_X4_readKind : GoodIn wsX4_readClause wsX4_readKind := goodIn_r _ [6, 1, 7, 8, 9, 5, 10, 11, 12, 13, 14, 15, 16, 17, 18, 19, 20, 21, 22, 23, 24, 25, 26, 27, 28, 29, 30, 31, 32, 33, 34, 35, 36, 37, 38, 39, 40, 41, 42, 43, 44, 45, 46, 47, 48, 49, 50, 51, 52, 53, 54, 55, 56, 57, 58, 59, 60, 61, 62, 63, 64, 65, 66, 67, 68, 69, 70, 71, 72, 73, 74, 75, 76, 77, 78, 79, 125, 126, 127, 128, 129, 130, 140, 141] (by decide +kernel) (by decide +kernel)
set_option maxRecDepth 20000 in
theorem gX4_readClause_X4_readKind : GoodIn wsX4_readClause (wsV RX4 46 RX4 yX4_readKind wsX4_readKind) := goodIn_app (goodIn_of _ (by decide +kernel)) ggX4_readClause_X4_readKind
set_option maxRecDepth 20000 in
theorem ggX4_readClause_X4_refuse : GoodIn wsX4_readClause wsX4_refuse := goodIn_r _ [83, 84, 85, 125, 126, 127, 128, 129, 130] (by decide +kernel) (by decide +kernel)
set_option maxRecDepth 20000 in
theorem gX4_readClause_X4_refuse : GoodIn wsX4_readClause (wsV RX4 50 RX4 yX4_refuse wsX4_refuse) := goodIn_app (goodIn_of _ (by decide +kernel)) ggX4_readClause_X4_refuse
set_option maxRecDepth 20000 in
theorem ggX4_readClause_X4_readSteps : GoodIn wsX4_readClause wsX4_readSteps := goodIn_r _ [89, 90, 91, 92, 93, 94, 95, 96, 97, 98, 99, 5, 100, 1, 11, 101, 102, 103, 104, 105, 106, 107, 108, 12, 13, 14, 15, 16, 17, 18, 19, 20, 21, 22, 23, 109, 110, 111, 24, 25, 26, 80, 81, 82, 83, 84, 85, 112, 113, 114, 115, 116, 125, 126, 127, 128, 129, 130, 131, 132, 133, 134, 135, 136, 137, 138, 139, 140, 141] (by decide +kernel) (by decide +kernel)
set_option maxRecDepth 20000 in
theorem gX4_readClause_X4_readSteps : GoodIn wsX4_readClause (wsV RX4 57 RX4 yX4_readSteps wsX4_readSteps) := goodIn_app (goodIn_of _ (by decide +kernel)) ggX4_readClause_X4_readSteps
set_option maxRecDepth 20000 in
theorem ggX4_readClause_X4_readShare : GoodIn wsX4_readClause wsX4_readShare := goodIn_r _ [120, 1, 90, 97, 98, 99, 5, 100, 11, 101, 102, 103, 104, 105, 106, 107, 108, 12, 13, 14, 15, 16, 17, 18, 19, 20, 21, 22, 23, 109, 110, 111, 24, 25, 26, 80, 81, 82, 83, 84, 85, 7, 8, 9, 10, 27, 28, 29, 30, 31, 32, 33, 34, 35, 36, 37, 38, 39, 40, 41, 42, 43, 44, 45, 46, 47, 48, 49, 50, 51, 52, 53, 54, 55, 56, 57, 58, 59, 60, 61, 62, 63, 64, 65, 66, 67, 68, 69, 70, 71, 72, 73, 74, 75, 76, 77, 78, 79, 125, 126, 127, 128, 129, 130, 131, 132, 133, 134, 135, 136, 137, 138, 139, 140, 141] (by decide +kernel) (by decide +kernel)
set_option maxRecDepth 20000 in
theorem gX4_readClause_X4_readShare : GoodIn wsX4_readClause (wsV RX4 60 RX4 yX4_readShare wsX4_readShare) := goodIn_app (goodIn_of _ (by decide +kernel)) ggX4_readClause_X4_readShare
set_option maxRecDepth 20000 in
theorem ggX4_readClause_X4_readSetting : GoodIn wsX4_readClause wsX4_readSetting := goodIn_r _ [124, 90, 97, 98, 99, 5, 100, 1, 11, 101, 102, 103, 104, 105, 106, 107, 108, 12, 13, 14, 15, 16, 17, 18, 19, 20, 21, 22, 23, 109, 110, 111, 24, 25, 26, 80, 81, 82, 83, 84, 85, 131, 132, 133, 134, 135, 136, 137, 138, 139, 125, 126, 127, 128, 129, 130, 140, 141] (by decide +kernel) (by decide +kernel)
set_option maxRecDepth 20000 in
theorem gX4_readClause_X4_readSetting : GoodIn wsX4_readClause (wsV RX4 63 RX4 yX4_readSetting wsX4_readSetting) := goodIn_app (goodIn_of _ (by decide +kernel)) ggX4_readClause_X4_readSetting
set_option maxRecDepth 20000 in
theorem ggX4_readClause_X4_skipBlanks : GoodIn wsX4_readClause wsX4_skipBlanks := goodIn_r _ [108, 1, 11, 12, 13, 14, 5, 15, 16, 17, 18, 19, 20, 21, 22, 23, 125, 126, 127, 128, 129, 130, 140, 141] (by decide +kernel) (by decide +kernel)
set_option maxRecDepth 20000 in
theorem gX4_readClause_X4_skipBlanks : GoodIn wsX4_readClause (wsV RX4 39 RX4 yX4_skipBlanks wsX4_skipBlanks) := goodIn_app (goodIn_of _ (by decide +kernel)) ggX4_readClause_X4_skipBlanks
set_option maxRecDepth 20000 in
theorem ggX4_readClause_X4_look : GoodIn wsX4_readClause wsX4_look := goodIn_r _ [15, 1, 11, 16, 17, 18, 19, 20, 21, 22, 23, 125, 126, 127, 128, 129, 130, 140, 141] (by decide +kernel) (by decide +kernel)
set_option maxRecDepth 20000 in
theorem gX4_readClause_X4_look : GoodIn wsX4_readClause (wsV RX4 67 RX4 yX4_look wsX4_look) := goodIn_app (goodIn_of _ (by decide +kernel)) ggX4_readClause_X4_look
theorem dX4_readClause_0 : decode cX4_readClause 0 = .ok (.aload_n 0, 1) := by decide +kernel
theorem dX4_readClause_1 : decode cX4_readClause 1 = .ok (.getfield 22, 3) := by decide +kernel
theorem dX4_readClause_4 : decode cX4_readClause 4 = .ok (.istore_n 2, 1) := by decide +kernel
theorem dX4_readClause_5 : decode cX4_readClause 5 = .ok (.aload_n 0, 1) := by decide +kernel
theorem dX4_readClause_6 : decode cX4_readClause 6 = .ok (.invokevirtual 46, 3) := by decide +kernel
theorem dX4_readClause_9 : decode cX4_readClause 9 = .ok (.istore_n 3, 1) := by decide +kernel
theorem dX4_readClause_10 : decode cX4_readClause 10 = .ok (.iload_n 3, 1) := by decide +kernel
theorem dX4_readClause_11 : decode cX4_readClause 11 = .ok (.iconst (-1), 1) := by decide +kernel
theorem dX4_readClause_12 : decode cX4_readClause 12 = .ok (.if_icmp .ne 10, 3) := by decide +kernel
theorem dX4_readClause_15 : decode cX4_readClause 15 = .ok (.aload_n 0, 1) := by decide +kernel
theorem dX4_readClause_16 : decode cX4_readClause 16 = .ok (.iconst 1, 1) := by decide +kernel
theorem dX4_readClause_17 : decode cX4_readClause 17 = .ok (.iload_n 2, 1) := by decide +kernel
theorem dX4_readClause_18 : decode cX4_readClause 18 = .ok (.invokevirtual 50, 3) := by decide +kernel
theorem dX4_readClause_21 : decode cX4_readClause 21 = .ok (.ireturn, 1) := by decide +kernel
theorem dX4_readClause_22 : decode cX4_readClause 22 = .ok (.aload_n 1, 1) := by decide +kernel
theorem dX4_readClause_23 : decode cX4_readClause 23 = .ok (.getfield 54, 3) := by decide +kernel
theorem dX4_readClause_26 : decode cX4_readClause 26 = .ok (.bipush 12, 2) := by decide +kernel
theorem dX4_readClause_28 : decode cX4_readClause 28 = .ok (.if_icmp .lt 10, 3) := by decide +kernel
theorem dX4_readClause_31 : decode cX4_readClause 31 = .ok (.aload_n 0, 1) := by decide +kernel
theorem dX4_readClause_32 : decode cX4_readClause 32 = .ok (.iconst 3, 1) := by decide +kernel
theorem dX4_readClause_33 : decode cX4_readClause 33 = .ok (.iload_n 2, 1) := by decide +kernel
theorem dX4_readClause_34 : decode cX4_readClause 34 = .ok (.invokevirtual 50, 3) := by decide +kernel
theorem dX4_readClause_37 : decode cX4_readClause 37 = .ok (.ireturn, 1) := by decide +kernel
theorem dX4_readClause_38 : decode cX4_readClause 38 = .ok (.iload_n 3, 1) := by decide +kernel
theorem dX4_readClause_39 : decode cX4_readClause 39 = .ok (.iconst 5, 1) := by decide +kernel
theorem dX4_readClause_40 : decode cX4_readClause 40 = .ok (.if_icmp .ne 11, 3) := by decide +kernel
theorem dX4_readClause_43 : decode cX4_readClause 43 = .ok (.aload_n 0, 1) := by decide +kernel
theorem dX4_readClause_44 : decode cX4_readClause 44 = .ok (.aload_n 1, 1) := by decide +kernel
theorem dX4_readClause_45 : decode cX4_readClause 45 = .ok (.invokevirtual 57, 3) := by decide +kernel
theorem dX4_readClause_48 : decode cX4_readClause 48 = .ok (.goto 22, 3) := by decide +kernel
theorem dX4_readClause_51 : decode cX4_readClause 51 = .ok (.iload_n 3, 1) := by decide +kernel
theorem dX4_readClause_52 : decode cX4_readClause 52 = .ok (.iconst 2, 1) := by decide +kernel
theorem dX4_readClause_53 : decode cX4_readClause 53 = .ok (.if_icmp .ne 11, 3) := by decide +kernel
theorem dX4_readClause_56 : decode cX4_readClause 56 = .ok (.aload_n 0, 1) := by decide +kernel
theorem dX4_readClause_57 : decode cX4_readClause 57 = .ok (.aload_n 1, 1) := by decide +kernel
theorem dX4_readClause_58 : decode cX4_readClause 58 = .ok (.invokevirtual 60, 3) := by decide +kernel
theorem dX4_readClause_61 : decode cX4_readClause 61 = .ok (.goto 9, 3) := by decide +kernel
theorem dX4_readClause_64 : decode cX4_readClause 64 = .ok (.aload_n 0, 1) := by decide +kernel
theorem dX4_readClause_65 : decode cX4_readClause 65 = .ok (.iload_n 3, 1) := by decide +kernel
theorem dX4_readClause_66 : decode cX4_readClause 66 = .ok (.aload_n 1, 1) := by decide +kernel
theorem dX4_readClause_67 : decode cX4_readClause 67 = .ok (.invokevirtual 63, 3) := by decide +kernel
theorem dX4_readClause_70 : decode cX4_readClause 70 = .ok (.istore 4, 2) := by decide +kernel
theorem dX4_readClause_72 : decode cX4_readClause 72 = .ok (.iload 4, 2) := by decide +kernel
theorem dX4_readClause_74 : decode cX4_readClause 74 = .ok (.ifCond .ne 5, 3) := by decide +kernel
theorem dX4_readClause_77 : decode cX4_readClause 77 = .ok (.iconst 0, 1) := by decide +kernel
theorem dX4_readClause_78 : decode cX4_readClause 78 = .ok (.ireturn, 1) := by decide +kernel
theorem dX4_readClause_79 : decode cX4_readClause 79 = .ok (.aload_n 0, 1) := by decide +kernel
theorem dX4_readClause_80 : decode cX4_readClause 80 = .ok (.invokevirtual 39, 3) := by decide +kernel
theorem dX4_readClause_83 : decode cX4_readClause 83 = .ok (.aload_n 0, 1) := by decide +kernel
theorem dX4_readClause_84 : decode cX4_readClause 84 = .ok (.invokevirtual 67, 3) := by decide +kernel
theorem dX4_readClause_87 : decode cX4_readClause 87 = .ok (.bipush 59, 2) := by decide +kernel
theorem dX4_readClause_89 : decode cX4_readClause 89 = .ok (.if_icmp .eq 13, 3) := by decide +kernel
theorem dX4_readClause_92 : decode cX4_readClause 92 = .ok (.aload_n 0, 1) := by decide +kernel
theorem dX4_readClause_93 : decode cX4_readClause 93 = .ok (.iconst 1, 1) := by decide +kernel
theorem dX4_readClause_94 : decode cX4_readClause 94 = .ok (.aload_n 0, 1) := by decide +kernel
theorem dX4_readClause_95 : decode cX4_readClause 95 = .ok (.getfield 22, 3) := by decide +kernel
theorem dX4_readClause_98 : decode cX4_readClause 98 = .ok (.invokevirtual 50, 3) := by decide +kernel
theorem dX4_readClause_101 : decode cX4_readClause 101 = .ok (.ireturn, 1) := by decide +kernel
theorem dX4_readClause_102 : decode cX4_readClause 102 = .ok (.aload_n 0, 1) := by decide +kernel
theorem dX4_readClause_103 : decode cX4_readClause 103 = .ok (.dup, 1) := by decide +kernel
theorem dX4_readClause_104 : decode cX4_readClause 104 = .ok (.getfield 22, 3) := by decide +kernel
theorem dX4_readClause_107 : decode cX4_readClause 107 = .ok (.iconst 1, 1) := by decide +kernel
theorem dX4_readClause_108 : decode cX4_readClause 108 = .ok (.iadd, 1) := by decide +kernel
theorem dX4_readClause_109 : decode cX4_readClause 109 = .ok (.putfield 22, 3) := by decide +kernel
theorem dX4_readClause_112 : decode cX4_readClause 112 = .ok (.aload_n 1, 1) := by decide +kernel
theorem dX4_readClause_113 : decode cX4_readClause 113 = .ok (.dup, 1) := by decide +kernel
theorem dX4_readClause_114 : decode cX4_readClause 114 = .ok (.getfield 54, 3) := by decide +kernel
theorem dX4_readClause_117 : decode cX4_readClause 117 = .ok (.iconst 1, 1) := by decide +kernel
theorem dX4_readClause_118 : decode cX4_readClause 118 = .ok (.iadd, 1) := by decide +kernel
theorem dX4_readClause_119 : decode cX4_readClause 119 = .ok (.putfield 54, 3) := by decide +kernel
theorem dX4_readClause_122 : decode cX4_readClause 122 = .ok (.iconst 1, 1) := by decide +kernel
theorem dX4_readClause_123 : decode cX4_readClause 123 = .ok (.ireturn, 1) := by decide +kernel
set_option maxRecDepth 20000 in
theorem ggX4_readKind_X4_skipLetters : GoodIn wsX4_readKind wsX4_skipLetters := goodIn_r _ [6, 1, 7, 8, 9, 10, 5, 11, 12, 13, 14, 15, 16, 17, 18, 19, 20, 21, 22, 76, 77, 78, 79, 80, 81, 82, 83] (by decide +kernel) (by decide +kernel)
set_option maxRecDepth 20000 in
theorem gX4_readKind_X4_skipLetters : GoodIn wsX4_readKind (wsV RX4 70 RX4 yX4_skipLetters wsX4_skipLetters) := goodIn_app (goodIn_of _ (by decide +kernel)) ggX4_readKind_X4_skipLetters
set_option maxRecDepth 20000 in
theorem ggX4_readKind_X4_spells : GoodIn wsX4_readKind wsX4_spells := goodIn_r _ [26, 1, 12, 27, 28, 29, 30, 31, 32, 33, 34, 35, 36, 37, 38, 13, 14, 15, 16, 17, 18, 19, 39, 40, 41, 42, 43, 44, 45, 46, 47, 48, 49, 50, 51, 52, 53, 54, 55, 56, 57, 58, 59, 60, 61, 62, 63, 64, 65, 66, 67, 68, 69, 70, 71, 72, 73, 74, 75, 76, 77, 78, 79, 80, 81, 82, 83] (by decide +kernel) (by decide +kernel)
set_option maxRecDepth 20000 in
theorem gX4_readKind_X4_spells : GoodIn wsX4_readKind (wsV RX4 75 RX4 yX4_spells wsX4_spells) := goodIn_app (goodIn_of _ (by decide +kernel)) ggX4_readKind_X4_spells
theorem dX4_readKind_0 : decode cX4_readKind 0 = .ok (.aload_n 0, 1) := by decide +kernel
theorem dX4_readKind_1 : decode cX4_readKind 1 = .ok (.getfield 22, 3) := by decide +kernel
theorem dX4_readKind_4 : decode cX4_readKind 4 = .ok (.istore_n 1, 1) := by decide +kernel
theorem dX4_readKind_5 : decode cX4_readKind 5 = .ok (.aload_n 0, 1) := by decide +kernel
theorem dX4_readKind_6 : decode cX4_readKind 6 = .ok (.invokevirtual 70, 3) := by decide +kernel
theorem dX4_readKind_9 : decode cX4_readKind 9 = .ok (.aload_n 0, 1) := by decide +kernel
theorem dX4_readKind_10 : decode cX4_readKind 10 = .ok (.ldc 73, 2) := by decide +kernel
theorem dX4_readKind_12 : decode cX4_readKind 12 = .ok (.iload_n 1, 1) := by decide +kernel
theorem dX4_readKind_13 : decode cX4_readKind 13 = .ok (.invokevirtual 75, 3) := by decide +kernel
theorem dX4_readKind_16 : decode cX4_readKind 16 = .ok (.ifCond .eq 5, 3) := by decide +kernel
theorem dX4_readKind_19 : decode cX4_readKind 19 = .ok (.iconst 0, 1) := by decide +kernel
theorem dX4_readKind_20 : decode cX4_readKind 20 = .ok (.ireturn, 1) := by decide +kernel
theorem dX4_readKind_21 : decode cX4_readKind 21 = .ok (.aload_n 0, 1) := by decide +kernel
theorem dX4_readKind_22 : decode cX4_readKind 22 = .ok (.ldc 79, 2) := by decide +kernel
theorem dX4_readKind_24 : decode cX4_readKind 24 = .ok (.iload_n 1, 1) := by decide +kernel
theorem dX4_readKind_25 : decode cX4_readKind 25 = .ok (.invokevirtual 75, 3) := by decide +kernel
theorem dX4_readKind_28 : decode cX4_readKind 28 = .ok (.ifCond .eq 5, 3) := by decide +kernel
theorem dX4_readKind_31 : decode cX4_readKind 31 = .ok (.iconst 1, 1) := by decide +kernel
theorem dX4_readKind_32 : decode cX4_readKind 32 = .ok (.ireturn, 1) := by decide +kernel
theorem dX4_readKind_33 : decode cX4_readKind 33 = .ok (.aload_n 0, 1) := by decide +kernel
theorem dX4_readKind_34 : decode cX4_readKind 34 = .ok (.ldc 81, 2) := by decide +kernel
theorem dX4_readKind_36 : decode cX4_readKind 36 = .ok (.iload_n 1, 1) := by decide +kernel
theorem dX4_readKind_37 : decode cX4_readKind 37 = .ok (.invokevirtual 75, 3) := by decide +kernel
theorem dX4_readKind_40 : decode cX4_readKind 40 = .ok (.ifCond .eq 5, 3) := by decide +kernel
theorem dX4_readKind_43 : decode cX4_readKind 43 = .ok (.iconst 2, 1) := by decide +kernel
theorem dX4_readKind_44 : decode cX4_readKind 44 = .ok (.ireturn, 1) := by decide +kernel
theorem dX4_readKind_45 : decode cX4_readKind 45 = .ok (.aload_n 0, 1) := by decide +kernel
theorem dX4_readKind_46 : decode cX4_readKind 46 = .ok (.ldc 83, 2) := by decide +kernel
theorem dX4_readKind_48 : decode cX4_readKind 48 = .ok (.iload_n 1, 1) := by decide +kernel
theorem dX4_readKind_49 : decode cX4_readKind 49 = .ok (.invokevirtual 75, 3) := by decide +kernel
theorem dX4_readKind_52 : decode cX4_readKind 52 = .ok (.ifCond .eq 5, 3) := by decide +kernel
theorem dX4_readKind_55 : decode cX4_readKind 55 = .ok (.iconst 3, 1) := by decide +kernel
theorem dX4_readKind_56 : decode cX4_readKind 56 = .ok (.ireturn, 1) := by decide +kernel
theorem dX4_readKind_57 : decode cX4_readKind 57 = .ok (.aload_n 0, 1) := by decide +kernel
theorem dX4_readKind_58 : decode cX4_readKind 58 = .ok (.ldc 85, 2) := by decide +kernel
theorem dX4_readKind_60 : decode cX4_readKind 60 = .ok (.iload_n 1, 1) := by decide +kernel
theorem dX4_readKind_61 : decode cX4_readKind 61 = .ok (.invokevirtual 75, 3) := by decide +kernel
theorem dX4_readKind_64 : decode cX4_readKind 64 = .ok (.ifCond .eq 5, 3) := by decide +kernel
theorem dX4_readKind_67 : decode cX4_readKind 67 = .ok (.iconst 4, 1) := by decide +kernel
theorem dX4_readKind_68 : decode cX4_readKind 68 = .ok (.ireturn, 1) := by decide +kernel
theorem dX4_readKind_69 : decode cX4_readKind 69 = .ok (.aload_n 0, 1) := by decide +kernel
theorem dX4_readKind_70 : decode cX4_readKind 70 = .ok (.ldc 87, 2) := by decide +kernel
theorem dX4_readKind_72 : decode cX4_readKind 72 = .ok (.iload_n 1, 1) := by decide +kernel
theorem dX4_readKind_73 : decode cX4_readKind 73 = .ok (.invokevirtual 75, 3) := by decide +kernel
theorem dX4_readKind_76 : decode cX4_readKind 76 = .ok (.ifCond .eq 5, 3) := by decide +kernel
theorem dX4_readKind_79 : decode cX4_readKind 79 = .ok (.iconst 5, 1) := by decide +kernel
theorem dX4_readKind_80 : decode cX4_readKind 80 = .ok (.ireturn, 1) := by decide +kernel
theorem dX4_readKind_81 : decode cX4_readKind 81 = .ok (.iconst (-1), 1) := by decide +kernel
theorem dX4_readKind_82 : decode cX4_readKind 82 = .ok (.ireturn, 1) := by decide +kernel
set_option maxRecDepth 20000 in
theorem ggX4_readSetting_X4_readNumber : GoodIn wsX4_readSetting wsX4_readNumber := goodIn_r _ [6, 7, 1, 8, 9, 10, 11, 12, 13, 14, 15, 5, 16, 17, 18, 19, 20, 21, 22, 23, 24, 25, 26, 27, 28, 29, 30, 31, 32, 33, 34, 35, 36, 37, 38, 39, 40, 50, 51, 52, 53, 54, 55, 56, 57] (by decide +kernel) (by decide +kernel)
set_option maxRecDepth 20000 in
theorem gX4_readSetting_X4_readNumber : GoodIn wsX4_readSetting (wsV RX4 89 RX4 yX4_readNumber wsX4_readNumber) := goodIn_app (goodIn_of _ (by decide +kernel)) ggX4_readSetting_X4_readNumber
set_option maxRecDepth 20000 in
theorem ggX4_readSetting_X9_within : GoodIn wsX4_readSetting wsX9_within := goodIn_r _ [34] (by decide +kernel) (by decide +kernel)
set_option maxRecDepth 20000 in
theorem gX4_readSetting_X9_within_n100 : GoodIn wsX4_readSetting (wsX9_within) := ggX4_readSetting_X9_within
set_option maxRecDepth 20000 in
theorem ggX4_readSetting_X4_refuse : GoodIn wsX4_readSetting wsX4_refuse := goodIn_r _ [38, 39, 40, 50, 51, 52, 53, 54, 55] (by decide +kernel) (by decide +kernel)
set_option maxRecDepth 20000 in
theorem gX4_readSetting_X4_refuse : GoodIn wsX4_readSetting (wsV RX4 50 RX4 yX4_refuse wsX4_refuse) := goodIn_app (goodIn_of _ (by decide +kernel)) ggX4_readSetting_X4_refuse
theorem dX4_readSetting_0 : decode cX4_readSetting 0 = .ok (.aload_n 0, 1) := by decide +kernel
theorem dX4_readSetting_1 : decode cX4_readSetting 1 = .ok (.invokevirtual 89, 3) := by decide +kernel
theorem dX4_readSetting_4 : decode cX4_readSetting 4 = .ok (.istore_n 3, 1) := by decide +kernel
theorem dX4_readSetting_5 : decode cX4_readSetting 5 = .ok (.iload_n 3, 1) := by decide +kernel
theorem dX4_readSetting_6 : decode cX4_readSetting 6 = .ok (.iconst (-1), 1) := by decide +kernel
theorem dX4_readSetting_7 : decode cX4_readSetting 7 = .ok (.if_icmp .ne 5, 3) := by decide +kernel
theorem dX4_readSetting_10 : decode cX4_readSetting 10 = .ok (.iconst 0, 1) := by decide +kernel
theorem dX4_readSetting_11 : decode cX4_readSetting 11 = .ok (.ireturn, 1) := by decide +kernel
theorem dX4_readSetting_12 : decode cX4_readSetting 12 = .ok (.iload_n 1, 1) := by decide +kernel
theorem dX4_readSetting_13 : decode cX4_readSetting 13 = .ok (.tableswitch 56 0 4 #[35, 42, 56, 56, 49], 35) := by decide +kernel
theorem dX4_readSetting_48 : decode cX4_readSetting 48 = .ok (.aload_n 2, 1) := by decide +kernel
theorem dX4_readSetting_49 : decode cX4_readSetting 49 = .ok (.iload_n 3, 1) := by decide +kernel
theorem dX4_readSetting_50 : decode cX4_readSetting 50 = .ok (.putfield 92, 3) := by decide +kernel
theorem dX4_readSetting_53 : decode cX4_readSetting 53 = .ok (.iconst 1, 1) := by decide +kernel
theorem dX4_readSetting_54 : decode cX4_readSetting 54 = .ok (.ireturn, 1) := by decide +kernel
theorem dX4_readSetting_55 : decode cX4_readSetting 55 = .ok (.aload_n 2, 1) := by decide +kernel
theorem dX4_readSetting_56 : decode cX4_readSetting 56 = .ok (.iload_n 3, 1) := by decide +kernel
theorem dX4_readSetting_57 : decode cX4_readSetting 57 = .ok (.putfield 94, 3) := by decide +kernel
theorem dX4_readSetting_60 : decode cX4_readSetting 60 = .ok (.iconst 1, 1) := by decide +kernel
theorem dX4_readSetting_61 : decode cX4_readSetting 61 = .ok (.ireturn, 1) := by decide +kernel
theorem dX4_readSetting_62 : decode cX4_readSetting 62 = .ok (.aload_n 2, 1) := by decide +kernel
theorem dX4_readSetting_63 : decode cX4_readSetting 63 = .ok (.iload_n 3, 1) := by decide +kernel
theorem dX4_readSetting_64 : decode cX4_readSetting 64 = .ok (.putfield 96, 3) := by decide +kernel
theorem dX4_readSetting_67 : decode cX4_readSetting 67 = .ok (.iconst 1, 1) := by decide +kernel
theorem dX4_readSetting_68 : decode cX4_readSetting 68 = .ok (.ireturn, 1) := by decide +kernel
theorem dX4_readSetting_69 : decode cX4_readSetting 69 = .ok (.aload_n 2, 1) := by decide +kernel
theorem dX4_readSetting_70 : decode cX4_readSetting 70 = .ok (.iload_n 3, 1) := by decide +kernel
theorem dX4_readSetting_71 : decode cX4_readSetting 71 = .ok (.putfield 98, 3) := by decide +kernel
theorem dX4_readSetting_74 : decode cX4_readSetting 74 = .ok (.iload_n 3, 1) := by decide +kernel
theorem dX4_readSetting_75 : decode cX4_readSetting 75 = .ok (.iconst 2, 1) := by decide +kernel
theorem dX4_readSetting_76 : decode cX4_readSetting 76 = .ok (.bipush 60, 2) := by decide +kernel
theorem dX4_readSetting_78 : decode cX4_readSetting 78 = .ok (.invokestatic 100, 3) := by decide +kernel
theorem dX4_readSetting_81 : decode cX4_readSetting 81 = .ok (.ifCond .ne 15, 3) := by decide +kernel
theorem dX4_readSetting_84 : decode cX4_readSetting 84 = .ok (.aload_n 0, 1) := by decide +kernel
theorem dX4_readSetting_85 : decode cX4_readSetting 85 = .ok (.iconst 2, 1) := by decide +kernel
theorem dX4_readSetting_86 : decode cX4_readSetting 86 = .ok (.aload_n 0, 1) := by decide +kernel
theorem dX4_readSetting_87 : decode cX4_readSetting 87 = .ok (.getfield 25, 3) := by decide +kernel
theorem dX4_readSetting_90 : decode cX4_readSetting 90 = .ok (.invokevirtual 50, 3) := by decide +kernel
theorem dX4_readSetting_93 : decode cX4_readSetting 93 = .ok (.ifCond .eq 7, 3) := by decide +kernel
theorem dX4_readSetting_96 : decode cX4_readSetting 96 = .ok (.iconst 1, 1) := by decide +kernel
theorem dX4_readSetting_97 : decode cX4_readSetting 97 = .ok (.goto 4, 3) := by decide +kernel
theorem dX4_readSetting_100 : decode cX4_readSetting 100 = .ok (.iconst 0, 1) := by decide +kernel
theorem dX4_readSetting_101 : decode cX4_readSetting 101 = .ok (.ireturn, 1) := by decide +kernel
set_option maxRecDepth 20000 in
theorem ggX4_readShare_X4_readNumber : GoodIn wsX4_readShare wsX4_readNumber := goodIn_r _ [7, 1, 2, 8, 9, 10, 11, 12, 13, 14, 15, 6, 16, 17, 18, 19, 20, 21, 22, 23, 24, 25, 26, 27, 28, 29, 30, 31, 32, 33, 34, 35, 36, 37, 38, 39, 40, 98, 99, 100, 101, 102, 103, 113, 114] (by decide +kernel) (by decide +kernel)
set_option maxRecDepth 20000 in
theorem gX4_readShare_X4_readNumber : GoodIn wsX4_readShare (wsV RX4 89 RX4 yX4_readNumber wsX4_readNumber) := goodIn_app (goodIn_of _ (by decide +kernel)) ggX4_readShare_X4_readNumber
set_option maxRecDepth 20000 in
theorem ggX4_readShare_X4_skipBlanks : GoodIn wsX4_readShare wsX4_skipBlanks := goodIn_r _ [16, 1, 8, 17, 18, 19, 6, 20, 21, 22, 23, 24, 25, 26, 27, 28, 98, 99, 100, 101, 102, 103, 113, 114] (by decide +kernel) (by decide +kernel)
set_option maxRecDepth 20000 in
theorem gX4_readShare_X4_skipBlanks : GoodIn wsX4_readShare (wsV RX4 39 RX4 yX4_skipBlanks wsX4_skipBlanks) := goodIn_app (goodIn_of _ (by decide +kernel)) ggX4_readShare_X4_skipBlanks
set_option maxRecDepth 20000 in
theorem ggX4_readShare_X4_skipLetters : GoodIn wsX4_readShare wsX4_skipLetters := goodIn_r _ [44, 1, 8, 17, 18, 19, 6, 20, 21, 22, 23, 24, 25, 26, 27, 28, 32, 33, 34, 98, 99, 100, 101, 102, 103, 113, 114] (by decide +kernel) (by decide +kernel)
set_option maxRecDepth 20000 in
theorem gX4_readShare_X4_skipLetters : GoodIn wsX4_readShare (wsV RX4 70 RX4 yX4_skipLetters wsX4_skipLetters) := goodIn_app (goodIn_of _ (by decide +kernel)) ggX4_readShare_X4_skipLetters
set_option maxRecDepth 20000 in
theorem ggX4_readShare_X4_spells : GoodIn wsX4_readShare wsX4_spells := goodIn_r _ [48, 1, 21, 49, 50, 51, 52, 53, 54, 55, 56, 57, 58, 59, 60, 22, 23, 24, 25, 26, 27, 28, 61, 62, 63, 64, 65, 66, 67, 68, 69, 70, 71, 72, 73, 74, 75, 76, 77, 78, 79, 80, 81, 82, 83, 84, 85, 86, 87, 88, 89, 90, 91, 92, 93, 94, 95, 96, 97, 98, 99, 100, 101, 102, 103, 113, 114] (by decide +kernel) (by decide +kernel)
set_option maxRecDepth 20000 in
theorem gX4_readShare_X4_spells : GoodIn wsX4_readShare (wsV RX4 75 RX4 yX4_spells wsX4_spells) := goodIn_app (goodIn_of _ (by decide +kernel)) ggX4_readShare_X4_spells
set_option maxRecDepth 20000 in
theorem ggX4_readShare_X4_refuse : GoodIn wsX4_readShare wsX4_refuse := goodIn_r _ [38, 39, 40, 98, 99, 100, 101, 102, 103] (by decide +kernel) (by decide +kernel)
set_option maxRecDepth 20000 in
theorem gX4_readShare_X4_refuse : GoodIn wsX4_readShare (wsV RX4 50 RX4 yX4_refuse wsX4_refuse) := goodIn_app (goodIn_of _ (by decide +kernel)) ggX4_readShare_X4_refuse
theorem dX4_readShare_0 : decode cX4_readShare 0 = .ok (.aload_n 0, 1) := by decide +kernel
theorem dX4_readShare_1 : decode cX4_readShare 1 = .ok (.invokevirtual 89, 3) := by decide +kernel
theorem dX4_readShare_4 : decode cX4_readShare 4 = .ok (.istore_n 2, 1) := by decide +kernel
theorem dX4_readShare_5 : decode cX4_readShare 5 = .ok (.iload_n 2, 1) := by decide +kernel
theorem dX4_readShare_6 : decode cX4_readShare 6 = .ok (.iconst (-1), 1) := by decide +kernel
theorem dX4_readShare_7 : decode cX4_readShare 7 = .ok (.if_icmp .ne 5, 3) := by decide +kernel
theorem dX4_readShare_10 : decode cX4_readShare 10 = .ok (.iconst 0, 1) := by decide +kernel
theorem dX4_readShare_11 : decode cX4_readShare 11 = .ok (.ireturn, 1) := by decide +kernel
theorem dX4_readShare_12 : decode cX4_readShare 12 = .ok (.aload_n 0, 1) := by decide +kernel
theorem dX4_readShare_13 : decode cX4_readShare 13 = .ok (.invokevirtual 39, 3) := by decide +kernel
theorem dX4_readShare_16 : decode cX4_readShare 16 = .ok (.aload_n 0, 1) := by decide +kernel
theorem dX4_readShare_17 : decode cX4_readShare 17 = .ok (.getfield 22, 3) := by decide +kernel
theorem dX4_readShare_20 : decode cX4_readShare 20 = .ok (.istore_n 3, 1) := by decide +kernel
theorem dX4_readShare_21 : decode cX4_readShare 21 = .ok (.aload_n 0, 1) := by decide +kernel
theorem dX4_readShare_22 : decode cX4_readShare 22 = .ok (.invokevirtual 70, 3) := by decide +kernel
theorem dX4_readShare_25 : decode cX4_readShare 25 = .ok (.aload_n 0, 1) := by decide +kernel
theorem dX4_readShare_26 : decode cX4_readShare 26 = .ok (.ldc 104, 2) := by decide +kernel
theorem dX4_readShare_28 : decode cX4_readShare 28 = .ok (.iload_n 3, 1) := by decide +kernel
theorem dX4_readShare_29 : decode cX4_readShare 29 = .ok (.invokevirtual 75, 3) := by decide +kernel
theorem dX4_readShare_32 : decode cX4_readShare 32 = .ok (.ifCond .ne 10, 3) := by decide +kernel
theorem dX4_readShare_35 : decode cX4_readShare 35 = .ok (.aload_n 0, 1) := by decide +kernel
theorem dX4_readShare_36 : decode cX4_readShare 36 = .ok (.iconst 1, 1) := by decide +kernel
theorem dX4_readShare_37 : decode cX4_readShare 37 = .ok (.iload_n 3, 1) := by decide +kernel
theorem dX4_readShare_38 : decode cX4_readShare 38 = .ok (.invokevirtual 50, 3) := by decide +kernel
theorem dX4_readShare_41 : decode cX4_readShare 41 = .ok (.ireturn, 1) := by decide +kernel
theorem dX4_readShare_42 : decode cX4_readShare 42 = .ok (.aload_n 0, 1) := by decide +kernel
theorem dX4_readShare_43 : decode cX4_readShare 43 = .ok (.invokevirtual 89, 3) := by decide +kernel
theorem dX4_readShare_46 : decode cX4_readShare 46 = .ok (.istore 4, 2) := by decide +kernel
theorem dX4_readShare_48 : decode cX4_readShare 48 = .ok (.iload 4, 2) := by decide +kernel
theorem dX4_readShare_50 : decode cX4_readShare 50 = .ok (.iconst (-1), 1) := by decide +kernel
theorem dX4_readShare_51 : decode cX4_readShare 51 = .ok (.if_icmp .ne 5, 3) := by decide +kernel
theorem dX4_readShare_54 : decode cX4_readShare 54 = .ok (.iconst 0, 1) := by decide +kernel
theorem dX4_readShare_55 : decode cX4_readShare 55 = .ok (.ireturn, 1) := by decide +kernel
theorem dX4_readShare_56 : decode cX4_readShare 56 = .ok (.iload 4, 2) := by decide +kernel
theorem dX4_readShare_58 : decode cX4_readShare 58 = .ok (.ifCond .eq 9, 3) := by decide +kernel
theorem dX4_readShare_61 : decode cX4_readShare 61 = .ok (.iload 4, 2) := by decide +kernel
theorem dX4_readShare_63 : decode cX4_readShare 63 = .ok (.iload_n 2, 1) := by decide +kernel
theorem dX4_readShare_64 : decode cX4_readShare 64 = .ok (.if_icmp .ge 13, 3) := by decide +kernel
theorem dX4_readShare_67 : decode cX4_readShare 67 = .ok (.aload_n 0, 1) := by decide +kernel
theorem dX4_readShare_68 : decode cX4_readShare 68 = .ok (.iconst 2, 1) := by decide +kernel
theorem dX4_readShare_69 : decode cX4_readShare 69 = .ok (.aload_n 0, 1) := by decide +kernel
theorem dX4_readShare_70 : decode cX4_readShare 70 = .ok (.getfield 25, 3) := by decide +kernel
theorem dX4_readShare_73 : decode cX4_readShare 73 = .ok (.invokevirtual 50, 3) := by decide +kernel
theorem dX4_readShare_76 : decode cX4_readShare 76 = .ok (.ireturn, 1) := by decide +kernel
theorem dX4_readShare_77 : decode cX4_readShare 77 = .ok (.aload_n 1, 1) := by decide +kernel
theorem dX4_readShare_78 : decode cX4_readShare 78 = .ok (.iload_n 2, 1) := by decide +kernel
theorem dX4_readShare_79 : decode cX4_readShare 79 = .ok (.putfield 106, 3) := by decide +kernel
theorem dX4_readShare_82 : decode cX4_readShare 82 = .ok (.aload_n 1, 1) := by decide +kernel
theorem dX4_readShare_83 : decode cX4_readShare 83 = .ok (.iload 4, 2) := by decide +kernel
theorem dX4_readShare_85 : decode cX4_readShare 85 = .ok (.putfield 108, 3) := by decide +kernel
theorem dX4_readShare_88 : decode cX4_readShare 88 = .ok (.iconst 1, 1) := by decide +kernel
theorem dX4_readShare_89 : decode cX4_readShare 89 = .ok (.ireturn, 1) := by decide +kernel
set_option maxRecDepth 20000 in
theorem ggX4_readSteps_X3_clearSteps : GoodIn wsX4_readSteps wsX3_clearSteps := goodIn_r _ [6, 7, 58, 59, 60, 61, 62, 63, 64, 65, 66] (by decide +kernel) (by decide +kernel)
set_option maxRecDepth 20000 in
theorem gX4_readSteps_X3_clearSteps : GoodIn wsX4_readSteps (wsV RX4 111 RX3 yX3_clearSteps wsX3_clearSteps) := goodIn_app (goodIn_of _ (by decide +kernel)) ggX4_readSteps_X3_clearSteps
set_option maxRecDepth 20000 in
theorem ggX4_readSteps_X4_readNumber : GoodIn wsX4_readSteps wsX4_readNumber := goodIn_r _ [12, 13, 1, 14, 15, 16, 17, 18, 19, 20, 21, 11, 22, 23, 24, 25, 26, 27, 28, 29, 30, 31, 32, 33, 34, 35, 36, 37, 38, 39, 40, 41, 42, 43, 44, 45, 46, 52, 53, 54, 55, 56, 57, 67, 68] (by decide +kernel) (by decide +kernel)
set_option maxRecDepth 20000 in
theorem gX4_readSteps_X4_readNumber : GoodIn wsX4_readSteps (wsV RX4 89 RX4 yX4_readNumber wsX4_readNumber) := goodIn_app (goodIn_of _ (by decide +kernel)) ggX4_readSteps_X4_readNumber
set_option maxRecDepth 20000 in
theorem ggX4_readSteps_X4_refuse : GoodIn wsX4_readSteps wsX4_refuse := goodIn_r _ [44, 45, 46, 52, 53, 54, 55, 56, 57] (by decide +kernel) (by decide +kernel)
set_option maxRecDepth 20000 in
theorem gX4_readSteps_X4_refuse : GoodIn wsX4_readSteps (wsV RX4 50 RX4 yX4_refuse wsX4_refuse) := goodIn_app (goodIn_of _ (by decide +kernel)) ggX4_readSteps_X4_refuse
set_option maxRecDepth 20000 in
theorem ggX4_readSteps_X3_addStep : GoodIn wsX4_readSteps wsX3_addStep := goodIn_r _ [50, 7, 51, 58, 59, 60, 61, 62, 63, 64, 65, 66] (by decide +kernel) (by decide +kernel)
set_option maxRecDepth 20000 in
theorem gX4_readSteps_X3_addStep : GoodIn wsX4_readSteps (wsV RX4 114 RX3 yX3_addStep wsX3_addStep) := goodIn_app (goodIn_of _ (by decide +kernel)) ggX4_readSteps_X3_addStep
set_option maxRecDepth 20000 in
theorem ggX4_readSteps_X4_skipBlanks : GoodIn wsX4_readSteps wsX4_skipBlanks := goodIn_r _ [22, 13, 14, 23, 24, 25, 11, 26, 27, 28, 29, 30, 31, 32, 33, 34, 52, 53, 54, 55, 56, 57, 67, 68] (by decide +kernel) (by decide +kernel)
set_option maxRecDepth 20000 in
theorem gX4_readSteps_X4_skipBlanks : GoodIn wsX4_readSteps (wsV RX4 39 RX4 yX4_skipBlanks wsX4_skipBlanks) := goodIn_app (goodIn_of _ (by decide +kernel)) ggX4_readSteps_X4_skipBlanks
set_option maxRecDepth 20000 in
theorem ggX4_readSteps_X4_look : GoodIn wsX4_readSteps wsX4_look := goodIn_r _ [26, 13, 14, 27, 28, 29, 30, 31, 32, 33, 34, 52, 53, 54, 55, 56, 57, 67, 68] (by decide +kernel) (by decide +kernel)
set_option maxRecDepth 20000 in
theorem gX4_readSteps_X4_look : GoodIn wsX4_readSteps (wsV RX4 67 RX4 yX4_look wsX4_look) := goodIn_app (goodIn_of _ (by decide +kernel)) ggX4_readSteps_X4_look
set_option maxRecDepth 20000 in
theorem ggX4_readSteps_X4_isDigit : GoodIn wsX4_readSteps wsX4_isDigit := goodIn_r _ [37, 38, 39, 40] (by decide +kernel) (by decide +kernel)
set_option maxRecDepth 20000 in
theorem gX4_readSteps_X4_isDigit : GoodIn wsX4_readSteps (va_wsS RX4 118 yX4_isDigit wsX4_isDigit) := goodIn_app (goodIn_of _ (by decide +kernel)) ggX4_readSteps_X4_isDigit
theorem dX4_readSteps_0 : decode cX4_readSteps 0 = .ok (.aload_n 1, 1) := by decide +kernel
theorem dX4_readSteps_1 : decode cX4_readSteps 1 = .ok (.invokevirtual 111, 3) := by decide +kernel
theorem dX4_readSteps_4 : decode cX4_readSteps 4 = .ok (.iconst (-1), 1) := by decide +kernel
theorem dX4_readSteps_5 : decode cX4_readSteps 5 = .ok (.istore_n 2, 1) := by decide +kernel
theorem dX4_readSteps_6 : decode cX4_readSteps 6 = .ok (.iconst 0, 1) := by decide +kernel
theorem dX4_readSteps_7 : decode cX4_readSteps 7 = .ok (.istore_n 3, 1) := by decide +kernel
theorem dX4_readSteps_8 : decode cX4_readSteps 8 = .ok (.iload_n 3, 1) := by decide +kernel
theorem dX4_readSteps_9 : decode cX4_readSteps 9 = .ok (.bipush 9, 2) := by decide +kernel
theorem dX4_readSteps_11 : decode cX4_readSteps 11 = .ok (.if_icmp .gt 80, 3) := by decide +kernel
theorem dX4_readSteps_14 : decode cX4_readSteps 14 = .ok (.aload_n 0, 1) := by decide +kernel
theorem dX4_readSteps_15 : decode cX4_readSteps 15 = .ok (.invokevirtual 89, 3) := by decide +kernel
theorem dX4_readSteps_18 : decode cX4_readSteps 18 = .ok (.istore 4, 2) := by decide +kernel
theorem dX4_readSteps_20 : decode cX4_readSteps 20 = .ok (.iload 4, 2) := by decide +kernel
theorem dX4_readSteps_22 : decode cX4_readSteps 22 = .ok (.iconst (-1), 1) := by decide +kernel
theorem dX4_readSteps_23 : decode cX4_readSteps 23 = .ok (.if_icmp .ne 5, 3) := by decide +kernel
theorem dX4_readSteps_26 : decode cX4_readSteps 26 = .ok (.iconst 0, 1) := by decide +kernel
theorem dX4_readSteps_27 : decode cX4_readSteps 27 = .ok (.ireturn, 1) := by decide +kernel
theorem dX4_readSteps_28 : decode cX4_readSteps 28 = .ok (.iload 4, 2) := by decide +kernel
theorem dX4_readSteps_30 : decode cX4_readSteps 30 = .ok (.iload_n 2, 1) := by decide +kernel
theorem dX4_readSteps_31 : decode cX4_readSteps 31 = .ok (.if_icmp .gt 13, 3) := by decide +kernel
theorem dX4_readSteps_34 : decode cX4_readSteps 34 = .ok (.aload_n 0, 1) := by decide +kernel
theorem dX4_readSteps_35 : decode cX4_readSteps 35 = .ok (.iconst 2, 1) := by decide +kernel
theorem dX4_readSteps_36 : decode cX4_readSteps 36 = .ok (.aload_n 0, 1) := by decide +kernel
theorem dX4_readSteps_37 : decode cX4_readSteps 37 = .ok (.getfield 25, 3) := by decide +kernel
theorem dX4_readSteps_40 : decode cX4_readSteps 40 = .ok (.invokevirtual 50, 3) := by decide +kernel
theorem dX4_readSteps_43 : decode cX4_readSteps 43 = .ok (.ireturn, 1) := by decide +kernel
theorem dX4_readSteps_44 : decode cX4_readSteps 44 = .ok (.iload_n 3, 1) := by decide +kernel
theorem dX4_readSteps_45 : decode cX4_readSteps 45 = .ok (.bipush 9, 2) := by decide +kernel
theorem dX4_readSteps_47 : decode cX4_readSteps 47 = .ok (.if_icmp .ne 13, 3) := by decide +kernel
theorem dX4_readSteps_50 : decode cX4_readSteps 50 = .ok (.aload_n 0, 1) := by decide +kernel
theorem dX4_readSteps_51 : decode cX4_readSteps 51 = .ok (.iconst 3, 1) := by decide +kernel
theorem dX4_readSteps_52 : decode cX4_readSteps 52 = .ok (.aload_n 0, 1) := by decide +kernel
theorem dX4_readSteps_53 : decode cX4_readSteps 53 = .ok (.getfield 25, 3) := by decide +kernel
theorem dX4_readSteps_56 : decode cX4_readSteps 56 = .ok (.invokevirtual 50, 3) := by decide +kernel
theorem dX4_readSteps_59 : decode cX4_readSteps 59 = .ok (.ireturn, 1) := by decide +kernel
theorem dX4_readSteps_60 : decode cX4_readSteps 60 = .ok (.aload_n 1, 1) := by decide +kernel
theorem dX4_readSteps_61 : decode cX4_readSteps 61 = .ok (.iload 4, 2) := by decide +kernel
theorem dX4_readSteps_63 : decode cX4_readSteps 63 = .ok (.invokevirtual 114, 3) := by decide +kernel
theorem dX4_readSteps_66 : decode cX4_readSteps 66 = .ok (.iload 4, 2) := by decide +kernel
theorem dX4_readSteps_68 : decode cX4_readSteps 68 = .ok (.istore_n 2, 1) := by decide +kernel
theorem dX4_readSteps_69 : decode cX4_readSteps 69 = .ok (.aload_n 0, 1) := by decide +kernel
theorem dX4_readSteps_70 : decode cX4_readSteps 70 = .ok (.invokevirtual 39, 3) := by decide +kernel
theorem dX4_readSteps_73 : decode cX4_readSteps 73 = .ok (.aload_n 0, 1) := by decide +kernel
theorem dX4_readSteps_74 : decode cX4_readSteps 74 = .ok (.invokevirtual 67, 3) := by decide +kernel
theorem dX4_readSteps_77 : decode cX4_readSteps 77 = .ok (.invokestatic 118, 3) := by decide +kernel
theorem dX4_readSteps_80 : decode cX4_readSteps 80 = .ok (.ifCond .ne 5, 3) := by decide +kernel
theorem dX4_readSteps_83 : decode cX4_readSteps 83 = .ok (.iconst 1, 1) := by decide +kernel
theorem dX4_readSteps_84 : decode cX4_readSteps 84 = .ok (.ireturn, 1) := by decide +kernel
theorem dX4_readSteps_85 : decode cX4_readSteps 85 = .ok (.iinc 3 1, 3) := by decide +kernel
theorem dX4_readSteps_88 : decode cX4_readSteps 88 = .ok (.goto (-80), 3) := by decide +kernel
theorem dX4_readSteps_91 : decode cX4_readSteps 91 = .ok (.iconst 0, 1) := by decide +kernel
theorem dX4_readSteps_92 : decode cX4_readSteps 92 = .ok (.ireturn, 1) := by decide +kernel
set_option maxRecDepth 20000 in
theorem ggX4_readNumber_X4_skipBlanks : GoodIn wsX4_readNumber wsX4_skipBlanks := goodIn_r _ [12, 1, 3, 13, 14, 15, 11, 16, 17, 18, 19, 20, 21, 22, 23, 24, 37, 38, 39, 40, 41, 42, 43, 44] (by decide +kernel) (by decide +kernel)
set_option maxRecDepth 20000 in
theorem gX4_readNumber_X4_skipBlanks : GoodIn wsX4_readNumber (wsV RX4 39 RX4 yX4_skipBlanks wsX4_skipBlanks) := goodIn_app (goodIn_of _ (by decide +kernel)) ggX4_readNumber_X4_skipBlanks
set_option maxRecDepth 20000 in
theorem ggX4_readNumber_X4_look : GoodIn wsX4_readNumber wsX4_look := goodIn_r _ [16, 1, 3, 17, 18, 19, 20, 21, 22, 23, 24, 37, 38, 39, 40, 41, 42, 43, 44] (by decide +kernel) (by decide +kernel)
set_option maxRecDepth 20000 in
theorem gX4_readNumber_X4_look : GoodIn wsX4_readNumber (wsV RX4 67 RX4 yX4_look wsX4_look) := goodIn_app (goodIn_of _ (by decide +kernel)) ggX4_readNumber_X4_look
set_option maxRecDepth 20000 in
theorem ggX4_readNumber_X4_isDigit : GoodIn wsX4_readNumber wsX4_isDigit := goodIn_r _ [27, 28, 29, 30] (by decide +kernel) (by decide +kernel)
set_option maxRecDepth 20000 in
theorem gX4_readNumber_X4_isDigit : GoodIn wsX4_readNumber (va_wsS RX4 118 yX4_isDigit wsX4_isDigit) := goodIn_app (goodIn_of _ (by decide +kernel)) ggX4_readNumber_X4_isDigit
set_option maxRecDepth 20000 in
theorem ggX4_readNumber_X4_refuse : GoodIn wsX4_readNumber wsX4_refuse := goodIn_r _ [34, 35, 36, 37, 38, 39, 40, 41, 42] (by decide +kernel) (by decide +kernel)
set_option maxRecDepth 20000 in
theorem gX4_readNumber_X4_refuse : GoodIn wsX4_readNumber (wsV RX4 50 RX4 yX4_refuse wsX4_refuse) := goodIn_app (goodIn_of _ (by decide +kernel)) ggX4_readNumber_X4_refuse
theorem dX4_readNumber_0 : decode cX4_readNumber 0 = .ok (.aload_n 0, 1) := by decide +kernel
theorem dX4_readNumber_1 : decode cX4_readNumber 1 = .ok (.invokevirtual 39, 3) := by decide +kernel
theorem dX4_readNumber_4 : decode cX4_readNumber 4 = .ok (.aload_n 0, 1) := by decide +kernel
theorem dX4_readNumber_5 : decode cX4_readNumber 5 = .ok (.aload_n 0, 1) := by decide +kernel
theorem dX4_readNumber_6 : decode cX4_readNumber 6 = .ok (.getfield 22, 3) := by decide +kernel
theorem dX4_readNumber_9 : decode cX4_readNumber 9 = .ok (.putfield 25, 3) := by decide +kernel
theorem dX4_readNumber_12 : decode cX4_readNumber 12 = .ok (.iconst 0, 1) := by decide +kernel
theorem dX4_readNumber_13 : decode cX4_readNumber 13 = .ok (.istore_n 1, 1) := by decide +kernel
theorem dX4_readNumber_14 : decode cX4_readNumber 14 = .ok (.aload_n 0, 1) := by decide +kernel
theorem dX4_readNumber_15 : decode cX4_readNumber 15 = .ok (.getfield 22, 3) := by decide +kernel
theorem dX4_readNumber_18 : decode cX4_readNumber 18 = .ok (.aload_n 0, 1) := by decide +kernel
theorem dX4_readNumber_19 : decode cX4_readNumber 19 = .ok (.getfield 18, 3) := by decide +kernel
theorem dX4_readNumber_22 : decode cX4_readNumber 22 = .ok (.if_icmp .ge 45, 3) := by decide +kernel
theorem dX4_readNumber_25 : decode cX4_readNumber 25 = .ok (.aload_n 0, 1) := by decide +kernel
theorem dX4_readNumber_26 : decode cX4_readNumber 26 = .ok (.invokevirtual 67, 3) := by decide +kernel
theorem dX4_readNumber_29 : decode cX4_readNumber 29 = .ok (.invokestatic 118, 3) := by decide +kernel
theorem dX4_readNumber_32 : decode cX4_readNumber 32 = .ok (.ifCond .eq 35, 3) := by decide +kernel
theorem dX4_readNumber_35 : decode cX4_readNumber 35 = .ok (.iload_n 1, 1) := by decide +kernel
theorem dX4_readNumber_36 : decode cX4_readNumber 36 = .ok (.bipush 10, 2) := by decide +kernel
theorem dX4_readNumber_38 : decode cX4_readNumber 38 = .ok (.imul, 1) := by decide +kernel
theorem dX4_readNumber_39 : decode cX4_readNumber 39 = .ok (.aload_n 0, 1) := by decide +kernel
theorem dX4_readNumber_40 : decode cX4_readNumber 40 = .ok (.invokevirtual 67, 3) := by decide +kernel
theorem dX4_readNumber_43 : decode cX4_readNumber 43 = .ok (.iadd, 1) := by decide +kernel
theorem dX4_readNumber_44 : decode cX4_readNumber 44 = .ok (.bipush 48, 2) := by decide +kernel
theorem dX4_readNumber_46 : decode cX4_readNumber 46 = .ok (.isub, 1) := by decide +kernel
theorem dX4_readNumber_47 : decode cX4_readNumber 47 = .ok (.sipush 10001, 3) := by decide +kernel
theorem dX4_readNumber_50 : decode cX4_readNumber 50 = .ok (.invokestatic 122, 3) := by decide +kernel
theorem dX4_readNumber_53 : decode cX4_readNumber 53 = .ok (.istore_n 1, 1) := by decide +kernel
theorem dX4_readNumber_54 : decode cX4_readNumber 54 = .ok (.aload_n 0, 1) := by decide +kernel
theorem dX4_readNumber_55 : decode cX4_readNumber 55 = .ok (.dup, 1) := by decide +kernel
theorem dX4_readNumber_56 : decode cX4_readNumber 56 = .ok (.getfield 22, 3) := by decide +kernel
theorem dX4_readNumber_59 : decode cX4_readNumber 59 = .ok (.iconst 1, 1) := by decide +kernel
theorem dX4_readNumber_60 : decode cX4_readNumber 60 = .ok (.iadd, 1) := by decide +kernel
theorem dX4_readNumber_61 : decode cX4_readNumber 61 = .ok (.putfield 22, 3) := by decide +kernel
theorem dX4_readNumber_64 : decode cX4_readNumber 64 = .ok (.goto (-50), 3) := by decide +kernel
theorem dX4_readNumber_67 : decode cX4_readNumber 67 = .ok (.aload_n 0, 1) := by decide +kernel
theorem dX4_readNumber_68 : decode cX4_readNumber 68 = .ok (.getfield 22, 3) := by decide +kernel
theorem dX4_readNumber_71 : decode cX4_readNumber 71 = .ok (.aload_n 0, 1) := by decide +kernel
theorem dX4_readNumber_72 : decode cX4_readNumber 72 = .ok (.getfield 25, 3) := by decide +kernel
theorem dX4_readNumber_75 : decode cX4_readNumber 75 = .ok (.if_icmp .ne 15, 3) := by decide +kernel
theorem dX4_readNumber_78 : decode cX4_readNumber 78 = .ok (.aload_n 0, 1) := by decide +kernel
theorem dX4_readNumber_79 : decode cX4_readNumber 79 = .ok (.iconst 1, 1) := by decide +kernel
theorem dX4_readNumber_80 : decode cX4_readNumber 80 = .ok (.aload_n 0, 1) := by decide +kernel
theorem dX4_readNumber_81 : decode cX4_readNumber 81 = .ok (.getfield 22, 3) := by decide +kernel
theorem dX4_readNumber_84 : decode cX4_readNumber 84 = .ok (.invokevirtual 50, 3) := by decide +kernel
theorem dX4_readNumber_87 : decode cX4_readNumber 87 = .ok (.pop, 1) := by decide +kernel
theorem dX4_readNumber_88 : decode cX4_readNumber 88 = .ok (.iconst (-1), 1) := by decide +kernel
theorem dX4_readNumber_89 : decode cX4_readNumber 89 = .ok (.ireturn, 1) := by decide +kernel
theorem dX4_readNumber_90 : decode cX4_readNumber 90 = .ok (.iload_n 1, 1) := by decide +kernel
theorem dX4_readNumber_91 : decode cX4_readNumber 91 = .ok (.sipush 10000, 3) := by decide +kernel
theorem dX4_readNumber_94 : decode cX4_readNumber 94 = .ok (.if_icmp .le 15, 3) := by decide +kernel
theorem dX4_readNumber_97 : decode cX4_readNumber 97 = .ok (.aload_n 0, 1) := by decide +kernel
theorem dX4_readNumber_98 : decode cX4_readNumber 98 = .ok (.iconst 2, 1) := by decide +kernel
theorem dX4_readNumber_99 : decode cX4_readNumber 99 = .ok (.aload_n 0, 1) := by decide +kernel
theorem dX4_readNumber_100 : decode cX4_readNumber 100 = .ok (.getfield 25, 3) := by decide +kernel
theorem dX4_readNumber_103 : decode cX4_readNumber 103 = .ok (.invokevirtual 50, 3) := by decide +kernel
theorem dX4_readNumber_106 : decode cX4_readNumber 106 = .ok (.pop, 1) := by decide +kernel
theorem dX4_readNumber_107 : decode cX4_readNumber 107 = .ok (.iconst (-1), 1) := by decide +kernel
theorem dX4_readNumber_108 : decode cX4_readNumber 108 = .ok (.ireturn, 1) := by decide +kernel
theorem dX4_readNumber_109 : decode cX4_readNumber 109 = .ok (.iload_n 1, 1) := by decide +kernel
theorem dX4_readNumber_110 : decode cX4_readNumber 110 = .ok (.ireturn, 1) := by decide +kernel
theorem dX4_refuse_0 : decode cX4_refuse 0 = .ok (.aload_n 0, 1) := by decide +kernel
theorem dX4_refuse_1 : decode cX4_refuse 1 = .ok (.iload_n 1, 1) := by decide +kernel
theorem dX4_refuse_2 : decode cX4_refuse 2 = .ok (.putfield 28, 3) := by decide +kernel
theorem dX4_refuse_5 : decode cX4_refuse 5 = .ok (.aload_n 0, 1) := by decide +kernel
theorem dX4_refuse_6 : decode cX4_refuse 6 = .ok (.iload_n 2, 1) := by decide +kernel
theorem dX4_refuse_7 : decode cX4_refuse 7 = .ok (.putfield 31, 3) := by decide +kernel
theorem dX4_refuse_10 : decode cX4_refuse 10 = .ok (.iconst 0, 1) := by decide +kernel
theorem dX4_refuse_11 : decode cX4_refuse 11 = .ok (.ireturn, 1) := by decide +kernel
set_option maxRecDepth 20000 in
theorem ggX4_skipBlanks_X4_look : GoodIn wsX4_skipBlanks wsX4_look := goodIn_r _ [7, 1, 2, 8, 9, 10, 11, 12, 13, 14, 15, 16, 17, 18, 19, 20, 21, 22, 23] (by decide +kernel) (by decide +kernel)
set_option maxRecDepth 20000 in
theorem gX4_skipBlanks_X4_look : GoodIn wsX4_skipBlanks (wsV RX4 67 RX4 yX4_look wsX4_look) := goodIn_app (goodIn_of _ (by decide +kernel)) ggX4_skipBlanks_X4_look
theorem dX4_skipBlanks_0 : decode cX4_skipBlanks 0 = .ok (.aload_n 0, 1) := by decide +kernel
theorem dX4_skipBlanks_1 : decode cX4_skipBlanks 1 = .ok (.getfield 22, 3) := by decide +kernel
theorem dX4_skipBlanks_4 : decode cX4_skipBlanks 4 = .ok (.aload_n 0, 1) := by decide +kernel
theorem dX4_skipBlanks_5 : decode cX4_skipBlanks 5 = .ok (.getfield 18, 3) := by decide +kernel
theorem dX4_skipBlanks_8 : decode cX4_skipBlanks 8 = .ok (.if_icmp .ge 25, 3) := by decide +kernel
theorem dX4_skipBlanks_11 : decode cX4_skipBlanks 11 = .ok (.aload_n 0, 1) := by decide +kernel
theorem dX4_skipBlanks_12 : decode cX4_skipBlanks 12 = .ok (.invokevirtual 67, 3) := by decide +kernel
theorem dX4_skipBlanks_15 : decode cX4_skipBlanks 15 = .ok (.bipush 32, 2) := by decide +kernel
theorem dX4_skipBlanks_17 : decode cX4_skipBlanks 17 = .ok (.if_icmp .ne 16, 3) := by decide +kernel
theorem dX4_skipBlanks_20 : decode cX4_skipBlanks 20 = .ok (.aload_n 0, 1) := by decide +kernel
theorem dX4_skipBlanks_21 : decode cX4_skipBlanks 21 = .ok (.dup, 1) := by decide +kernel
theorem dX4_skipBlanks_22 : decode cX4_skipBlanks 22 = .ok (.getfield 22, 3) := by decide +kernel
theorem dX4_skipBlanks_25 : decode cX4_skipBlanks 25 = .ok (.iconst 1, 1) := by decide +kernel
theorem dX4_skipBlanks_26 : decode cX4_skipBlanks 26 = .ok (.iadd, 1) := by decide +kernel
theorem dX4_skipBlanks_27 : decode cX4_skipBlanks 27 = .ok (.putfield 22, 3) := by decide +kernel
theorem dX4_skipBlanks_30 : decode cX4_skipBlanks 30 = .ok (.goto (-30), 3) := by decide +kernel
theorem dX4_skipBlanks_33 : decode cX4_skipBlanks 33 = .ok (.return_, 1) := by decide +kernel
set_option maxRecDepth 20000 in
theorem ggX4_skipLetters_X4_look : GoodIn wsX4_skipLetters wsX4_look := goodIn_r _ [7, 1, 2, 8, 9, 10, 11, 12, 13, 14, 15, 19, 20, 21, 22, 23, 24, 25, 26] (by decide +kernel) (by decide +kernel)
set_option maxRecDepth 20000 in
theorem gX4_skipLetters_X4_look : GoodIn wsX4_skipLetters (wsV RX4 67 RX4 yX4_look wsX4_look) := goodIn_app (goodIn_of _ (by decide +kernel)) ggX4_skipLetters_X4_look
set_option maxRecDepth 20000 in
theorem ggX4_skipLetters_X9_within : GoodIn wsX4_skipLetters wsX9_within := goodIn_r _ [18] (by decide +kernel) (by decide +kernel)
set_option maxRecDepth 20000 in
theorem gX4_skipLetters_X9_within_n100 : GoodIn wsX4_skipLetters (wsX9_within) := ggX4_skipLetters_X9_within
theorem dX4_skipLetters_0 : decode cX4_skipLetters 0 = .ok (.aload_n 0, 1) := by decide +kernel
theorem dX4_skipLetters_1 : decode cX4_skipLetters 1 = .ok (.getfield 22, 3) := by decide +kernel
theorem dX4_skipLetters_4 : decode cX4_skipLetters 4 = .ok (.aload_n 0, 1) := by decide +kernel
theorem dX4_skipLetters_5 : decode cX4_skipLetters 5 = .ok (.getfield 18, 3) := by decide +kernel
theorem dX4_skipLetters_8 : decode cX4_skipLetters 8 = .ok (.if_icmp .ge 30, 3) := by decide +kernel
theorem dX4_skipLetters_11 : decode cX4_skipLetters 11 = .ok (.aload_n 0, 1) := by decide +kernel
theorem dX4_skipLetters_12 : decode cX4_skipLetters 12 = .ok (.invokevirtual 67, 3) := by decide +kernel
theorem dX4_skipLetters_15 : decode cX4_skipLetters 15 = .ok (.bipush 97, 2) := by decide +kernel
theorem dX4_skipLetters_17 : decode cX4_skipLetters 17 = .ok (.bipush 122, 2) := by decide +kernel
theorem dX4_skipLetters_19 : decode cX4_skipLetters 19 = .ok (.invokestatic 100, 3) := by decide +kernel
theorem dX4_skipLetters_22 : decode cX4_skipLetters 22 = .ok (.ifCond .eq 16, 3) := by decide +kernel
theorem dX4_skipLetters_25 : decode cX4_skipLetters 25 = .ok (.aload_n 0, 1) := by decide +kernel
theorem dX4_skipLetters_26 : decode cX4_skipLetters 26 = .ok (.dup, 1) := by decide +kernel
theorem dX4_skipLetters_27 : decode cX4_skipLetters 27 = .ok (.getfield 22, 3) := by decide +kernel
theorem dX4_skipLetters_30 : decode cX4_skipLetters 30 = .ok (.iconst 1, 1) := by decide +kernel
theorem dX4_skipLetters_31 : decode cX4_skipLetters 31 = .ok (.iadd, 1) := by decide +kernel
theorem dX4_skipLetters_32 : decode cX4_skipLetters 32 = .ok (.putfield 22, 3) := by decide +kernel
theorem dX4_skipLetters_35 : decode cX4_skipLetters 35 = .ok (.goto (-35), 3) := by decide +kernel
theorem dX4_skipLetters_38 : decode cX4_skipLetters 38 = .ok (.return_, 1) := by decide +kernel
set_option maxRecDepth 20000 in
theorem ggX4_spells_J0_length_8abf5 : GoodIn wsX4_spells wsJ0_length_8abf5 := goodIn_r _ [7, 8, 9, 10, 11, 6, 12, 13, 14] (by decide +kernel) (by decide +kernel)
set_option maxRecDepth 20000 in
theorem gX4_spells_J0_length_8abf5 : GoodIn wsX4_spells (wsV RX4 128 RJ0 yJ0_length_8abf5 wsJ0_length_8abf5) := goodIn_app (goodIn_of _ (by decide +kernel)) ggX4_spells_J0_length_8abf5
set_option maxRecDepth 20000 in
theorem ggX4_spells_X5_byteAt : GoodIn wsX4_spells wsX5_byteAt := goodIn_r _ [19, 20, 21, 65, 66] (by decide +kernel) (by decide +kernel)
set_option maxRecDepth 20000 in
theorem gX4_spells_X5_byteAt : GoodIn wsX4_spells (wsV RX4 132 RX5 yX5_byteAt wsX5_byteAt) := goodIn_app (goodIn_of _ (by decide +kernel)) ggX4_spells_X5_byteAt
set_option maxRecDepth 20000 in
theorem ggX4_spells_J0_charAt_5068e : GoodIn wsX4_spells wsJ0_charAt_5068e := goodIn_r _ [25, 8, 26, 27, 28, 6, 29, 13, 14, 30, 31, 32, 33, 34, 35, 36, 37, 38, 39, 40, 41, 42, 43, 44, 45, 46, 47, 48, 49, 50, 51, 52, 53, 54, 55, 56, 57, 58] (by decide +kernel) (by decide +kernel)
set_option maxRecDepth 20000 in
theorem gX4_spells_J0_charAt_5068e : GoodIn wsX4_spells (wsV RX4 136 RJ0 yJ0_charAt_5068e wsJ0_charAt_5068e) := goodIn_app (goodIn_of _ (by decide +kernel)) ggX4_spells_J0_charAt_5068e
theorem dX4_spells_0 : decode cX4_spells 0 = .ok (.aload_n 0, 1) := by decide +kernel
theorem dX4_spells_1 : decode cX4_spells 1 = .ok (.getfield 22, 3) := by decide +kernel
theorem dX4_spells_4 : decode cX4_spells 4 = .ok (.iload_n 2, 1) := by decide +kernel
theorem dX4_spells_5 : decode cX4_spells 5 = .ok (.isub, 1) := by decide +kernel
theorem dX4_spells_6 : decode cX4_spells 6 = .ok (.aload_n 1, 1) := by decide +kernel
theorem dX4_spells_7 : decode cX4_spells 7 = .ok (.invokevirtual 128, 3) := by decide +kernel
theorem dX4_spells_10 : decode cX4_spells 10 = .ok (.if_icmp .eq 5, 3) := by decide +kernel
theorem dX4_spells_13 : decode cX4_spells 13 = .ok (.iconst 0, 1) := by decide +kernel
theorem dX4_spells_14 : decode cX4_spells 14 = .ok (.ireturn, 1) := by decide +kernel
theorem dX4_spells_15 : decode cX4_spells 15 = .ok (.iconst 0, 1) := by decide +kernel
theorem dX4_spells_16 : decode cX4_spells 16 = .ok (.istore_n 3, 1) := by decide +kernel
theorem dX4_spells_17 : decode cX4_spells 17 = .ok (.iload_n 3, 1) := by decide +kernel
theorem dX4_spells_18 : decode cX4_spells 18 = .ok (.aload_n 1, 1) := by decide +kernel
theorem dX4_spells_19 : decode cX4_spells 19 = .ok (.invokevirtual 128, 3) := by decide +kernel
theorem dX4_spells_22 : decode cX4_spells 22 = .ok (.if_icmp .ge 29, 3) := by decide +kernel
theorem dX4_spells_25 : decode cX4_spells 25 = .ok (.aload_n 0, 1) := by decide +kernel
theorem dX4_spells_26 : decode cX4_spells 26 = .ok (.getfield 12, 3) := by decide +kernel
theorem dX4_spells_29 : decode cX4_spells 29 = .ok (.iload_n 2, 1) := by decide +kernel
theorem dX4_spells_30 : decode cX4_spells 30 = .ok (.iload_n 3, 1) := by decide +kernel
theorem dX4_spells_31 : decode cX4_spells 31 = .ok (.iadd, 1) := by decide +kernel
theorem dX4_spells_32 : decode cX4_spells 32 = .ok (.invokevirtual 132, 3) := by decide +kernel
theorem dX4_spells_35 : decode cX4_spells 35 = .ok (.aload_n 1, 1) := by decide +kernel
theorem dX4_spells_36 : decode cX4_spells 36 = .ok (.iload_n 3, 1) := by decide +kernel
theorem dX4_spells_37 : decode cX4_spells 37 = .ok (.invokevirtual 136, 3) := by decide +kernel
theorem dX4_spells_40 : decode cX4_spells 40 = .ok (.if_icmp .eq 5, 3) := by decide +kernel
theorem dX4_spells_43 : decode cX4_spells 43 = .ok (.iconst 0, 1) := by decide +kernel
theorem dX4_spells_44 : decode cX4_spells 44 = .ok (.ireturn, 1) := by decide +kernel
theorem dX4_spells_45 : decode cX4_spells 45 = .ok (.iinc 3 1, 3) := by decide +kernel
theorem dX4_spells_48 : decode cX4_spells 48 = .ok (.goto (-31), 3) := by decide +kernel
theorem dX4_spells_51 : decode cX4_spells 51 = .ok (.iconst 1, 1) := by decide +kernel
theorem dX4_spells_52 : decode cX4_spells 52 = .ok (.ireturn, 1) := by decide +kernel
set_option maxRecDepth 20000 in
theorem ggX4_look_X5_byteAt : GoodIn wsX4_look wsX5_byteAt := goodIn_r _ [8, 9, 10, 17, 18] (by decide +kernel) (by decide +kernel)
set_option maxRecDepth 20000 in
theorem gX4_look_X5_byteAt : GoodIn wsX4_look (wsV RX4 132 RX5 yX5_byteAt wsX5_byteAt) := goodIn_app (goodIn_of _ (by decide +kernel)) ggX4_look_X5_byteAt
theorem dX4_look_0 : decode cX4_look 0 = .ok (.aload_n 0, 1) := by decide +kernel
theorem dX4_look_1 : decode cX4_look 1 = .ok (.getfield 22, 3) := by decide +kernel
theorem dX4_look_4 : decode cX4_look 4 = .ok (.aload_n 0, 1) := by decide +kernel
theorem dX4_look_5 : decode cX4_look 5 = .ok (.getfield 18, 3) := by decide +kernel
theorem dX4_look_8 : decode cX4_look 8 = .ok (.if_icmp .ge 17, 3) := by decide +kernel
theorem dX4_look_11 : decode cX4_look 11 = .ok (.aload_n 0, 1) := by decide +kernel
theorem dX4_look_12 : decode cX4_look 12 = .ok (.getfield 12, 3) := by decide +kernel
theorem dX4_look_15 : decode cX4_look 15 = .ok (.aload_n 0, 1) := by decide +kernel
theorem dX4_look_16 : decode cX4_look 16 = .ok (.getfield 22, 3) := by decide +kernel
theorem dX4_look_19 : decode cX4_look 19 = .ok (.invokevirtual 132, 3) := by decide +kernel
theorem dX4_look_22 : decode cX4_look 22 = .ok (.goto 4, 3) := by decide +kernel
theorem dX4_look_25 : decode cX4_look 25 = .ok (.iconst (-1), 1) := by decide +kernel
theorem dX4_look_26 : decode cX4_look 26 = .ok (.ireturn, 1) := by decide +kernel
set_option maxRecDepth 20000 in
theorem ggX4_isDigit_X9_within : GoodIn wsX4_isDigit wsX9_within := goodIn_r _ [3] (by decide +kernel) (by decide +kernel)
set_option maxRecDepth 20000 in
theorem gX4_isDigit_X9_within_n100 : GoodIn wsX4_isDigit (wsX9_within) := ggX4_isDigit_X9_within
theorem dX4_isDigit_0 : decode cX4_isDigit 0 = .ok (.iload_n 0, 1) := by decide +kernel
theorem dX4_isDigit_1 : decode cX4_isDigit 1 = .ok (.bipush 48, 2) := by decide +kernel
theorem dX4_isDigit_3 : decode cX4_isDigit 3 = .ok (.bipush 57, 2) := by decide +kernel
theorem dX4_isDigit_5 : decode cX4_isDigit 5 = .ok (.invokestatic 100, 3) := by decide +kernel
theorem dX4_isDigit_8 : decode cX4_isDigit 8 = .ok (.ireturn, 1) := by decide +kernel
theorem dX5_init_0 : decode cX5_init 0 = .ok (.aload_n 0, 1) := by decide +kernel
theorem dX5_init_1 : decode cX5_init 1 = .ok (.invokespecial 3, 3) := by decide +kernel
theorem dX5_init_4 : decode cX5_init 4 = .ok (.aload_n 0, 1) := by decide +kernel
theorem dX5_init_5 : decode cX5_init 5 = .ok (.sipush 300, 3) := by decide +kernel
theorem dX5_init_8 : decode cX5_init 8 = .ok (.newarray .int, 2) := by decide +kernel
theorem dX5_init_10 : decode cX5_init 10 = .ok (.putfield 9, 3) := by decide +kernel
theorem dX5_init_13 : decode cX5_init 13 = .ok (.aload_n 0, 1) := by decide +kernel
theorem dX5_init_14 : decode cX5_init 14 = .ok (.iconst 0, 1) := by decide +kernel
theorem dX5_init_15 : decode cX5_init 15 = .ok (.putfield 15, 3) := by decide +kernel
theorem dX5_init_18 : decode cX5_init 18 = .ok (.return_, 1) := by decide +kernel
theorem dX5_size_0 : decode cX5_size 0 = .ok (.aload_n 0, 1) := by decide +kernel
theorem dX5_size_1 : decode cX5_size 1 = .ok (.getfield 15, 3) := by decide +kernel
theorem dX5_size_4 : decode cX5_size 4 = .ok (.ireturn, 1) := by decide +kernel
theorem dX5_hasRoom_0 : decode cX5_hasRoom 0 = .ok (.aload_n 0, 1) := by decide +kernel
theorem dX5_hasRoom_1 : decode cX5_hasRoom 1 = .ok (.getfield 15, 3) := by decide +kernel
theorem dX5_hasRoom_4 : decode cX5_hasRoom 4 = .ok (.aload_n 0, 1) := by decide +kernel
theorem dX5_hasRoom_5 : decode cX5_hasRoom 5 = .ok (.getfield 9, 3) := by decide +kernel
theorem dX5_hasRoom_8 : decode cX5_hasRoom 8 = .ok (.arraylength, 1) := by decide +kernel
theorem dX5_hasRoom_9 : decode cX5_hasRoom 9 = .ok (.iload_n 1, 1) := by decide +kernel
theorem dX5_hasRoom_10 : decode cX5_hasRoom 10 = .ok (.isub, 1) := by decide +kernel
theorem dX5_hasRoom_11 : decode cX5_hasRoom 11 = .ok (.if_icmp .gt 7, 3) := by decide +kernel
theorem dX5_hasRoom_14 : decode cX5_hasRoom 14 = .ok (.iconst 1, 1) := by decide +kernel
theorem dX5_hasRoom_15 : decode cX5_hasRoom 15 = .ok (.goto 4, 3) := by decide +kernel
theorem dX5_hasRoom_18 : decode cX5_hasRoom 18 = .ok (.iconst 0, 1) := by decide +kernel
theorem dX5_hasRoom_19 : decode cX5_hasRoom 19 = .ok (.ireturn, 1) := by decide +kernel
theorem dX5_put_0 : decode cX5_put 0 = .ok (.bipush 24, 2) := by decide +kernel
theorem dX5_put_2 : decode cX5_put 2 = .ok (.istore_n 2, 1) := by decide +kernel
theorem dX5_put_3 : decode cX5_put 3 = .ok (.iload_n 2, 1) := by decide +kernel
theorem dX5_put_4 : decode cX5_put 4 = .ok (.ifCond .lt 47, 3) := by decide +kernel
theorem dX5_put_7 : decode cX5_put 7 = .ok (.aload_n 0, 1) := by decide +kernel
theorem dX5_put_8 : decode cX5_put 8 = .ok (.getfield 15, 3) := by decide +kernel
theorem dX5_put_11 : decode cX5_put 11 = .ok (.aload_n 0, 1) := by decide +kernel
theorem dX5_put_12 : decode cX5_put 12 = .ok (.getfield 9, 3) := by decide +kernel
theorem dX5_put_15 : decode cX5_put 15 = .ok (.arraylength, 1) := by decide +kernel
theorem dX5_put_16 : decode cX5_put 16 = .ok (.if_icmp .ge 29, 3) := by decide +kernel
theorem dX5_put_19 : decode cX5_put 19 = .ok (.aload_n 0, 1) := by decide +kernel
theorem dX5_put_20 : decode cX5_put 20 = .ok (.getfield 9, 3) := by decide +kernel
theorem dX5_put_23 : decode cX5_put 23 = .ok (.aload_n 0, 1) := by decide +kernel
theorem dX5_put_24 : decode cX5_put 24 = .ok (.getfield 15, 3) := by decide +kernel
theorem dX5_put_27 : decode cX5_put 27 = .ok (.iload_n 1, 1) := by decide +kernel
theorem dX5_put_28 : decode cX5_put 28 = .ok (.iload_n 2, 1) := by decide +kernel
theorem dX5_put_29 : decode cX5_put 29 = .ok (.iushr, 1) := by decide +kernel
theorem dX5_put_30 : decode cX5_put 30 = .ok (.sipush 255, 3) := by decide +kernel
theorem dX5_put_33 : decode cX5_put 33 = .ok (.iand, 1) := by decide +kernel
theorem dX5_put_34 : decode cX5_put 34 = .ok (.iastore, 1) := by decide +kernel
theorem dX5_put_35 : decode cX5_put 35 = .ok (.aload_n 0, 1) := by decide +kernel
theorem dX5_put_36 : decode cX5_put 36 = .ok (.dup, 1) := by decide +kernel
theorem dX5_put_37 : decode cX5_put 37 = .ok (.getfield 15, 3) := by decide +kernel
theorem dX5_put_40 : decode cX5_put 40 = .ok (.iconst 1, 1) := by decide +kernel
theorem dX5_put_41 : decode cX5_put 41 = .ok (.iadd, 1) := by decide +kernel
theorem dX5_put_42 : decode cX5_put 42 = .ok (.putfield 15, 3) := by decide +kernel
theorem dX5_put_45 : decode cX5_put 45 = .ok (.iinc 2 (-8), 3) := by decide +kernel
theorem dX5_put_48 : decode cX5_put 48 = .ok (.goto (-45), 3) := by decide +kernel
theorem dX5_put_51 : decode cX5_put 51 = .ok (.return_, 1) := by decide +kernel
theorem dX5_empty_0 : decode cX5_empty 0 = .ok (.aload_n 0, 1) := by decide +kernel
theorem dX5_empty_1 : decode cX5_empty 1 = .ok (.iconst 0, 1) := by decide +kernel
theorem dX5_empty_2 : decode cX5_empty 2 = .ok (.putfield 15, 3) := by decide +kernel
theorem dX5_empty_5 : decode cX5_empty 5 = .ok (.return_, 1) := by decide +kernel
theorem dX5_byteAt_0 : decode cX5_byteAt 0 = .ok (.iload_n 1, 1) := by decide +kernel
theorem dX5_byteAt_1 : decode cX5_byteAt 1 = .ok (.ifCond .lt 11, 3) := by decide +kernel
theorem dX5_byteAt_4 : decode cX5_byteAt 4 = .ok (.iload_n 1, 1) := by decide +kernel
theorem dX5_byteAt_5 : decode cX5_byteAt 5 = .ok (.aload_n 0, 1) := by decide +kernel
theorem dX5_byteAt_6 : decode cX5_byteAt 6 = .ok (.getfield 15, 3) := by decide +kernel
theorem dX5_byteAt_9 : decode cX5_byteAt 9 = .ok (.if_icmp .lt 5, 3) := by decide +kernel
theorem dX5_byteAt_12 : decode cX5_byteAt 12 = .ok (.iconst (-1), 1) := by decide +kernel
theorem dX5_byteAt_13 : decode cX5_byteAt 13 = .ok (.ireturn, 1) := by decide +kernel
theorem dX5_byteAt_14 : decode cX5_byteAt 14 = .ok (.aload_n 0, 1) := by decide +kernel
theorem dX5_byteAt_15 : decode cX5_byteAt 15 = .ok (.getfield 9, 3) := by decide +kernel
theorem dX5_byteAt_18 : decode cX5_byteAt 18 = .ok (.iload_n 1, 1) := by decide +kernel
theorem dX5_byteAt_19 : decode cX5_byteAt 19 = .ok (.iaload, 1) := by decide +kernel
theorem dX5_byteAt_20 : decode cX5_byteAt 20 = .ok (.ireturn, 1) := by decide +kernel
set_option maxRecDepth 20000 in
theorem ggX6_init_X2_init : GoodIn wsX6_init wsX2_init := goodIn_r _ [25, 26, 2, 3, 17, 27, 28, 29, 30, 31, 32, 33, 59, 60] (by decide +kernel) (by decide +kernel)
set_option maxRecDepth 20000 in
theorem gX6_init_X2_init : GoodIn wsX6_init (wsX2_init) := ggX6_init_X2_init
set_option maxRecDepth 20000 in
theorem ggX6_init_X0_init : GoodIn wsX6_init wsX0_init := goodIn_r _ [36, 37, 2, 3, 17, 38, 39, 40, 41, 42, 69, 70, 71, 72, 73] (by decide +kernel) (by decide +kernel)
set_option maxRecDepth 20000 in
theorem gX6_init_X0_init : GoodIn wsX6_init (wsX0_init) := ggX6_init_X0_init
set_option maxRecDepth 20000 in
theorem ggX6_init_X1_init : GoodIn wsX6_init wsX1_init := goodIn_r _ [45, 46, 2, 3, 17, 47, 48, 49, 50, 51, 52, 53, 54, 55, 56, 57, 74, 75, 76, 77, 78, 79, 80, 81, 82, 83, 84, 85, 86, 87] (by decide +kernel) (by decide +kernel)
set_option maxRecDepth 20000 in
theorem gX6_init_X1_init : GoodIn wsX6_init (wsX1_init) := ggX6_init_X1_init
set_option maxRecDepth 20000 in
theorem ggX6_init_J7_fill_53178 : GoodIn wsX6_init wsJ7_fill_53178 := goodIn_r _ [33] (by decide +kernel) (by decide +kernel)
set_option maxRecDepth 20000 in
theorem gX6_init_J7_fill_53178 : GoodIn wsX6_init (va_wsS RX6 46 yJ7_fill_53178 wsJ7_fill_53178) := goodIn_app (goodIn_of _ (by decide +kernel)) ggX6_init_J7_fill_53178
theorem dX6_init_0 : decode cX6_init 0 = .ok (.aload_n 0, 1) := by decide +kernel
theorem dX6_init_1 : decode cX6_init 1 = .ok (.invokespecial 3, 3) := by decide +kernel
theorem dX6_init_4 : decode cX6_init 4 = .ok (.aload_n 0, 1) := by decide +kernel
theorem dX6_init_5 : decode cX6_init 5 = .ok (.new 9, 3) := by decide +kernel
theorem dX6_init_8 : decode cX6_init 8 = .ok (.dup, 1) := by decide +kernel
theorem dX6_init_9 : decode cX6_init 9 = .ok (.invokespecial 11, 3) := by decide +kernel
theorem dX6_init_12 : decode cX6_init 12 = .ok (.putfield 12, 3) := by decide +kernel
theorem dX6_init_15 : decode cX6_init 15 = .ok (.aload_n 0, 1) := by decide +kernel
theorem dX6_init_16 : decode cX6_init 16 = .ok (.new 9, 3) := by decide +kernel
theorem dX6_init_19 : decode cX6_init 19 = .ok (.dup, 1) := by decide +kernel
theorem dX6_init_20 : decode cX6_init 20 = .ok (.invokespecial 11, 3) := by decide +kernel
theorem dX6_init_23 : decode cX6_init 23 = .ok (.putfield 18, 3) := by decide +kernel
theorem dX6_init_26 : decode cX6_init 26 = .ok (.aload_n 0, 1) := by decide +kernel
theorem dX6_init_27 : decode cX6_init 27 = .ok (.new 21, 3) := by decide +kernel
theorem dX6_init_30 : decode cX6_init 30 = .ok (.dup, 1) := by decide +kernel
theorem dX6_init_31 : decode cX6_init 31 = .ok (.invokespecial 23, 3) := by decide +kernel
theorem dX6_init_34 : decode cX6_init 34 = .ok (.putfield 24, 3) := by decide +kernel
theorem dX6_init_37 : decode cX6_init 37 = .ok (.aload_n 0, 1) := by decide +kernel
theorem dX6_init_38 : decode cX6_init 38 = .ok (.new 28, 3) := by decide +kernel
theorem dX6_init_41 : decode cX6_init 41 = .ok (.dup, 1) := by decide +kernel
theorem dX6_init_42 : decode cX6_init 42 = .ok (.invokespecial 30, 3) := by decide +kernel
theorem dX6_init_45 : decode cX6_init 45 = .ok (.putfield 31, 3) := by decide +kernel
theorem dX6_init_48 : decode cX6_init 48 = .ok (.aload_n 0, 1) := by decide +kernel
theorem dX6_init_49 : decode cX6_init 49 = .ok (.sipush 300, 3) := by decide +kernel
theorem dX6_init_52 : decode cX6_init 52 = .ok (.newarray .int, 2) := by decide +kernel
theorem dX6_init_54 : decode cX6_init 54 = .ok (.putfield 35, 3) := by decide +kernel
theorem dX6_init_57 : decode cX6_init 57 = .ok (.aload_n 0, 1) := by decide +kernel
theorem dX6_init_58 : decode cX6_init 58 = .ok (.sipush 300, 3) := by decide +kernel
theorem dX6_init_61 : decode cX6_init 61 = .ok (.newarray .int, 2) := by decide +kernel
theorem dX6_init_63 : decode cX6_init 63 = .ok (.putfield 39, 3) := by decide +kernel
theorem dX6_init_66 : decode cX6_init 66 = .ok (.aload_n 0, 1) := by decide +kernel
theorem dX6_init_67 : decode cX6_init 67 = .ok (.sipush 300, 3) := by decide +kernel
theorem dX6_init_70 : decode cX6_init 70 = .ok (.newarray .int, 2) := by decide +kernel
theorem dX6_init_72 : decode cX6_init 72 = .ok (.putfield 42, 3) := by decide +kernel
theorem dX6_init_75 : decode cX6_init 75 = .ok (.aload_n 0, 1) := by decide +kernel
theorem dX6_init_76 : decode cX6_init 76 = .ok (.getfield 35, 3) := by decide +kernel
theorem dX6_init_79 : decode cX6_init 79 = .ok (.ldc 45, 2) := by decide +kernel
theorem dX6_init_81 : decode cX6_init 81 = .ok (.invokestatic 46, 3) := by decide +kernel
theorem dX6_init_84 : decode cX6_init 84 = .ok (.aload_n 0, 1) := by decide +kernel
theorem dX6_init_85 : decode cX6_init 85 = .ok (.getfield 39, 3) := by decide +kernel
theorem dX6_init_88 : decode cX6_init 88 = .ok (.ldc 45, 2) := by decide +kernel
theorem dX6_init_90 : decode cX6_init 90 = .ok (.invokestatic 46, 3) := by decide +kernel
theorem dX6_init_93 : decode cX6_init 93 = .ok (.aload_n 0, 1) := by decide +kernel
theorem dX6_init_94 : decode cX6_init 94 = .ok (.getfield 42, 3) := by decide +kernel
theorem dX6_init_97 : decode cX6_init 97 = .ok (.ldc 45, 2) := by decide +kernel
theorem dX6_init_99 : decode cX6_init 99 = .ok (.invokestatic 46, 3) := by decide +kernel
theorem dX6_init_102 : decode cX6_init 102 = .ok (.aload_n 0, 1) := by decide +kernel
theorem dX6_init_103 : decode cX6_init 103 = .ok (.iconst (-1), 1) := by decide +kernel
theorem dX6_init_104 : decode cX6_init 104 = .ok (.putfield 52, 3) := by decide +kernel
theorem dX6_init_107 : decode cX6_init 107 = .ok (.return_, 1) := by decide +kernel
theorem dX6_rowOf_0 : decode cX6_rowOf 0 = .ok (.iload_n 1, 1) := by decide +kernel
theorem dX6_rowOf_1 : decode cX6_rowOf 1 = .ok (.ifCond .ne 10, 3) := by decide +kernel
theorem dX6_rowOf_4 : decode cX6_rowOf 4 = .ok (.aload_n 0, 1) := by decide +kernel
theorem dX6_rowOf_5 : decode cX6_rowOf 5 = .ok (.getfield 12, 3) := by decide +kernel
theorem dX6_rowOf_8 : decode cX6_rowOf 8 = .ok (.goto 7, 3) := by decide +kernel
theorem dX6_rowOf_11 : decode cX6_rowOf 11 = .ok (.aload_n 0, 1) := by decide +kernel
theorem dX6_rowOf_12 : decode cX6_rowOf 12 = .ok (.getfield 18, 3) := by decide +kernel
theorem dX6_rowOf_15 : decode cX6_rowOf 15 = .ok (.areturn, 1) := by decide +kernel
set_option maxRecDepth 20000 in
theorem ggX6_times_X2_size : GoodIn wsX6_times wsX2_size := goodIn_r _ [11, 12, 21, 22] (by decide +kernel) (by decide +kernel)
set_option maxRecDepth 20000 in
theorem gX6_times_X2_size : GoodIn wsX6_times (wsV RX6 56 RX2 yX2_size wsX2_size) := goodIn_app (goodIn_of _ (by decide +kernel)) ggX6_times_X2_size
theorem dX6_times_0 : decode cX6_times 0 = .ok (.aload_n 0, 1) := by decide +kernel
theorem dX6_times_1 : decode cX6_times 1 = .ok (.getfield 12, 3) := by decide +kernel
theorem dX6_times_4 : decode cX6_times 4 = .ok (.invokevirtual 56, 3) := by decide +kernel
theorem dX6_times_7 : decode cX6_times 7 = .ok (.aload_n 0, 1) := by decide +kernel
theorem dX6_times_8 : decode cX6_times 8 = .ok (.getfield 18, 3) := by decide +kernel
theorem dX6_times_11 : decode cX6_times 11 = .ok (.invokevirtual 56, 3) := by decide +kernel
theorem dX6_times_14 : decode cX6_times 14 = .ok (.invokestatic 60, 3) := by decide +kernel
theorem dX6_times_17 : decode cX6_times 17 = .ok (.ireturn, 1) := by decide +kernel
theorem dX6_unsettle_0 : decode cX6_unsettle 0 = .ok (.aload_n 0, 1) := by decide +kernel
theorem dX6_unsettle_1 : decode cX6_unsettle 1 = .ok (.iconst (-1), 1) := by decide +kernel
theorem dX6_unsettle_2 : decode cX6_unsettle 2 = .ok (.putfield 52, 3) := by decide +kernel
theorem dX6_unsettle_5 : decode cX6_unsettle 5 = .ok (.return_, 1) := by decide +kernel
set_option maxRecDepth 20000 in
theorem ggX6_settle_X6_times : GoodIn wsX6_settle wsX6_times := goodIn_r _ [16, 7, 8, 17, 18, 4, 19, 20, 21, 22, 23, 24, 25, 134, 135, 136, 137, 138, 139, 140, 141, 142, 143] (by decide +kernel) (by decide +kernel)
set_option maxRecDepth 20000 in
theorem gX6_settle_X6_times : GoodIn wsX6_settle (wsV RX6 66 RX6 yX6_times wsX6_times) := goodIn_app (goodIn_of _ (by decide +kernel)) ggX6_settle_X6_times
set_option maxRecDepth 20000 in
theorem ggX6_settle_X2_reading : GoodIn wsX6_settle wsX2_reading := goodIn_r _ [29, 30, 31, 142, 143] (by decide +kernel) (by decide +kernel)
set_option maxRecDepth 20000 in
theorem gX6_settle_X2_reading : GoodIn wsX6_settle (wsV RX6 72 RX2 yX2_reading wsX2_reading) := goodIn_app (goodIn_of _ (by decide +kernel)) ggX6_settle_X2_reading
set_option maxRecDepth 20000 in
theorem ggX6_settle_X6_join : GoodIn wsX6_settle wsX6_join := goodIn_r _ [34, 6, 35, 36, 4, 37, 38, 39, 40, 41] (by decide +kernel) (by decide +kernel)
set_option maxRecDepth 20000 in
theorem gX6_settle_X6_join : GoodIn wsX6_settle (va_wsS RX6 76 yX6_join wsX6_join) := goodIn_app (goodIn_of _ (by decide +kernel)) ggX6_settle_X6_join
set_option maxRecDepth 20000 in
theorem ggX6_settle_X6_takePoints : GoodIn wsX6_settle wsX6_takePoints := goodIn_r _ [45, 10, 46, 6, 47, 48, 49, 50, 51, 52, 53, 54, 55, 56, 57, 58, 59, 60, 61, 62, 15, 63, 64, 65, 66, 67, 68, 69, 70, 71, 72, 73, 74, 75, 76, 9, 77, 78, 79, 80, 81, 82, 83, 134, 135, 136, 137, 138, 139, 140, 141, 144, 145, 146, 147, 148, 149, 150, 151, 152, 153, 154, 155, 156, 157, 158, 159, 160, 161, 162] (by decide +kernel) (by decide +kernel)
set_option maxRecDepth 20000 in
theorem gX6_settle_X6_takePoints : GoodIn wsX6_settle (wsV RX6 80 RX6 yX6_takePoints wsX6_takePoints) := goodIn_app (goodIn_of _ (by decide +kernel)) ggX6_settle_X6_takePoints
set_option maxRecDepth 20000 in
theorem ggX6_settle_X1_lay : GoodIn wsX6_settle wsX1_lay := goodIn_r _ [87, 52, 88, 89, 90, 50, 91, 81, 82, 83, 92, 93, 94, 95, 96, 97, 98, 99, 100, 101, 4, 102, 103, 104, 105, 106, 107, 53, 108, 109, 110, 111, 112, 113, 114, 115, 116, 117, 118, 119, 120, 144, 145, 146, 147, 148, 149, 150, 151, 152, 153, 154, 155, 156, 157] (by decide +kernel) (by decide +kernel)
set_option maxRecDepth 20000 in
theorem gX6_settle_X1_lay : GoodIn wsX6_settle (wsV RX6 83 RX1 yX1_lay wsX1_lay) := goodIn_app (goodIn_of _ (by decide +kernel)) ggX6_settle_X1_lay
set_option maxRecDepth 20000 in
theorem ggX6_settle_X6_joinedAt : GoodIn wsX6_settle wsX6_joinedAt := goodIn_r _ [76, 9, 6, 134, 135, 136, 137, 138, 139, 140, 141] (by decide +kernel) (by decide +kernel)
set_option maxRecDepth 20000 in
theorem gX6_settle_X6_joinedAt : GoodIn wsX6_settle (wsV RX6 86 RX6 yX6_joinedAt wsX6_joinedAt) := goodIn_app (goodIn_of _ (by decide +kernel)) ggX6_settle_X6_joinedAt
set_option maxRecDepth 20000 in
theorem ggX6_settle_X6_together : GoodIn wsX6_settle wsX6_together := goodIn_r _ [124, 6, 10, 125, 126, 127, 50, 128, 53, 129, 103, 106, 130, 105, 107, 131, 132, 40, 133, 134, 135, 136, 137, 138, 139, 140, 141, 144, 145, 146, 147, 148, 149, 150, 151, 152, 153, 154, 155, 156, 157] (by decide +kernel) (by decide +kernel)
set_option maxRecDepth 20000 in
theorem gX6_settle_X6_together : GoodIn wsX6_settle (wsV RX6 89 RX6 yX6_together wsX6_together) := goodIn_app (goodIn_of _ (by decide +kernel)) ggX6_settle_X6_together
theorem dX6_settle_0 : decode cX6_settle 0 = .ok (.aload_n 0, 1) := by decide +kernel
theorem dX6_settle_1 : decode cX6_settle 1 = .ok (.getfield 52, 3) := by decide +kernel
theorem dX6_settle_4 : decode cX6_settle 4 = .ok (.iload_n 1, 1) := by decide +kernel
theorem dX6_settle_5 : decode cX6_settle 5 = .ok (.if_icmp .ne 4, 3) := by decide +kernel
theorem dX6_settle_8 : decode cX6_settle 8 = .ok (.return_, 1) := by decide +kernel
theorem dX6_settle_9 : decode cX6_settle 9 = .ok (.aload_n 0, 1) := by decide +kernel
theorem dX6_settle_10 : decode cX6_settle 10 = .ok (.invokevirtual 66, 3) := by decide +kernel
theorem dX6_settle_13 : decode cX6_settle 13 = .ok (.sipush 300, 3) := by decide +kernel
theorem dX6_settle_16 : decode cX6_settle 16 = .ok (.invokestatic 69, 3) := by decide +kernel
theorem dX6_settle_19 : decode cX6_settle 19 = .ok (.istore_n 2, 1) := by decide +kernel
theorem dX6_settle_20 : decode cX6_settle 20 = .ok (.ldc 45, 2) := by decide +kernel
theorem dX6_settle_22 : decode cX6_settle 22 = .ok (.istore_n 3, 1) := by decide +kernel
theorem dX6_settle_23 : decode cX6_settle 23 = .ok (.iconst 0, 1) := by decide +kernel
theorem dX6_settle_24 : decode cX6_settle 24 = .ok (.istore 4, 2) := by decide +kernel
theorem dX6_settle_26 : decode cX6_settle 26 = .ok (.iload 4, 2) := by decide +kernel
theorem dX6_settle_28 : decode cX6_settle 28 = .ok (.iload_n 2, 1) := by decide +kernel
theorem dX6_settle_29 : decode cX6_settle 29 = .ok (.if_icmp .ge 41, 3) := by decide +kernel
theorem dX6_settle_32 : decode cX6_settle 32 = .ok (.aload_n 0, 1) := by decide +kernel
theorem dX6_settle_33 : decode cX6_settle 33 = .ok (.getfield 12, 3) := by decide +kernel
theorem dX6_settle_36 : decode cX6_settle 36 = .ok (.iload 4, 2) := by decide +kernel
theorem dX6_settle_38 : decode cX6_settle 38 = .ok (.invokevirtual 72, 3) := by decide +kernel
theorem dX6_settle_41 : decode cX6_settle 41 = .ok (.aload_n 0, 1) := by decide +kernel
theorem dX6_settle_42 : decode cX6_settle 42 = .ok (.getfield 18, 3) := by decide +kernel
theorem dX6_settle_45 : decode cX6_settle 45 = .ok (.iload 4, 2) := by decide +kernel
theorem dX6_settle_47 : decode cX6_settle 47 = .ok (.invokevirtual 72, 3) := by decide +kernel
theorem dX6_settle_50 : decode cX6_settle 50 = .ok (.iload_n 3, 1) := by decide +kernel
theorem dX6_settle_51 : decode cX6_settle 51 = .ok (.iload_n 1, 1) := by decide +kernel
theorem dX6_settle_52 : decode cX6_settle 52 = .ok (.invokestatic 76, 3) := by decide +kernel
theorem dX6_settle_55 : decode cX6_settle 55 = .ok (.istore_n 3, 1) := by decide +kernel
theorem dX6_settle_56 : decode cX6_settle 56 = .ok (.aload_n 0, 1) := by decide +kernel
theorem dX6_settle_57 : decode cX6_settle 57 = .ok (.getfield 35, 3) := by decide +kernel
theorem dX6_settle_60 : decode cX6_settle 60 = .ok (.iload 4, 2) := by decide +kernel
theorem dX6_settle_62 : decode cX6_settle 62 = .ok (.iload_n 3, 1) := by decide +kernel
theorem dX6_settle_63 : decode cX6_settle 63 = .ok (.iastore, 1) := by decide +kernel
theorem dX6_settle_64 : decode cX6_settle 64 = .ok (.iinc 4 1, 3) := by decide +kernel
theorem dX6_settle_67 : decode cX6_settle 67 = .ok (.goto (-41), 3) := by decide +kernel
theorem dX6_settle_70 : decode cX6_settle 70 = .ok (.aload_n 0, 1) := by decide +kernel
theorem dX6_settle_71 : decode cX6_settle 71 = .ok (.invokevirtual 80, 3) := by decide +kernel
theorem dX6_settle_74 : decode cX6_settle 74 = .ok (.aload_n 0, 1) := by decide +kernel
theorem dX6_settle_75 : decode cX6_settle 75 = .ok (.getfield 31, 3) := by decide +kernel
theorem dX6_settle_78 : decode cX6_settle 78 = .ok (.invokevirtual 83, 3) := by decide +kernel
theorem dX6_settle_81 : decode cX6_settle 81 = .ok (.iconst 0, 1) := by decide +kernel
theorem dX6_settle_82 : decode cX6_settle 82 = .ok (.istore 4, 2) := by decide +kernel
theorem dX6_settle_84 : decode cX6_settle 84 = .ok (.iload 4, 2) := by decide +kernel
theorem dX6_settle_86 : decode cX6_settle 86 = .ok (.iload_n 2, 1) := by decide +kernel
theorem dX6_settle_87 : decode cX6_settle 87 = .ok (.if_icmp .ge 28, 3) := by decide +kernel
theorem dX6_settle_90 : decode cX6_settle 90 = .ok (.aload_n 0, 1) := by decide +kernel
theorem dX6_settle_91 : decode cX6_settle 91 = .ok (.getfield 39, 3) := by decide +kernel
theorem dX6_settle_94 : decode cX6_settle 94 = .ok (.iload 4, 2) := by decide +kernel
theorem dX6_settle_96 : decode cX6_settle 96 = .ok (.aload_n 0, 1) := by decide +kernel
theorem dX6_settle_97 : decode cX6_settle 97 = .ok (.aload_n 0, 1) := by decide +kernel
theorem dX6_settle_98 : decode cX6_settle 98 = .ok (.iload 4, 2) := by decide +kernel
theorem dX6_settle_100 : decode cX6_settle 100 = .ok (.invokevirtual 86, 3) := by decide +kernel
theorem dX6_settle_103 : decode cX6_settle 103 = .ok (.iload 4, 2) := by decide +kernel
theorem dX6_settle_105 : decode cX6_settle 105 = .ok (.invokevirtual 89, 3) := by decide +kernel
theorem dX6_settle_108 : decode cX6_settle 108 = .ok (.iastore, 1) := by decide +kernel
theorem dX6_settle_109 : decode cX6_settle 109 = .ok (.iinc 4 1, 3) := by decide +kernel
theorem dX6_settle_112 : decode cX6_settle 112 = .ok (.goto (-28), 3) := by decide +kernel
theorem dX6_settle_115 : decode cX6_settle 115 = .ok (.aload_n 0, 1) := by decide +kernel
theorem dX6_settle_116 : decode cX6_settle 116 = .ok (.iload_n 1, 1) := by decide +kernel
theorem dX6_settle_117 : decode cX6_settle 117 = .ok (.putfield 52, 3) := by decide +kernel
theorem dX6_settle_120 : decode cX6_settle 120 = .ok (.return_, 1) := by decide +kernel
set_option maxRecDepth 20000 in
theorem ggX6_join_J9_floorDiv_7cf53 : GoodIn wsX6_join wsJ9_floorDiv_7cf53 := goodIn_r _ [9] (by decide +kernel) (by decide +kernel)
set_option maxRecDepth 20000 in
theorem gX6_join_J9_floorDiv_7cf53 : GoodIn wsX6_join (va_wsS RX6 95 yJ9_floorDiv_7cf53 wsJ9_floorDiv_7cf53) := goodIn_app (goodIn_of _ (by decide +kernel)) ggX6_join_J9_floorDiv_7cf53
theorem dX6_join_0 : decode cX6_join 0 = .ok (.iload_n 0, 1) := by decide +kernel
theorem dX6_join_1 : decode cX6_join 1 = .ok (.ldc 45, 2) := by decide +kernel
theorem dX6_join_3 : decode cX6_join 3 = .ok (.if_icmp .ne 5, 3) := by decide +kernel
theorem dX6_join_6 : decode cX6_join 6 = .ok (.iload_n 1, 1) := by decide +kernel
theorem dX6_join_7 : decode cX6_join 7 = .ok (.ireturn, 1) := by decide +kernel
theorem dX6_join_8 : decode cX6_join 8 = .ok (.iload_n 1, 1) := by decide +kernel
theorem dX6_join_9 : decode cX6_join 9 = .ok (.ldc 45, 2) := by decide +kernel
theorem dX6_join_11 : decode cX6_join 11 = .ok (.if_icmp .ne 5, 3) := by decide +kernel
theorem dX6_join_14 : decode cX6_join 14 = .ok (.iload_n 0, 1) := by decide +kernel
theorem dX6_join_15 : decode cX6_join 15 = .ok (.ireturn, 1) := by decide +kernel
theorem dX6_join_16 : decode cX6_join 16 = .ok (.iload_n 0, 1) := by decide +kernel
theorem dX6_join_17 : decode cX6_join 17 = .ok (.iload_n 1, 1) := by decide +kernel
theorem dX6_join_18 : decode cX6_join 18 = .ok (.isub, 1) := by decide +kernel
theorem dX6_join_19 : decode cX6_join 19 = .ok (.invokestatic 92, 3) := by decide +kernel
theorem dX6_join_22 : decode cX6_join 22 = .ok (.iload_n 3, 1) := by decide +kernel
theorem dX6_join_23 : decode cX6_join 23 = .ok (.if_icmp .gt 11, 3) := by decide +kernel
theorem dX6_join_26 : decode cX6_join 26 = .ok (.iload_n 0, 1) := by decide +kernel
theorem dX6_join_27 : decode cX6_join 27 = .ok (.iload_n 1, 1) := by decide +kernel
theorem dX6_join_28 : decode cX6_join 28 = .ok (.iadd, 1) := by decide +kernel
theorem dX6_join_29 : decode cX6_join 29 = .ok (.iconst 2, 1) := by decide +kernel
theorem dX6_join_30 : decode cX6_join 30 = .ok (.invokestatic 95, 3) := by decide +kernel
theorem dX6_join_33 : decode cX6_join 33 = .ok (.ireturn, 1) := by decide +kernel
theorem dX6_join_34 : decode cX6_join 34 = .ok (.iload_n 2, 1) := by decide +kernel
theorem dX6_join_35 : decode cX6_join 35 = .ok (.ldc 45, 2) := by decide +kernel
theorem dX6_join_37 : decode cX6_join 37 = .ok (.if_icmp .eq 20, 3) := by decide +kernel
theorem dX6_join_40 : decode cX6_join 40 = .ok (.iload_n 1, 1) := by decide +kernel
theorem dX6_join_41 : decode cX6_join 41 = .ok (.iload_n 2, 1) := by decide +kernel
theorem dX6_join_42 : decode cX6_join 42 = .ok (.isub, 1) := by decide +kernel
theorem dX6_join_43 : decode cX6_join 43 = .ok (.invokestatic 92, 3) := by decide +kernel
theorem dX6_join_46 : decode cX6_join 46 = .ok (.iload_n 0, 1) := by decide +kernel
theorem dX6_join_47 : decode cX6_join 47 = .ok (.iload_n 2, 1) := by decide +kernel
theorem dX6_join_48 : decode cX6_join 48 = .ok (.isub, 1) := by decide +kernel
theorem dX6_join_49 : decode cX6_join 49 = .ok (.invokestatic 92, 3) := by decide +kernel
theorem dX6_join_52 : decode cX6_join 52 = .ok (.if_icmp .ge 5, 3) := by decide +kernel
theorem dX6_join_55 : decode cX6_join 55 = .ok (.iload_n 1, 1) := by decide +kernel
theorem dX6_join_56 : decode cX6_join 56 = .ok (.ireturn, 1) := by decide +kernel
theorem dX6_join_57 : decode cX6_join 57 = .ok (.iload_n 0, 1) := by decide +kernel
theorem dX6_join_58 : decode cX6_join 58 = .ok (.ireturn, 1) := by decide +kernel
set_option maxRecDepth 20000 in
theorem ggX6_takePoints_X1_clear : GoodIn wsX6_takePoints wsX1_clear := goodIn_r _ [8, 9, 10, 51, 52, 53, 54, 55, 56, 57, 58, 59, 60, 61, 62, 63, 64] (by decide +kernel) (by decide +kernel)
set_option maxRecDepth 20000 in
theorem gX6_takePoints_X1_clear : GoodIn wsX6_takePoints (wsV RX6 98 RX1 yX1_clear wsX1_clear) := goodIn_app (goodIn_of _ (by decide +kernel)) ggX6_takePoints_X1_clear
set_option maxRecDepth 20000 in
theorem ggX6_takePoints_X0_size : GoodIn wsX6_takePoints wsX0_size := goodIn_r _ [15, 16, 65, 66, 67, 68, 69] (by decide +kernel) (by decide +kernel)
set_option maxRecDepth 20000 in
theorem gX6_takePoints_X0_size : GoodIn wsX6_takePoints (wsV RX6 101 RX0 yX0_size wsX0_size) := goodIn_app (goodIn_of _ (by decide +kernel)) ggX6_takePoints_X0_size
set_option maxRecDepth 20000 in
theorem ggX6_takePoints_X6_pointOf : GoodIn wsX6_takePoints wsX6_pointOf := goodIn_r _ [21, 2, 3, 22, 23, 24, 14, 25, 16, 26, 27, 28, 29, 30, 31, 32, 33, 20, 34, 35, 43, 44, 45, 46, 47, 48, 49, 50, 65, 66, 67, 68, 69] (by decide +kernel) (by decide +kernel)
set_option maxRecDepth 20000 in
theorem gX6_takePoints_X6_pointOf : GoodIn wsX6_takePoints (wsV RX6 102 RX6 yX6_pointOf wsX6_pointOf) := goodIn_app (goodIn_of _ (by decide +kernel)) ggX6_takePoints_X6_pointOf
set_option maxRecDepth 20000 in
theorem ggX6_takePoints_X0_tell : GoodIn wsX6_takePoints wsX0_tell := goodIn_r _ [25, 16, 26, 27, 28, 29, 30, 65, 66, 67, 68, 69] (by decide +kernel) (by decide +kernel)
set_option maxRecDepth 20000 in
theorem gX6_takePoints_X0_tell : GoodIn wsX6_takePoints (wsV RX6 105 RX0 yX0_tell wsX0_tell) := goodIn_app (goodIn_of _ (by decide +kernel)) ggX6_takePoints_X0_tell
set_option maxRecDepth 20000 in
theorem ggX6_takePoints_X1_addPoint : GoodIn wsX6_takePoints wsX1_addPoint := goodIn_r _ [39, 9, 40, 41, 42, 51, 52, 53, 54, 55, 56, 57, 58, 59, 60, 61, 62, 63, 64] (by decide +kernel) (by decide +kernel)
set_option maxRecDepth 20000 in
theorem gX6_takePoints_X1_addPoint : GoodIn wsX6_takePoints (wsV RX6 108 RX1 yX1_addPoint wsX1_addPoint) := goodIn_app (goodIn_of _ (by decide +kernel)) ggX6_takePoints_X1_addPoint
theorem dX6_takePoints_0 : decode cX6_takePoints 0 = .ok (.aload_n 0, 1) := by decide +kernel
theorem dX6_takePoints_1 : decode cX6_takePoints 1 = .ok (.getfield 31, 3) := by decide +kernel
theorem dX6_takePoints_4 : decode cX6_takePoints 4 = .ok (.invokevirtual 98, 3) := by decide +kernel
theorem dX6_takePoints_7 : decode cX6_takePoints 7 = .ok (.iconst 0, 1) := by decide +kernel
theorem dX6_takePoints_8 : decode cX6_takePoints 8 = .ok (.istore_n 1, 1) := by decide +kernel
theorem dX6_takePoints_9 : decode cX6_takePoints 9 = .ok (.iload_n 1, 1) := by decide +kernel
theorem dX6_takePoints_10 : decode cX6_takePoints 10 = .ok (.aload_n 0, 1) := by decide +kernel
theorem dX6_takePoints_11 : decode cX6_takePoints 11 = .ok (.getfield 24, 3) := by decide +kernel
theorem dX6_takePoints_14 : decode cX6_takePoints 14 = .ok (.invokevirtual 101, 3) := by decide +kernel
theorem dX6_takePoints_17 : decode cX6_takePoints 17 = .ok (.if_icmp .ge 47, 3) := by decide +kernel
theorem dX6_takePoints_20 : decode cX6_takePoints 20 = .ok (.aload_n 0, 1) := by decide +kernel
theorem dX6_takePoints_21 : decode cX6_takePoints 21 = .ok (.iload_n 1, 1) := by decide +kernel
theorem dX6_takePoints_22 : decode cX6_takePoints 22 = .ok (.invokevirtual 102, 3) := by decide +kernel
theorem dX6_takePoints_25 : decode cX6_takePoints 25 = .ok (.istore_n 2, 1) := by decide +kernel
theorem dX6_takePoints_26 : decode cX6_takePoints 26 = .ok (.iload_n 2, 1) := by decide +kernel
theorem dX6_takePoints_27 : decode cX6_takePoints 27 = .ok (.ldc 45, 2) := by decide +kernel
theorem dX6_takePoints_29 : decode cX6_takePoints 29 = .ok (.if_icmp .eq 29, 3) := by decide +kernel
theorem dX6_takePoints_32 : decode cX6_takePoints 32 = .ok (.aload_n 0, 1) := by decide +kernel
theorem dX6_takePoints_33 : decode cX6_takePoints 33 = .ok (.getfield 31, 3) := by decide +kernel
theorem dX6_takePoints_36 : decode cX6_takePoints 36 = .ok (.aload_n 0, 1) := by decide +kernel
theorem dX6_takePoints_37 : decode cX6_takePoints 37 = .ok (.getfield 24, 3) := by decide +kernel
theorem dX6_takePoints_40 : decode cX6_takePoints 40 = .ok (.iload_n 1, 1) := by decide +kernel
theorem dX6_takePoints_41 : decode cX6_takePoints 41 = .ok (.iconst 0, 1) := by decide +kernel
theorem dX6_takePoints_42 : decode cX6_takePoints 42 = .ok (.invokevirtual 105, 3) := by decide +kernel
theorem dX6_takePoints_45 : decode cX6_takePoints 45 = .ok (.iload_n 2, 1) := by decide +kernel
theorem dX6_takePoints_46 : decode cX6_takePoints 46 = .ok (.aload_n 0, 1) := by decide +kernel
theorem dX6_takePoints_47 : decode cX6_takePoints 47 = .ok (.getfield 24, 3) := by decide +kernel
theorem dX6_takePoints_50 : decode cX6_takePoints 50 = .ok (.iload_n 1, 1) := by decide +kernel
theorem dX6_takePoints_51 : decode cX6_takePoints 51 = .ok (.iconst 3, 1) := by decide +kernel
theorem dX6_takePoints_52 : decode cX6_takePoints 52 = .ok (.invokevirtual 105, 3) := by decide +kernel
theorem dX6_takePoints_55 : decode cX6_takePoints 55 = .ok (.invokevirtual 108, 3) := by decide +kernel
theorem dX6_takePoints_58 : decode cX6_takePoints 58 = .ok (.iinc 1 1, 3) := by decide +kernel
theorem dX6_takePoints_61 : decode cX6_takePoints 61 = .ok (.goto (-52), 3) := by decide +kernel
theorem dX6_takePoints_64 : decode cX6_takePoints 64 = .ok (.return_, 1) := by decide +kernel
set_option maxRecDepth 20000 in
theorem ggX6_together_X1_height : GoodIn wsX6_together wsX1_height := goodIn_r _ [7, 8, 9, 10, 11, 12, 13, 14, 15, 16, 17, 18, 27, 28, 29, 30, 31, 32, 33, 34, 35, 36, 37, 38, 39, 40] (by decide +kernel) (by decide +kernel)
set_option maxRecDepth 20000 in
theorem gX6_together_X1_height : GoodIn wsX6_together (wsV RX6 112 RX1 yX1_height wsX1_height) := goodIn_app (goodIn_of _ (by decide +kernel)) ggX6_together_X1_height
theorem dX6_together_0 : decode cX6_together 0 = .ok (.iload_n 1, 1) := by decide +kernel
theorem dX6_together_1 : decode cX6_together 1 = .ok (.ldc 45, 2) := by decide +kernel
theorem dX6_together_3 : decode cX6_together 3 = .ok (.if_icmp .ne 8, 3) := by decide +kernel
theorem dX6_together_6 : decode cX6_together 6 = .ok (.ldc 45, 2) := by decide +kernel
theorem dX6_together_8 : decode cX6_together 8 = .ok (.goto 11, 3) := by decide +kernel
theorem dX6_together_11 : decode cX6_together 11 = .ok (.aload_n 0, 1) := by decide +kernel
theorem dX6_together_12 : decode cX6_together 12 = .ok (.getfield 31, 3) := by decide +kernel
theorem dX6_together_15 : decode cX6_together 15 = .ok (.iload_n 2, 1) := by decide +kernel
theorem dX6_together_16 : decode cX6_together 16 = .ok (.invokevirtual 112, 3) := by decide +kernel
theorem dX6_together_19 : decode cX6_together 19 = .ok (.istore_n 3, 1) := by decide +kernel
theorem dX6_together_20 : decode cX6_together 20 = .ok (.iload_n 3, 1) := by decide +kernel
theorem dX6_together_21 : decode cX6_together 21 = .ok (.ldc 45, 2) := by decide +kernel
theorem dX6_together_23 : decode cX6_together 23 = .ok (.if_icmp .ne 8, 3) := by decide +kernel
theorem dX6_together_26 : decode cX6_together 26 = .ok (.ldc 45, 2) := by decide +kernel
theorem dX6_together_28 : decode cX6_together 28 = .ok (.goto 6, 3) := by decide +kernel
theorem dX6_together_31 : decode cX6_together 31 = .ok (.iload_n 1, 1) := by decide +kernel
theorem dX6_together_32 : decode cX6_together 32 = .ok (.iload_n 3, 1) := by decide +kernel
theorem dX6_together_33 : decode cX6_together 33 = .ok (.iadd, 1) := by decide +kernel
theorem dX6_together_34 : decode cX6_together 34 = .ok (.ireturn, 1) := by decide +kernel
theorem dX6_joinedAt_0 : decode cX6_joinedAt 0 = .ok (.iload_n 1, 1) := by decide +kernel
theorem dX6_joinedAt_1 : decode cX6_joinedAt 1 = .ok (.ifCond .lt 12, 3) := by decide +kernel
theorem dX6_joinedAt_4 : decode cX6_joinedAt 4 = .ok (.iload_n 1, 1) := by decide +kernel
theorem dX6_joinedAt_5 : decode cX6_joinedAt 5 = .ok (.aload_n 0, 1) := by decide +kernel
theorem dX6_joinedAt_6 : decode cX6_joinedAt 6 = .ok (.getfield 35, 3) := by decide +kernel
theorem dX6_joinedAt_9 : decode cX6_joinedAt 9 = .ok (.arraylength, 1) := by decide +kernel
theorem dX6_joinedAt_10 : decode cX6_joinedAt 10 = .ok (.if_icmp .lt 6, 3) := by decide +kernel
theorem dX6_joinedAt_13 : decode cX6_joinedAt 13 = .ok (.ldc 45, 2) := by decide +kernel
theorem dX6_joinedAt_15 : decode cX6_joinedAt 15 = .ok (.ireturn, 1) := by decide +kernel
theorem dX6_joinedAt_16 : decode cX6_joinedAt 16 = .ok (.aload_n 0, 1) := by decide +kernel
theorem dX6_joinedAt_17 : decode cX6_joinedAt 17 = .ok (.getfield 35, 3) := by decide +kernel
theorem dX6_joinedAt_20 : decode cX6_joinedAt 20 = .ok (.iload_n 1, 1) := by decide +kernel
theorem dX6_joinedAt_21 : decode cX6_joinedAt 21 = .ok (.iaload, 1) := by decide +kernel
theorem dX6_joinedAt_22 : decode cX6_joinedAt 22 = .ok (.ireturn, 1) := by decide +kernel
set_option maxRecDepth 20000 in
theorem ggX6_pointOf_X0_tell : GoodIn wsX6_pointOf wsX0_tell := goodIn_r _ [7, 8, 9, 10, 11, 12, 13, 28, 29, 30, 31, 32] (by decide +kernel) (by decide +kernel)
set_option maxRecDepth 20000 in
theorem gX6_pointOf_X0_tell : GoodIn wsX6_pointOf (wsV RX6 105 RX0 yX0_tell wsX0_tell) := goodIn_app (goodIn_of _ (by decide +kernel)) ggX6_pointOf_X0_tell
set_option maxRecDepth 20000 in
theorem ggX6_pointOf_X6_joinedAt : GoodIn wsX6_pointOf wsX6_joinedAt := goodIn_r _ [18, 19, 2, 20, 21, 22, 23, 24, 25, 26, 27] (by decide +kernel) (by decide +kernel)
set_option maxRecDepth 20000 in
theorem gX6_pointOf_X6_joinedAt : GoodIn wsX6_pointOf (wsV RX6 86 RX6 yX6_joinedAt wsX6_joinedAt) := goodIn_app (goodIn_of _ (by decide +kernel)) ggX6_pointOf_X6_joinedAt
theorem dX6_pointOf_0 : decode cX6_pointOf 0 = .ok (.aload_n 0, 1) := by decide +kernel
theorem dX6_pointOf_1 : decode cX6_pointOf 1 = .ok (.aload_n 0, 1) := by decide +kernel
theorem dX6_pointOf_2 : decode cX6_pointOf 2 = .ok (.getfield 24, 3) := by decide +kernel
theorem dX6_pointOf_5 : decode cX6_pointOf 5 = .ok (.iload_n 1, 1) := by decide +kernel
theorem dX6_pointOf_6 : decode cX6_pointOf 6 = .ok (.iconst 0, 1) := by decide +kernel
theorem dX6_pointOf_7 : decode cX6_pointOf 7 = .ok (.invokevirtual 105, 3) := by decide +kernel
theorem dX6_pointOf_10 : decode cX6_pointOf 10 = .ok (.invokevirtual 86, 3) := by decide +kernel
theorem dX6_pointOf_13 : decode cX6_pointOf 13 = .ok (.istore_n 2, 1) := by decide +kernel
theorem dX6_pointOf_14 : decode cX6_pointOf 14 = .ok (.iload_n 2, 1) := by decide +kernel
theorem dX6_pointOf_15 : decode cX6_pointOf 15 = .ok (.ldc 45, 2) := by decide +kernel
theorem dX6_pointOf_17 : decode cX6_pointOf 17 = .ok (.if_icmp .ne 8, 3) := by decide +kernel
theorem dX6_pointOf_20 : decode cX6_pointOf 20 = .ok (.ldc 45, 2) := by decide +kernel
theorem dX6_pointOf_22 : decode cX6_pointOf 22 = .ok (.goto 14, 3) := by decide +kernel
theorem dX6_pointOf_25 : decode cX6_pointOf 25 = .ok (.aload_n 0, 1) := by decide +kernel
theorem dX6_pointOf_26 : decode cX6_pointOf 26 = .ok (.getfield 24, 3) := by decide +kernel
theorem dX6_pointOf_29 : decode cX6_pointOf 29 = .ok (.iload_n 1, 1) := by decide +kernel
theorem dX6_pointOf_30 : decode cX6_pointOf 30 = .ok (.iconst 1, 1) := by decide +kernel
theorem dX6_pointOf_31 : decode cX6_pointOf 31 = .ok (.invokevirtual 105, 3) := by decide +kernel
theorem dX6_pointOf_34 : decode cX6_pointOf 34 = .ok (.iload_n 2, 1) := by decide +kernel
theorem dX6_pointOf_35 : decode cX6_pointOf 35 = .ok (.isub, 1) := by decide +kernel
theorem dX6_pointOf_36 : decode cX6_pointOf 36 = .ok (.ireturn, 1) := by decide +kernel
theorem dX6_finalAt_0 : decode cX6_finalAt 0 = .ok (.iload_n 1, 1) := by decide +kernel
theorem dX6_finalAt_1 : decode cX6_finalAt 1 = .ok (.ifCond .lt 12, 3) := by decide +kernel
theorem dX6_finalAt_4 : decode cX6_finalAt 4 = .ok (.iload_n 1, 1) := by decide +kernel
theorem dX6_finalAt_5 : decode cX6_finalAt 5 = .ok (.aload_n 0, 1) := by decide +kernel
theorem dX6_finalAt_6 : decode cX6_finalAt 6 = .ok (.getfield 39, 3) := by decide +kernel
theorem dX6_finalAt_9 : decode cX6_finalAt 9 = .ok (.arraylength, 1) := by decide +kernel
theorem dX6_finalAt_10 : decode cX6_finalAt 10 = .ok (.if_icmp .lt 6, 3) := by decide +kernel
theorem dX6_finalAt_13 : decode cX6_finalAt 13 = .ok (.ldc 45, 2) := by decide +kernel
theorem dX6_finalAt_15 : decode cX6_finalAt 15 = .ok (.ireturn, 1) := by decide +kernel
theorem dX6_finalAt_16 : decode cX6_finalAt 16 = .ok (.aload_n 0, 1) := by decide +kernel
theorem dX6_finalAt_17 : decode cX6_finalAt 17 = .ok (.getfield 39, 3) := by decide +kernel
theorem dX6_finalAt_20 : decode cX6_finalAt 20 = .ok (.iload_n 1, 1) := by decide +kernel
theorem dX6_finalAt_21 : decode cX6_finalAt 21 = .ok (.iaload, 1) := by decide +kernel
theorem dX6_finalAt_22 : decode cX6_finalAt 22 = .ok (.ireturn, 1) := by decide +kernel
set_option maxRecDepth 20000 in
theorem ggX6_jumpTime_X6_rowOf : GoodIn wsX6_jumpTime wsX6_rowOf := goodIn_r _ [5, 6, 7, 23, 24, 25, 26, 27, 28, 29, 30] (by decide +kernel) (by decide +kernel)
set_option maxRecDepth 20000 in
theorem gX6_jumpTime_X6_rowOf : GoodIn wsX6_jumpTime (wsV RX6 115 RX6 yX6_rowOf wsX6_rowOf) := goodIn_app (goodIn_of _ (by decide +kernel)) ggX6_jumpTime_X6_rowOf
set_option maxRecDepth 20000 in
theorem ggX6_jumpTime_X2_step : GoodIn wsX6_jumpTime wsX2_step := goodIn_r _ [12, 13, 14, 15, 16, 17, 18, 19, 20, 11, 21, 22, 31, 32] (by decide +kernel) (by decide +kernel)
set_option maxRecDepth 20000 in
theorem gX6_jumpTime_X2_step : GoodIn wsX6_jumpTime (wsV RX6 119 RX2 yX2_step wsX2_step) := goodIn_app (goodIn_of _ (by decide +kernel)) ggX6_jumpTime_X2_step
theorem dX6_jumpTime_0 : decode cX6_jumpTime 0 = .ok (.aload_n 0, 1) := by decide +kernel
theorem dX6_jumpTime_1 : decode cX6_jumpTime 1 = .ok (.iload_n 1, 1) := by decide +kernel
theorem dX6_jumpTime_2 : decode cX6_jumpTime 2 = .ok (.invokevirtual 115, 3) := by decide +kernel
theorem dX6_jumpTime_5 : decode cX6_jumpTime 5 = .ok (.astore 4, 2) := by decide +kernel
theorem dX6_jumpTime_7 : decode cX6_jumpTime 7 = .ok (.aload_n 0, 1) := by decide +kernel
theorem dX6_jumpTime_8 : decode cX6_jumpTime 8 = .ok (.iconst 1, 1) := by decide +kernel
theorem dX6_jumpTime_9 : decode cX6_jumpTime 9 = .ok (.iload_n 1, 1) := by decide +kernel
theorem dX6_jumpTime_10 : decode cX6_jumpTime 10 = .ok (.isub, 1) := by decide +kernel
theorem dX6_jumpTime_11 : decode cX6_jumpTime 11 = .ok (.invokevirtual 115, 3) := by decide +kernel
theorem dX6_jumpTime_14 : decode cX6_jumpTime 14 = .ok (.astore 5, 2) := by decide +kernel
theorem dX6_jumpTime_16 : decode cX6_jumpTime 16 = .ok (.iconst 0, 1) := by decide +kernel
theorem dX6_jumpTime_17 : decode cX6_jumpTime 17 = .ok (.istore 6, 2) := by decide +kernel
theorem dX6_jumpTime_19 : decode cX6_jumpTime 19 = .ok (.iconst 1, 1) := by decide +kernel
theorem dX6_jumpTime_20 : decode cX6_jumpTime 20 = .ok (.istore 7, 2) := by decide +kernel
theorem dX6_jumpTime_22 : decode cX6_jumpTime 22 = .ok (.iload 7, 2) := by decide +kernel
theorem dX6_jumpTime_24 : decode cX6_jumpTime 24 = .ok (.sipush 300, 3) := by decide +kernel
theorem dX6_jumpTime_27 : decode cX6_jumpTime 27 = .ok (.if_icmp .ge 53, 3) := by decide +kernel
theorem dX6_jumpTime_30 : decode cX6_jumpTime 30 = .ok (.aload 5, 2) := by decide +kernel
theorem dX6_jumpTime_32 : decode cX6_jumpTime 32 = .ok (.iload 7, 2) := by decide +kernel
theorem dX6_jumpTime_34 : decode cX6_jumpTime 34 = .ok (.invokevirtual 119, 3) := by decide +kernel
theorem dX6_jumpTime_37 : decode cX6_jumpTime 37 = .ok (.istore 8, 2) := by decide +kernel
theorem dX6_jumpTime_39 : decode cX6_jumpTime 39 = .ok (.aload 4, 2) := by decide +kernel
theorem dX6_jumpTime_41 : decode cX6_jumpTime 41 = .ok (.iload 7, 2) := by decide +kernel
theorem dX6_jumpTime_43 : decode cX6_jumpTime 43 = .ok (.invokevirtual 119, 3) := by decide +kernel
theorem dX6_jumpTime_46 : decode cX6_jumpTime 46 = .ok (.iload_n 3, 1) := by decide +kernel
theorem dX6_jumpTime_47 : decode cX6_jumpTime 47 = .ok (.if_icmp .le 27, 3) := by decide +kernel
theorem dX6_jumpTime_50 : decode cX6_jumpTime 50 = .ok (.iload 8, 2) := by decide +kernel
theorem dX6_jumpTime_52 : decode cX6_jumpTime 52 = .ok (.iconst (-1), 1) := by decide +kernel
theorem dX6_jumpTime_53 : decode cX6_jumpTime 53 = .ok (.if_icmp .eq 21, 3) := by decide +kernel
theorem dX6_jumpTime_56 : decode cX6_jumpTime 56 = .ok (.iload 8, 2) := by decide +kernel
theorem dX6_jumpTime_58 : decode cX6_jumpTime 58 = .ok (.iload_n 3, 1) := by decide +kernel
theorem dX6_jumpTime_59 : decode cX6_jumpTime 59 = .ok (.if_icmp .gt 15, 3) := by decide +kernel
theorem dX6_jumpTime_62 : decode cX6_jumpTime 62 = .ok (.iload 6, 2) := by decide +kernel
theorem dX6_jumpTime_64 : decode cX6_jumpTime 64 = .ok (.iload_n 2, 1) := by decide +kernel
theorem dX6_jumpTime_65 : decode cX6_jumpTime 65 = .ok (.if_icmp .ne 6, 3) := by decide +kernel
theorem dX6_jumpTime_68 : decode cX6_jumpTime 68 = .ok (.iload 7, 2) := by decide +kernel
theorem dX6_jumpTime_70 : decode cX6_jumpTime 70 = .ok (.ireturn, 1) := by decide +kernel
theorem dX6_jumpTime_71 : decode cX6_jumpTime 71 = .ok (.iinc 6 1, 3) := by decide +kernel
theorem dX6_jumpTime_74 : decode cX6_jumpTime 74 = .ok (.iinc 7 1, 3) := by decide +kernel
theorem dX6_jumpTime_77 : decode cX6_jumpTime 77 = .ok (.goto (-55), 3) := by decide +kernel
theorem dX6_jumpTime_80 : decode cX6_jumpTime 80 = .ok (.iconst (-1), 1) := by decide +kernel
theorem dX6_jumpTime_81 : decode cX6_jumpTime 81 = .ok (.ireturn, 1) := by decide +kernel
set_option maxRecDepth 20000 in
theorem ggX6_rangeIn_X6_finalAt : GoodIn wsX6_rangeIn wsX6_finalAt := goodIn_r _ [13, 14, 1, 30, 31, 32, 33, 34, 35, 36, 37] (by decide +kernel) (by decide +kernel)
set_option maxRecDepth 20000 in
theorem gX6_rangeIn_X6_finalAt : GoodIn wsX6_rangeIn (wsV RX6 127 RX6 yX6_finalAt wsX6_finalAt) := goodIn_app (goodIn_of _ (by decide +kernel)) ggX6_rangeIn_X6_finalAt
set_option maxRecDepth 20000 in
theorem ggX6_rangeIn_X7_goBy : GoodIn wsX6_rangeIn wsX7_goBy := goodIn_r _ [19, 20, 38, 39] (by decide +kernel) (by decide +kernel)
set_option maxRecDepth 20000 in
theorem gX6_rangeIn_X7_goBy : GoodIn wsX6_rangeIn (wsV RX6 130 RX7 yX7_goBy wsX7_goBy) := goodIn_app (goodIn_of _ (by decide +kernel)) ggX6_rangeIn_X7_goBy
theorem dX6_rangeIn_0 : decode cX6_rangeIn 0 = .ok (.iload_n 1, 1) := by decide +kernel
theorem dX6_rangeIn_1 : decode cX6_rangeIn 1 = .ok (.aload_n 2, 1) := by decide +kernel
theorem dX6_rangeIn_2 : decode cX6_rangeIn 2 = .ok (.getfield 122, 3) := by decide +kernel
theorem dX6_rangeIn_5 : decode cX6_rangeIn 5 = .ok (.imul, 1) := by decide +kernel
theorem dX6_rangeIn_6 : decode cX6_rangeIn 6 = .ok (.istore 4, 2) := by decide +kernel
theorem dX6_rangeIn_8 : decode cX6_rangeIn 8 = .ok (.iconst 0, 1) := by decide +kernel
theorem dX6_rangeIn_9 : decode cX6_rangeIn 9 = .ok (.istore 5, 2) := by decide +kernel
theorem dX6_rangeIn_11 : decode cX6_rangeIn 11 = .ok (.iconst 0, 1) := by decide +kernel
theorem dX6_rangeIn_12 : decode cX6_rangeIn 12 = .ok (.istore 6, 2) := by decide +kernel
theorem dX6_rangeIn_14 : decode cX6_rangeIn 14 = .ok (.iconst 0, 1) := by decide +kernel
theorem dX6_rangeIn_15 : decode cX6_rangeIn 15 = .ok (.istore 7, 2) := by decide +kernel
theorem dX6_rangeIn_17 : decode cX6_rangeIn 17 = .ok (.iload 4, 2) := by decide +kernel
theorem dX6_rangeIn_19 : decode cX6_rangeIn 19 = .ok (.istore 8, 2) := by decide +kernel
theorem dX6_rangeIn_21 : decode cX6_rangeIn 21 = .ok (.iload 8, 2) := by decide +kernel
theorem dX6_rangeIn_23 : decode cX6_rangeIn 23 = .ok (.iload 4, 2) := by decide +kernel
theorem dX6_rangeIn_25 : decode cX6_rangeIn 25 = .ok (.aload_n 2, 1) := by decide +kernel
theorem dX6_rangeIn_26 : decode cX6_rangeIn 26 = .ok (.getfield 122, 3) := by decide +kernel
theorem dX6_rangeIn_29 : decode cX6_rangeIn 29 = .ok (.iadd, 1) := by decide +kernel
theorem dX6_rangeIn_30 : decode cX6_rangeIn 30 = .ok (.if_icmp .ge 77, 3) := by decide +kernel
theorem dX6_rangeIn_33 : decode cX6_rangeIn 33 = .ok (.aload_n 0, 1) := by decide +kernel
theorem dX6_rangeIn_34 : decode cX6_rangeIn 34 = .ok (.iload 8, 2) := by decide +kernel
theorem dX6_rangeIn_36 : decode cX6_rangeIn 36 = .ok (.invokevirtual 127, 3) := by decide +kernel
theorem dX6_rangeIn_39 : decode cX6_rangeIn 39 = .ok (.istore 9, 2) := by decide +kernel
theorem dX6_rangeIn_41 : decode cX6_rangeIn 41 = .ok (.iload 9, 2) := by decide +kernel
theorem dX6_rangeIn_43 : decode cX6_rangeIn 43 = .ok (.ldc 45, 2) := by decide +kernel
theorem dX6_rangeIn_45 : decode cX6_rangeIn 45 = .ok (.if_icmp .eq 56, 3) := by decide +kernel
theorem dX6_rangeIn_48 : decode cX6_rangeIn 48 = .ok (.aload_n 3, 1) := by decide +kernel
theorem dX6_rangeIn_49 : decode cX6_rangeIn 49 = .ok (.iload 8, 2) := by decide +kernel
theorem dX6_rangeIn_51 : decode cX6_rangeIn 51 = .ok (.invokevirtual 130, 3) := by decide +kernel
theorem dX6_rangeIn_54 : decode cX6_rangeIn 54 = .ok (.ifCond .eq 6, 3) := by decide +kernel
theorem dX6_rangeIn_57 : decode cX6_rangeIn 57 = .ok (.goto 44, 3) := by decide +kernel
theorem dX6_rangeIn_60 : decode cX6_rangeIn 60 = .ok (.iload 5, 2) := by decide +kernel
theorem dX6_rangeIn_62 : decode cX6_rangeIn 62 = .ok (.ifCond .ne 8, 3) := by decide +kernel
theorem dX6_rangeIn_65 : decode cX6_rangeIn 65 = .ok (.iload 9, 2) := by decide +kernel
theorem dX6_rangeIn_67 : decode cX6_rangeIn 67 = .ok (.goto 10, 3) := by decide +kernel
theorem dX6_rangeIn_70 : decode cX6_rangeIn 70 = .ok (.iload 6, 2) := by decide +kernel
theorem dX6_rangeIn_72 : decode cX6_rangeIn 72 = .ok (.iload 9, 2) := by decide +kernel
theorem dX6_rangeIn_74 : decode cX6_rangeIn 74 = .ok (.invokestatic 69, 3) := by decide +kernel
theorem dX6_rangeIn_77 : decode cX6_rangeIn 77 = .ok (.istore 6, 2) := by decide +kernel
theorem dX6_rangeIn_79 : decode cX6_rangeIn 79 = .ok (.iload 5, 2) := by decide +kernel
theorem dX6_rangeIn_81 : decode cX6_rangeIn 81 = .ok (.ifCond .ne 8, 3) := by decide +kernel
theorem dX6_rangeIn_84 : decode cX6_rangeIn 84 = .ok (.iload 9, 2) := by decide +kernel
theorem dX6_rangeIn_86 : decode cX6_rangeIn 86 = .ok (.goto 10, 3) := by decide +kernel
theorem dX6_rangeIn_89 : decode cX6_rangeIn 89 = .ok (.iload 7, 2) := by decide +kernel
theorem dX6_rangeIn_91 : decode cX6_rangeIn 91 = .ok (.iload 9, 2) := by decide +kernel
theorem dX6_rangeIn_93 : decode cX6_rangeIn 93 = .ok (.invokestatic 60, 3) := by decide +kernel
theorem dX6_rangeIn_96 : decode cX6_rangeIn 96 = .ok (.istore 7, 2) := by decide +kernel
theorem dX6_rangeIn_98 : decode cX6_rangeIn 98 = .ok (.iinc 5 1, 3) := by decide +kernel
theorem dX6_rangeIn_101 : decode cX6_rangeIn 101 = .ok (.iinc 8 1, 3) := by decide +kernel
theorem dX6_rangeIn_104 : decode cX6_rangeIn 104 = .ok (.goto (-83), 3) := by decide +kernel
theorem dX6_rangeIn_107 : decode cX6_rangeIn 107 = .ok (.iload 5, 2) := by decide +kernel
theorem dX6_rangeIn_109 : decode cX6_rangeIn 109 = .ok (.ifCond .eq 22, 3) := by decide +kernel
theorem dX6_rangeIn_112 : decode cX6_rangeIn 112 = .ok (.iload 5, 2) := by decide +kernel
theorem dX6_rangeIn_114 : decode cX6_rangeIn 114 = .ok (.aload_n 2, 1) := by decide +kernel
theorem dX6_rangeIn_115 : decode cX6_rangeIn 115 = .ok (.getfield 136, 3) := by decide +kernel
theorem dX6_rangeIn_118 : decode cX6_rangeIn 118 = .ok (.imul, 1) := by decide +kernel
theorem dX6_rangeIn_119 : decode cX6_rangeIn 119 = .ok (.aload_n 2, 1) := by decide +kernel
theorem dX6_rangeIn_120 : decode cX6_rangeIn 120 = .ok (.getfield 122, 3) := by decide +kernel
theorem dX6_rangeIn_123 : decode cX6_rangeIn 123 = .ok (.aload_n 2, 1) := by decide +kernel
theorem dX6_rangeIn_124 : decode cX6_rangeIn 124 = .ok (.getfield 139, 3) := by decide +kernel
theorem dX6_rangeIn_127 : decode cX6_rangeIn 127 = .ok (.imul, 1) := by decide +kernel
theorem dX6_rangeIn_128 : decode cX6_rangeIn 128 = .ok (.if_icmp .ge 5, 3) := by decide +kernel
theorem dX6_rangeIn_131 : decode cX6_rangeIn 131 = .ok (.iconst (-1), 1) := by decide +kernel
theorem dX6_rangeIn_132 : decode cX6_rangeIn 132 = .ok (.ireturn, 1) := by decide +kernel
theorem dX6_rangeIn_133 : decode cX6_rangeIn 133 = .ok (.iload 7, 2) := by decide +kernel
theorem dX6_rangeIn_135 : decode cX6_rangeIn 135 = .ok (.iload 6, 2) := by decide +kernel
theorem dX6_rangeIn_137 : decode cX6_rangeIn 137 = .ok (.isub, 1) := by decide +kernel
theorem dX6_rangeIn_138 : decode cX6_rangeIn 138 = .ok (.ireturn, 1) := by decide +kernel
set_option maxRecDepth 20000 in
theorem ggX6_keepFinals_X6_finalAt : GoodIn wsX6_keepFinals wsX6_finalAt := goodIn_r _ [7, 8, 2, 9, 10, 11, 12, 13, 14, 15, 16] (by decide +kernel) (by decide +kernel)
set_option maxRecDepth 20000 in
theorem gX6_keepFinals_X6_finalAt : GoodIn wsX6_keepFinals (wsV RX6 127 RX6 yX6_finalAt wsX6_finalAt) := goodIn_app (goodIn_of _ (by decide +kernel)) ggX6_keepFinals_X6_finalAt
theorem dX6_keepFinals_0 : decode cX6_keepFinals 0 = .ok (.iconst 0, 1) := by decide +kernel
theorem dX6_keepFinals_1 : decode cX6_keepFinals 1 = .ok (.istore_n 1, 1) := by decide +kernel
theorem dX6_keepFinals_2 : decode cX6_keepFinals 2 = .ok (.iconst 0, 1) := by decide +kernel
theorem dX6_keepFinals_3 : decode cX6_keepFinals 3 = .ok (.istore_n 2, 1) := by decide +kernel
theorem dX6_keepFinals_4 : decode cX6_keepFinals 4 = .ok (.iload_n 2, 1) := by decide +kernel
theorem dX6_keepFinals_5 : decode cX6_keepFinals 5 = .ok (.aload_n 0, 1) := by decide +kernel
theorem dX6_keepFinals_6 : decode cX6_keepFinals 6 = .ok (.getfield 42, 3) := by decide +kernel
theorem dX6_keepFinals_9 : decode cX6_keepFinals 9 = .ok (.arraylength, 1) := by decide +kernel
theorem dX6_keepFinals_10 : decode cX6_keepFinals 10 = .ok (.if_icmp .ge 34, 3) := by decide +kernel
theorem dX6_keepFinals_13 : decode cX6_keepFinals 13 = .ok (.aload_n 0, 1) := by decide +kernel
theorem dX6_keepFinals_14 : decode cX6_keepFinals 14 = .ok (.getfield 42, 3) := by decide +kernel
theorem dX6_keepFinals_17 : decode cX6_keepFinals 17 = .ok (.iload_n 2, 1) := by decide +kernel
theorem dX6_keepFinals_18 : decode cX6_keepFinals 18 = .ok (.aload_n 0, 1) := by decide +kernel
theorem dX6_keepFinals_19 : decode cX6_keepFinals 19 = .ok (.iload_n 2, 1) := by decide +kernel
theorem dX6_keepFinals_20 : decode cX6_keepFinals 20 = .ok (.invokevirtual 127, 3) := by decide +kernel
theorem dX6_keepFinals_23 : decode cX6_keepFinals 23 = .ok (.iastore, 1) := by decide +kernel
theorem dX6_keepFinals_24 : decode cX6_keepFinals 24 = .ok (.aload_n 0, 1) := by decide +kernel
theorem dX6_keepFinals_25 : decode cX6_keepFinals 25 = .ok (.getfield 42, 3) := by decide +kernel
theorem dX6_keepFinals_28 : decode cX6_keepFinals 28 = .ok (.iload_n 2, 1) := by decide +kernel
theorem dX6_keepFinals_29 : decode cX6_keepFinals 29 = .ok (.iaload, 1) := by decide +kernel
theorem dX6_keepFinals_30 : decode cX6_keepFinals 30 = .ok (.ldc 45, 2) := by decide +kernel
theorem dX6_keepFinals_32 : decode cX6_keepFinals 32 = .ok (.if_icmp .eq 6, 3) := by decide +kernel
theorem dX6_keepFinals_35 : decode cX6_keepFinals 35 = .ok (.iinc 1 1, 3) := by decide +kernel
theorem dX6_keepFinals_38 : decode cX6_keepFinals 38 = .ok (.iinc 2 1, 3) := by decide +kernel
theorem dX6_keepFinals_41 : decode cX6_keepFinals 41 = .ok (.goto (-37), 3) := by decide +kernel
theorem dX6_keepFinals_44 : decode cX6_keepFinals 44 = .ok (.iload_n 1, 1) := by decide +kernel
theorem dX6_keepFinals_45 : decode cX6_keepFinals 45 = .ok (.ireturn, 1) := by decide +kernel
theorem dX6_keptAt_0 : decode cX6_keptAt 0 = .ok (.iload_n 1, 1) := by decide +kernel
theorem dX6_keptAt_1 : decode cX6_keptAt 1 = .ok (.ifCond .lt 12, 3) := by decide +kernel
theorem dX6_keptAt_4 : decode cX6_keptAt 4 = .ok (.iload_n 1, 1) := by decide +kernel
theorem dX6_keptAt_5 : decode cX6_keptAt 5 = .ok (.aload_n 0, 1) := by decide +kernel
theorem dX6_keptAt_6 : decode cX6_keptAt 6 = .ok (.getfield 42, 3) := by decide +kernel
theorem dX6_keptAt_9 : decode cX6_keptAt 9 = .ok (.arraylength, 1) := by decide +kernel
theorem dX6_keptAt_10 : decode cX6_keptAt 10 = .ok (.if_icmp .lt 6, 3) := by decide +kernel
theorem dX6_keptAt_13 : decode cX6_keptAt 13 = .ok (.ldc 45, 2) := by decide +kernel
theorem dX6_keptAt_15 : decode cX6_keptAt 15 = .ok (.ireturn, 1) := by decide +kernel
theorem dX6_keptAt_16 : decode cX6_keptAt 16 = .ok (.aload_n 0, 1) := by decide +kernel
theorem dX6_keptAt_17 : decode cX6_keptAt 17 = .ok (.getfield 42, 3) := by decide +kernel
theorem dX6_keptAt_20 : decode cX6_keptAt 20 = .ok (.iload_n 1, 1) := by decide +kernel
theorem dX6_keptAt_21 : decode cX6_keptAt 21 = .ok (.iaload, 1) := by decide +kernel
theorem dX6_keptAt_22 : decode cX6_keptAt 22 = .ok (.ireturn, 1) := by decide +kernel
set_option maxRecDepth 20000 in
theorem ggX6_changeTime_X6_finalAt : GoodIn wsX6_changeTime wsX6_finalAt := goodIn_r _ [5, 6, 7, 13, 14, 15, 16, 17, 18, 19, 20] (by decide +kernel) (by decide +kernel)
set_option maxRecDepth 20000 in
theorem gX6_changeTime_X6_finalAt : GoodIn wsX6_changeTime (wsV RX6 127 RX6 yX6_finalAt wsX6_finalAt) := goodIn_app (goodIn_of _ (by decide +kernel)) ggX6_changeTime_X6_finalAt
set_option maxRecDepth 20000 in
theorem ggX6_changeTime_X6_keptAt : GoodIn wsX6_changeTime wsX6_keptAt := goodIn_r _ [11, 12, 7, 13, 14, 15, 16, 17, 18, 19, 20] (by decide +kernel) (by decide +kernel)
set_option maxRecDepth 20000 in
theorem gX6_changeTime_X6_keptAt : GoodIn wsX6_changeTime (wsV RX6 142 RX6 yX6_keptAt wsX6_keptAt) := goodIn_app (goodIn_of _ (by decide +kernel)) ggX6_changeTime_X6_keptAt
theorem dX6_changeTime_0 : decode cX6_changeTime 0 = .ok (.iconst 0, 1) := by decide +kernel
theorem dX6_changeTime_1 : decode cX6_changeTime 1 = .ok (.istore_n 2, 1) := by decide +kernel
theorem dX6_changeTime_2 : decode cX6_changeTime 2 = .ok (.iconst 0, 1) := by decide +kernel
theorem dX6_changeTime_3 : decode cX6_changeTime 3 = .ok (.istore_n 3, 1) := by decide +kernel
theorem dX6_changeTime_4 : decode cX6_changeTime 4 = .ok (.iload_n 3, 1) := by decide +kernel
theorem dX6_changeTime_5 : decode cX6_changeTime 5 = .ok (.sipush 300, 3) := by decide +kernel
theorem dX6_changeTime_8 : decode cX6_changeTime 8 = .ok (.if_icmp .ge 32, 3) := by decide +kernel
theorem dX6_changeTime_11 : decode cX6_changeTime 11 = .ok (.aload_n 0, 1) := by decide +kernel
theorem dX6_changeTime_12 : decode cX6_changeTime 12 = .ok (.iload_n 3, 1) := by decide +kernel
theorem dX6_changeTime_13 : decode cX6_changeTime 13 = .ok (.invokevirtual 127, 3) := by decide +kernel
theorem dX6_changeTime_16 : decode cX6_changeTime 16 = .ok (.aload_n 0, 1) := by decide +kernel
theorem dX6_changeTime_17 : decode cX6_changeTime 17 = .ok (.iload_n 3, 1) := by decide +kernel
theorem dX6_changeTime_18 : decode cX6_changeTime 18 = .ok (.invokevirtual 142, 3) := by decide +kernel
theorem dX6_changeTime_21 : decode cX6_changeTime 21 = .ok (.if_icmp .eq 13, 3) := by decide +kernel
theorem dX6_changeTime_24 : decode cX6_changeTime 24 = .ok (.iload_n 2, 1) := by decide +kernel
theorem dX6_changeTime_25 : decode cX6_changeTime 25 = .ok (.iload_n 1, 1) := by decide +kernel
theorem dX6_changeTime_26 : decode cX6_changeTime 26 = .ok (.if_icmp .ne 5, 3) := by decide +kernel
theorem dX6_changeTime_29 : decode cX6_changeTime 29 = .ok (.iload_n 3, 1) := by decide +kernel
theorem dX6_changeTime_30 : decode cX6_changeTime 30 = .ok (.ireturn, 1) := by decide +kernel
theorem dX6_changeTime_31 : decode cX6_changeTime 31 = .ok (.iinc 2 1, 3) := by decide +kernel
theorem dX6_changeTime_34 : decode cX6_changeTime 34 = .ok (.iinc 3 1, 3) := by decide +kernel
theorem dX6_changeTime_37 : decode cX6_changeTime 37 = .ok (.goto (-33), 3) := by decide +kernel
theorem dX6_changeTime_40 : decode cX6_changeTime 40 = .ok (.iconst (-1), 1) := by decide +kernel
theorem dX6_changeTime_41 : decode cX6_changeTime 41 = .ok (.ireturn, 1) := by decide +kernel
theorem dX7_init_0 : decode cX7_init 0 = .ok (.aload_n 0, 1) := by decide +kernel
theorem dX7_init_1 : decode cX7_init 1 = .ok (.invokespecial 3, 3) := by decide +kernel
theorem dX7_init_4 : decode cX7_init 4 = .ok (.aload_n 0, 1) := by decide +kernel
theorem dX7_init_5 : decode cX7_init 5 = .ok (.sipush 300, 3) := by decide +kernel
theorem dX7_init_8 : decode cX7_init 8 = .ok (.newarray .boolean, 2) := by decide +kernel
theorem dX7_init_10 : decode cX7_init 10 = .ok (.putfield 9, 3) := by decide +kernel
theorem dX7_init_13 : decode cX7_init 13 = .ok (.aload_n 0, 1) := by decide +kernel
theorem dX7_init_14 : decode cX7_init 14 = .ok (.iconst 0, 1) := by decide +kernel
theorem dX7_init_15 : decode cX7_init 15 = .ok (.putfield 15, 3) := by decide +kernel
theorem dX7_init_18 : decode cX7_init 18 = .ok (.return_, 1) := by decide +kernel
theorem dX7_size_0 : decode cX7_size 0 = .ok (.aload_n 0, 1) := by decide +kernel
theorem dX7_size_1 : decode cX7_size 1 = .ok (.getfield 15, 3) := by decide +kernel
theorem dX7_size_4 : decode cX7_size 4 = .ok (.ireturn, 1) := by decide +kernel
theorem dX7_add_0 : decode cX7_add 0 = .ok (.aload_n 0, 1) := by decide +kernel
theorem dX7_add_1 : decode cX7_add 1 = .ok (.getfield 15, 3) := by decide +kernel
theorem dX7_add_4 : decode cX7_add 4 = .ok (.bipush 10, 2) := by decide +kernel
theorem dX7_add_6 : decode cX7_add 6 = .ok (.if_icmp .lt 5, 3) := by decide +kernel
theorem dX7_add_9 : decode cX7_add 9 = .ok (.iconst (-1), 1) := by decide +kernel
theorem dX7_add_10 : decode cX7_add 10 = .ok (.ireturn, 1) := by decide +kernel
theorem dX7_add_11 : decode cX7_add 11 = .ok (.iload_n 1, 1) := by decide +kernel
theorem dX7_add_12 : decode cX7_add 12 = .ok (.iconst 0, 1) := by decide +kernel
theorem dX7_add_13 : decode cX7_add 13 = .ok (.invokestatic 19, 3) := by decide +kernel
theorem dX7_add_16 : decode cX7_add 16 = .ok (.istore_n 3, 1) := by decide +kernel
theorem dX7_add_17 : decode cX7_add 17 = .ok (.iload_n 3, 1) := by decide +kernel
theorem dX7_add_18 : decode cX7_add 18 = .ok (.aload_n 0, 1) := by decide +kernel
theorem dX7_add_19 : decode cX7_add 19 = .ok (.getfield 9, 3) := by decide +kernel
theorem dX7_add_22 : decode cX7_add 22 = .ok (.arraylength, 1) := by decide +kernel
theorem dX7_add_23 : decode cX7_add 23 = .ok (.if_icmp .ge 23, 3) := by decide +kernel
theorem dX7_add_26 : decode cX7_add 26 = .ok (.iload_n 3, 1) := by decide +kernel
theorem dX7_add_27 : decode cX7_add 27 = .ok (.iload_n 1, 1) := by decide +kernel
theorem dX7_add_28 : decode cX7_add 28 = .ok (.isub, 1) := by decide +kernel
theorem dX7_add_29 : decode cX7_add 29 = .ok (.iload_n 2, 1) := by decide +kernel
theorem dX7_add_30 : decode cX7_add 30 = .ok (.if_icmp .ge 16, 3) := by decide +kernel
theorem dX7_add_33 : decode cX7_add 33 = .ok (.aload_n 0, 1) := by decide +kernel
theorem dX7_add_34 : decode cX7_add 34 = .ok (.getfield 9, 3) := by decide +kernel
theorem dX7_add_37 : decode cX7_add 37 = .ok (.iload_n 3, 1) := by decide +kernel
theorem dX7_add_38 : decode cX7_add 38 = .ok (.iconst 1, 1) := by decide +kernel
theorem dX7_add_39 : decode cX7_add 39 = .ok (.bastore, 1) := by decide +kernel
theorem dX7_add_40 : decode cX7_add 40 = .ok (.iinc 3 1, 3) := by decide +kernel
theorem dX7_add_43 : decode cX7_add 43 = .ok (.goto (-26), 3) := by decide +kernel
theorem dX7_add_46 : decode cX7_add 46 = .ok (.aload_n 0, 1) := by decide +kernel
theorem dX7_add_47 : decode cX7_add 47 = .ok (.dup, 1) := by decide +kernel
theorem dX7_add_48 : decode cX7_add 48 = .ok (.getfield 15, 3) := by decide +kernel
theorem dX7_add_51 : decode cX7_add 51 = .ok (.iconst 1, 1) := by decide +kernel
theorem dX7_add_52 : decode cX7_add 52 = .ok (.iadd, 1) := by decide +kernel
theorem dX7_add_53 : decode cX7_add 53 = .ok (.putfield 15, 3) := by decide +kernel
theorem dX7_add_56 : decode cX7_add 56 = .ok (.aload_n 0, 1) := by decide +kernel
theorem dX7_add_57 : decode cX7_add 57 = .ok (.getfield 15, 3) := by decide +kernel
theorem dX7_add_60 : decode cX7_add 60 = .ok (.iconst 1, 1) := by decide +kernel
theorem dX7_add_61 : decode cX7_add 61 = .ok (.isub, 1) := by decide +kernel
theorem dX7_add_62 : decode cX7_add 62 = .ok (.ireturn, 1) := by decide +kernel
theorem dX7_goBy_0 : decode cX7_goBy 0 = .ok (.iload_n 1, 1) := by decide +kernel
theorem dX7_goBy_1 : decode cX7_goBy 1 = .ok (.ifCond .lt 25, 3) := by decide +kernel
theorem dX7_goBy_4 : decode cX7_goBy 4 = .ok (.iload_n 1, 1) := by decide +kernel
theorem dX7_goBy_5 : decode cX7_goBy 5 = .ok (.aload_n 0, 1) := by decide +kernel
theorem dX7_goBy_6 : decode cX7_goBy 6 = .ok (.getfield 9, 3) := by decide +kernel
theorem dX7_goBy_9 : decode cX7_goBy 9 = .ok (.arraylength, 1) := by decide +kernel
theorem dX7_goBy_10 : decode cX7_goBy 10 = .ok (.if_icmp .ge 16, 3) := by decide +kernel
theorem dX7_goBy_13 : decode cX7_goBy 13 = .ok (.aload_n 0, 1) := by decide +kernel
theorem dX7_goBy_14 : decode cX7_goBy 14 = .ok (.getfield 9, 3) := by decide +kernel
theorem dX7_goBy_17 : decode cX7_goBy 17 = .ok (.iload_n 1, 1) := by decide +kernel
theorem dX7_goBy_18 : decode cX7_goBy 18 = .ok (.baload, 1) := by decide +kernel
theorem dX7_goBy_19 : decode cX7_goBy 19 = .ok (.ifCond .eq 7, 3) := by decide +kernel
theorem dX7_goBy_22 : decode cX7_goBy 22 = .ok (.iconst 1, 1) := by decide +kernel
theorem dX7_goBy_23 : decode cX7_goBy 23 = .ok (.goto 4, 3) := by decide +kernel
theorem dX7_goBy_26 : decode cX7_goBy 26 = .ok (.iconst 0, 1) := by decide +kernel
theorem dX7_goBy_27 : decode cX7_goBy 27 = .ok (.ireturn, 1) := by decide +kernel
theorem dX8_init_0 : decode cX8_init 0 = .ok (.aload_n 0, 1) := by decide +kernel
theorem dX8_init_1 : decode cX8_init 1 = .ok (.invokespecial 3, 3) := by decide +kernel
theorem dX8_init_4 : decode cX8_init 4 = .ok (.aload_n 0, 1) := by decide +kernel
theorem dX8_init_5 : decode cX8_init 5 = .ok (.sipush 150, 3) := by decide +kernel
theorem dX8_init_8 : decode cX8_init 8 = .ok (.newarray .int, 2) := by decide +kernel
theorem dX8_init_10 : decode cX8_init 10 = .ok (.putfield 9, 3) := by decide +kernel
theorem dX8_init_13 : decode cX8_init 13 = .ok (.aload_n 0, 1) := by decide +kernel
theorem dX8_init_14 : decode cX8_init 14 = .ok (.iconst 0, 1) := by decide +kernel
theorem dX8_init_15 : decode cX8_init 15 = .ok (.putfield 15, 3) := by decide +kernel
theorem dX8_init_18 : decode cX8_init 18 = .ok (.return_, 1) := by decide +kernel
set_option maxRecDepth 20000 in
theorem ggX8_clear_J7_fill_53178 : GoodIn wsX8_clear wsJ7_fill_53178 := goodIn_r _ [13] (by decide +kernel) (by decide +kernel)
set_option maxRecDepth 20000 in
theorem gX8_clear_J7_fill_53178 : GoodIn wsX8_clear (va_wsS RX8 28 yJ7_fill_53178 wsJ7_fill_53178) := goodIn_app (goodIn_of _ (by decide +kernel)) ggX8_clear_J7_fill_53178
theorem dX8_clear_0 : decode cX8_clear 0 = .ok (.aload_n 0, 1) := by decide +kernel
theorem dX8_clear_1 : decode cX8_clear 1 = .ok (.iconst 0, 1) := by decide +kernel
theorem dX8_clear_2 : decode cX8_clear 2 = .ok (.iload_n 1, 1) := by decide +kernel
theorem dX8_clear_3 : decode cX8_clear 3 = .ok (.sipush 150, 3) := by decide +kernel
theorem dX8_clear_6 : decode cX8_clear 6 = .ok (.invokestatic 19, 3) := by decide +kernel
theorem dX8_clear_9 : decode cX8_clear 9 = .ok (.invokestatic 25, 3) := by decide +kernel
theorem dX8_clear_12 : decode cX8_clear 12 = .ok (.putfield 15, 3) := by decide +kernel
theorem dX8_clear_15 : decode cX8_clear 15 = .ok (.aload_n 0, 1) := by decide +kernel
theorem dX8_clear_16 : decode cX8_clear 16 = .ok (.getfield 9, 3) := by decide +kernel
theorem dX8_clear_19 : decode cX8_clear 19 = .ok (.iconst (-1), 1) := by decide +kernel
theorem dX8_clear_20 : decode cX8_clear 20 = .ok (.invokestatic 28, 3) := by decide +kernel
theorem dX8_clear_23 : decode cX8_clear 23 = .ok (.return_, 1) := by decide +kernel
set_option maxRecDepth 20000 in
theorem ggX8_takeRanges_X6_rangeIn : GoodIn wsX8_takeRanges wsX6_rangeIn := goodIn_r _ [11, 12, 13, 14, 5, 15, 16, 4, 6, 17, 18, 19, 10, 20, 21, 22, 23, 24, 25, 26, 27, 30, 31, 32, 33, 34, 35, 36, 37, 38, 39, 40, 41, 42, 43, 44, 45, 46, 47, 48] (by decide +kernel) (by decide +kernel)
set_option maxRecDepth 20000 in
theorem gX8_takeRanges_X6_rangeIn : GoodIn wsX8_takeRanges (wsV RX8 34 RX6 yX6_rangeIn wsX6_rangeIn) := goodIn_app (goodIn_of _ (by decide +kernel)) ggX8_takeRanges_X6_rangeIn
theorem dX8_takeRanges_0 : decode cX8_takeRanges 0 = .ok (.iconst 0, 1) := by decide +kernel
theorem dX8_takeRanges_1 : decode cX8_takeRanges 1 = .ok (.istore 4, 2) := by decide +kernel
theorem dX8_takeRanges_3 : decode cX8_takeRanges 3 = .ok (.iload 4, 2) := by decide +kernel
theorem dX8_takeRanges_5 : decode cX8_takeRanges 5 = .ok (.aload_n 0, 1) := by decide +kernel
theorem dX8_takeRanges_6 : decode cX8_takeRanges 6 = .ok (.getfield 15, 3) := by decide +kernel
theorem dX8_takeRanges_9 : decode cX8_takeRanges 9 = .ok (.if_icmp .ge 34, 3) := by decide +kernel
theorem dX8_takeRanges_12 : decode cX8_takeRanges 12 = .ok (.aload_n 0, 1) := by decide +kernel
theorem dX8_takeRanges_13 : decode cX8_takeRanges 13 = .ok (.getfield 9, 3) := by decide +kernel
theorem dX8_takeRanges_16 : decode cX8_takeRanges 16 = .ok (.iload 4, 2) := by decide +kernel
theorem dX8_takeRanges_18 : decode cX8_takeRanges 18 = .ok (.aload_n 0, 1) := by decide +kernel
theorem dX8_takeRanges_19 : decode cX8_takeRanges 19 = .ok (.getfield 9, 3) := by decide +kernel
theorem dX8_takeRanges_22 : decode cX8_takeRanges 22 = .ok (.iload 4, 2) := by decide +kernel
theorem dX8_takeRanges_24 : decode cX8_takeRanges 24 = .ok (.iaload, 1) := by decide +kernel
theorem dX8_takeRanges_25 : decode cX8_takeRanges 25 = .ok (.aload_n 1, 1) := by decide +kernel
theorem dX8_takeRanges_26 : decode cX8_takeRanges 26 = .ok (.iload 4, 2) := by decide +kernel
theorem dX8_takeRanges_28 : decode cX8_takeRanges 28 = .ok (.aload_n 2, 1) := by decide +kernel
theorem dX8_takeRanges_29 : decode cX8_takeRanges 29 = .ok (.aload_n 3, 1) := by decide +kernel
theorem dX8_takeRanges_30 : decode cX8_takeRanges 30 = .ok (.invokevirtual 34, 3) := by decide +kernel
theorem dX8_takeRanges_33 : decode cX8_takeRanges 33 = .ok (.invokestatic 25, 3) := by decide +kernel
theorem dX8_takeRanges_36 : decode cX8_takeRanges 36 = .ok (.iastore, 1) := by decide +kernel
theorem dX8_takeRanges_37 : decode cX8_takeRanges 37 = .ok (.iinc 4 1, 3) := by decide +kernel
theorem dX8_takeRanges_40 : decode cX8_takeRanges 40 = .ok (.goto (-37), 3) := by decide +kernel
theorem dX8_takeRanges_43 : decode cX8_takeRanges 43 = .ok (.return_, 1) := by decide +kernel
set_option maxRecDepth 20000 in
theorem ggX8_turnRangesToIndices_X3_stepsUpTo : GoodIn wsX8_turnRangesToIndices wsX3_stepsUpTo := goodIn_r _ [7, 8, 9, 12, 13, 14, 15, 16, 17, 18, 19, 20] (by decide +kernel) (by decide +kernel)
set_option maxRecDepth 20000 in
theorem gX8_turnRangesToIndices_X3_stepsUpTo : GoodIn wsX8_turnRangesToIndices (wsV RX8 40 RX3 yX3_stepsUpTo wsX3_stepsUpTo) := goodIn_app (goodIn_of _ (by decide +kernel)) ggX8_turnRangesToIndices_X3_stepsUpTo
theorem dX8_turnRangesToIndices_0 : decode cX8_turnRangesToIndices 0 = .ok (.iconst 0, 1) := by decide +kernel
theorem dX8_turnRangesToIndices_1 : decode cX8_turnRangesToIndices 1 = .ok (.istore_n 2, 1) := by decide +kernel
theorem dX8_turnRangesToIndices_2 : decode cX8_turnRangesToIndices 2 = .ok (.iload_n 2, 1) := by decide +kernel
theorem dX8_turnRangesToIndices_3 : decode cX8_turnRangesToIndices 3 = .ok (.aload_n 0, 1) := by decide +kernel
theorem dX8_turnRangesToIndices_4 : decode cX8_turnRangesToIndices 4 = .ok (.getfield 15, 3) := by decide +kernel
theorem dX8_turnRangesToIndices_7 : decode cX8_turnRangesToIndices 7 = .ok (.if_icmp .ge 35, 3) := by decide +kernel
theorem dX8_turnRangesToIndices_10 : decode cX8_turnRangesToIndices 10 = .ok (.aload_n 0, 1) := by decide +kernel
theorem dX8_turnRangesToIndices_11 : decode cX8_turnRangesToIndices 11 = .ok (.getfield 9, 3) := by decide +kernel
theorem dX8_turnRangesToIndices_14 : decode cX8_turnRangesToIndices 14 = .ok (.iload_n 2, 1) := by decide +kernel
theorem dX8_turnRangesToIndices_15 : decode cX8_turnRangesToIndices 15 = .ok (.iaload, 1) := by decide +kernel
theorem dX8_turnRangesToIndices_16 : decode cX8_turnRangesToIndices 16 = .ok (.iconst (-1), 1) := by decide +kernel
theorem dX8_turnRangesToIndices_17 : decode cX8_turnRangesToIndices 17 = .ok (.if_icmp .eq 19, 3) := by decide +kernel
theorem dX8_turnRangesToIndices_20 : decode cX8_turnRangesToIndices 20 = .ok (.aload_n 0, 1) := by decide +kernel
theorem dX8_turnRangesToIndices_21 : decode cX8_turnRangesToIndices 21 = .ok (.getfield 9, 3) := by decide +kernel
theorem dX8_turnRangesToIndices_24 : decode cX8_turnRangesToIndices 24 = .ok (.iload_n 2, 1) := by decide +kernel
theorem dX8_turnRangesToIndices_25 : decode cX8_turnRangesToIndices 25 = .ok (.aload_n 1, 1) := by decide +kernel
theorem dX8_turnRangesToIndices_26 : decode cX8_turnRangesToIndices 26 = .ok (.aload_n 0, 1) := by decide +kernel
theorem dX8_turnRangesToIndices_27 : decode cX8_turnRangesToIndices 27 = .ok (.getfield 9, 3) := by decide +kernel
theorem dX8_turnRangesToIndices_30 : decode cX8_turnRangesToIndices 30 = .ok (.iload_n 2, 1) := by decide +kernel
theorem dX8_turnRangesToIndices_31 : decode cX8_turnRangesToIndices 31 = .ok (.iaload, 1) := by decide +kernel
theorem dX8_turnRangesToIndices_32 : decode cX8_turnRangesToIndices 32 = .ok (.invokevirtual 40, 3) := by decide +kernel
theorem dX8_turnRangesToIndices_35 : decode cX8_turnRangesToIndices 35 = .ok (.iastore, 1) := by decide +kernel
theorem dX8_turnRangesToIndices_36 : decode cX8_turnRangesToIndices 36 = .ok (.iinc 2 1, 3) := by decide +kernel
theorem dX8_turnRangesToIndices_39 : decode cX8_turnRangesToIndices 39 = .ok (.goto (-37), 3) := by decide +kernel
theorem dX8_turnRangesToIndices_42 : decode cX8_turnRangesToIndices 42 = .ok (.return_, 1) := by decide +kernel
theorem dX8_indexOf_0 : decode cX8_indexOf 0 = .ok (.iload_n 1, 1) := by decide +kernel
theorem dX8_indexOf_1 : decode cX8_indexOf 1 = .ok (.ifCond .lt 11, 3) := by decide +kernel
theorem dX8_indexOf_4 : decode cX8_indexOf 4 = .ok (.iload_n 1, 1) := by decide +kernel
theorem dX8_indexOf_5 : decode cX8_indexOf 5 = .ok (.aload_n 0, 1) := by decide +kernel
theorem dX8_indexOf_6 : decode cX8_indexOf 6 = .ok (.getfield 15, 3) := by decide +kernel
theorem dX8_indexOf_9 : decode cX8_indexOf 9 = .ok (.if_icmp .lt 5, 3) := by decide +kernel
theorem dX8_indexOf_12 : decode cX8_indexOf 12 = .ok (.iconst (-1), 1) := by decide +kernel
theorem dX8_indexOf_13 : decode cX8_indexOf 13 = .ok (.ireturn, 1) := by decide +kernel
theorem dX8_indexOf_14 : decode cX8_indexOf 14 = .ok (.aload_n 0, 1) := by decide +kernel
theorem dX8_indexOf_15 : decode cX8_indexOf 15 = .ok (.getfield 9, 3) := by decide +kernel
theorem dX8_indexOf_18 : decode cX8_indexOf 18 = .ok (.iload_n 1, 1) := by decide +kernel
theorem dX8_indexOf_19 : decode cX8_indexOf 19 = .ok (.iaload, 1) := by decide +kernel
theorem dX8_indexOf_20 : decode cX8_indexOf 20 = .ok (.ireturn, 1) := by decide +kernel
set_option maxRecDepth 20000 in
theorem ggX8_stormLength_X8_indexOf : GoodIn wsX8_stormLength wsX8_indexOf := goodIn_r _ [6, 1, 7, 8, 9] (by decide +kernel) (by decide +kernel)
set_option maxRecDepth 20000 in
theorem gX8_stormLength_X8_indexOf : GoodIn wsX8_stormLength (wsV RX8 46 RX8 yX8_indexOf wsX8_indexOf) := goodIn_app (goodIn_of _ (by decide +kernel)) ggX8_stormLength_X8_indexOf
theorem dX8_stormLength_0 : decode cX8_stormLength 0 = .ok (.iconst 0, 1) := by decide +kernel
theorem dX8_stormLength_1 : decode cX8_stormLength 1 = .ok (.istore_n 3, 1) := by decide +kernel
theorem dX8_stormLength_2 : decode cX8_stormLength 2 = .ok (.iload_n 3, 1) := by decide +kernel
theorem dX8_stormLength_3 : decode cX8_stormLength 3 = .ok (.aload_n 0, 1) := by decide +kernel
theorem dX8_stormLength_4 : decode cX8_stormLength 4 = .ok (.getfield 15, 3) := by decide +kernel
theorem dX8_stormLength_7 : decode cX8_stormLength 7 = .ok (.if_icmp .ge 20, 3) := by decide +kernel
theorem dX8_stormLength_10 : decode cX8_stormLength 10 = .ok (.aload_n 0, 1) := by decide +kernel
theorem dX8_stormLength_11 : decode cX8_stormLength 11 = .ok (.iload_n 1, 1) := by decide +kernel
theorem dX8_stormLength_12 : decode cX8_stormLength 12 = .ok (.iload_n 3, 1) := by decide +kernel
theorem dX8_stormLength_13 : decode cX8_stormLength 13 = .ok (.iadd, 1) := by decide +kernel
theorem dX8_stormLength_14 : decode cX8_stormLength 14 = .ok (.invokevirtual 46, 3) := by decide +kernel
theorem dX8_stormLength_17 : decode cX8_stormLength 17 = .ok (.iload_n 2, 1) := by decide +kernel
theorem dX8_stormLength_18 : decode cX8_stormLength 18 = .ok (.if_icmp .lt 9, 3) := by decide +kernel
theorem dX8_stormLength_21 : decode cX8_stormLength 21 = .ok (.iinc 3 1, 3) := by decide +kernel
theorem dX8_stormLength_24 : decode cX8_stormLength 24 = .ok (.goto (-22), 3) := by decide +kernel
theorem dX8_stormLength_27 : decode cX8_stormLength 27 = .ok (.iload_n 3, 1) := by decide +kernel
theorem dX8_stormLength_28 : decode cX8_stormLength 28 = .ok (.ireturn, 1) := by decide +kernel
set_option maxRecDepth 20000 in
theorem ggX8_stormStart_X8_stormLength : GoodIn wsX8_stormStart wsX8_stormLength := goodIn_r _ [6, 1, 7, 8, 9, 5, 10, 11, 12, 13] (by decide +kernel) (by decide +kernel)
set_option maxRecDepth 20000 in
theorem gX8_stormStart_X8_stormLength : GoodIn wsX8_stormStart (wsV RX8 49 RX8 yX8_stormLength wsX8_stormLength) := goodIn_app (goodIn_of _ (by decide +kernel)) ggX8_stormStart_X8_stormLength
theorem dX8_stormStart_0 : decode cX8_stormStart 0 = .ok (.iconst 0, 1) := by decide +kernel
theorem dX8_stormStart_1 : decode cX8_stormStart 1 = .ok (.istore_n 3, 1) := by decide +kernel
theorem dX8_stormStart_2 : decode cX8_stormStart 2 = .ok (.iconst 0, 1) := by decide +kernel
theorem dX8_stormStart_3 : decode cX8_stormStart 3 = .ok (.istore 4, 2) := by decide +kernel
theorem dX8_stormStart_5 : decode cX8_stormStart 5 = .ok (.iload 4, 2) := by decide +kernel
theorem dX8_stormStart_7 : decode cX8_stormStart 7 = .ok (.aload_n 0, 1) := by decide +kernel
theorem dX8_stormStart_8 : decode cX8_stormStart 8 = .ok (.getfield 15, 3) := by decide +kernel
theorem dX8_stormStart_11 : decode cX8_stormStart 11 = .ok (.if_icmp .ge 41, 3) := by decide +kernel
theorem dX8_stormStart_14 : decode cX8_stormStart 14 = .ok (.aload_n 0, 1) := by decide +kernel
theorem dX8_stormStart_15 : decode cX8_stormStart 15 = .ok (.iload 4, 2) := by decide +kernel
theorem dX8_stormStart_17 : decode cX8_stormStart 17 = .ok (.iload_n 2, 1) := by decide +kernel
theorem dX8_stormStart_18 : decode cX8_stormStart 18 = .ok (.invokevirtual 49, 3) := by decide +kernel
theorem dX8_stormStart_21 : decode cX8_stormStart 21 = .ok (.istore 5, 2) := by decide +kernel
theorem dX8_stormStart_23 : decode cX8_stormStart 23 = .ok (.iload 5, 2) := by decide +kernel
theorem dX8_stormStart_25 : decode cX8_stormStart 25 = .ok (.iconst 2, 1) := by decide +kernel
theorem dX8_stormStart_26 : decode cX8_stormStart 26 = .ok (.if_icmp .lt 14, 3) := by decide +kernel
theorem dX8_stormStart_29 : decode cX8_stormStart 29 = .ok (.iload_n 3, 1) := by decide +kernel
theorem dX8_stormStart_30 : decode cX8_stormStart 30 = .ok (.iload_n 1, 1) := by decide +kernel
theorem dX8_stormStart_31 : decode cX8_stormStart 31 = .ok (.if_icmp .ne 6, 3) := by decide +kernel
theorem dX8_stormStart_34 : decode cX8_stormStart 34 = .ok (.iload 4, 2) := by decide +kernel
theorem dX8_stormStart_36 : decode cX8_stormStart 36 = .ok (.ireturn, 1) := by decide +kernel
theorem dX8_stormStart_37 : decode cX8_stormStart 37 = .ok (.iinc 3 1, 3) := by decide +kernel
theorem dX8_stormStart_40 : decode cX8_stormStart 40 = .ok (.iload 4, 2) := by decide +kernel
theorem dX8_stormStart_42 : decode cX8_stormStart 42 = .ok (.iload 5, 2) := by decide +kernel
theorem dX8_stormStart_44 : decode cX8_stormStart 44 = .ok (.iconst 1, 1) := by decide +kernel
theorem dX8_stormStart_45 : decode cX8_stormStart 45 = .ok (.iadd, 1) := by decide +kernel
theorem dX8_stormStart_46 : decode cX8_stormStart 46 = .ok (.iadd, 1) := by decide +kernel
theorem dX8_stormStart_47 : decode cX8_stormStart 47 = .ok (.istore 4, 2) := by decide +kernel
theorem dX8_stormStart_49 : decode cX8_stormStart 49 = .ok (.goto (-44), 3) := by decide +kernel
theorem dX8_stormStart_52 : decode cX8_stormStart 52 = .ok (.iconst (-1), 1) := by decide +kernel
theorem dX8_stormStart_53 : decode cX8_stormStart 53 = .ok (.ireturn, 1) := by decide +kernel
theorem dX8_quietWindow_0 : decode cX8_quietWindow 0 = .ok (.iconst 0, 1) := by decide +kernel
theorem dX8_quietWindow_1 : decode cX8_quietWindow 1 = .ok (.istore_n 2, 1) := by decide +kernel
theorem dX8_quietWindow_2 : decode cX8_quietWindow 2 = .ok (.iconst 0, 1) := by decide +kernel
theorem dX8_quietWindow_3 : decode cX8_quietWindow 3 = .ok (.istore_n 3, 1) := by decide +kernel
theorem dX8_quietWindow_4 : decode cX8_quietWindow 4 = .ok (.iload_n 3, 1) := by decide +kernel
theorem dX8_quietWindow_5 : decode cX8_quietWindow 5 = .ok (.bipush 9, 2) := by decide +kernel
theorem dX8_quietWindow_7 : decode cX8_quietWindow 7 = .ok (.if_icmp .gt 49, 3) := by decide +kernel
theorem dX8_quietWindow_10 : decode cX8_quietWindow 10 = .ok (.iconst 0, 1) := by decide +kernel
theorem dX8_quietWindow_11 : decode cX8_quietWindow 11 = .ok (.istore 4, 2) := by decide +kernel
theorem dX8_quietWindow_13 : decode cX8_quietWindow 13 = .ok (.iload 4, 2) := by decide +kernel
theorem dX8_quietWindow_15 : decode cX8_quietWindow 15 = .ok (.aload_n 0, 1) := by decide +kernel
theorem dX8_quietWindow_16 : decode cX8_quietWindow 16 = .ok (.getfield 15, 3) := by decide +kernel
theorem dX8_quietWindow_19 : decode cX8_quietWindow 19 = .ok (.if_icmp .ge 31, 3) := by decide +kernel
theorem dX8_quietWindow_22 : decode cX8_quietWindow 22 = .ok (.aload_n 0, 1) := by decide +kernel
theorem dX8_quietWindow_23 : decode cX8_quietWindow 23 = .ok (.getfield 9, 3) := by decide +kernel
theorem dX8_quietWindow_26 : decode cX8_quietWindow 26 = .ok (.iload 4, 2) := by decide +kernel
theorem dX8_quietWindow_28 : decode cX8_quietWindow 28 = .ok (.iaload, 1) := by decide +kernel
theorem dX8_quietWindow_29 : decode cX8_quietWindow 29 = .ok (.iload_n 3, 1) := by decide +kernel
theorem dX8_quietWindow_30 : decode cX8_quietWindow 30 = .ok (.if_icmp .ne 14, 3) := by decide +kernel
theorem dX8_quietWindow_33 : decode cX8_quietWindow 33 = .ok (.iload_n 2, 1) := by decide +kernel
theorem dX8_quietWindow_34 : decode cX8_quietWindow 34 = .ok (.iload_n 1, 1) := by decide +kernel
theorem dX8_quietWindow_35 : decode cX8_quietWindow 35 = .ok (.if_icmp .ne 6, 3) := by decide +kernel
theorem dX8_quietWindow_38 : decode cX8_quietWindow 38 = .ok (.iload 4, 2) := by decide +kernel
theorem dX8_quietWindow_40 : decode cX8_quietWindow 40 = .ok (.ireturn, 1) := by decide +kernel
theorem dX8_quietWindow_41 : decode cX8_quietWindow 41 = .ok (.iinc 2 1, 3) := by decide +kernel
theorem dX8_quietWindow_44 : decode cX8_quietWindow 44 = .ok (.iinc 4 1, 3) := by decide +kernel
theorem dX8_quietWindow_47 : decode cX8_quietWindow 47 = .ok (.goto (-34), 3) := by decide +kernel
theorem dX8_quietWindow_50 : decode cX8_quietWindow 50 = .ok (.iinc 3 1, 3) := by decide +kernel
theorem dX8_quietWindow_53 : decode cX8_quietWindow 53 = .ok (.goto (-49), 3) := by decide +kernel
theorem dX8_quietWindow_56 : decode cX8_quietWindow 56 = .ok (.iconst (-1), 1) := by decide +kernel
theorem dX8_quietWindow_57 : decode cX8_quietWindow 57 = .ok (.ireturn, 1) := by decide +kernel
