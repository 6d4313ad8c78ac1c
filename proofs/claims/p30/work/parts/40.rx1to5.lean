theorem dX1_init_0 : decode cX1_init 0 = .ok (.aload_n 0, 1) := by decide +kernel
theorem dX1_init_1 : decode cX1_init 1 = .ok (.invokespecial 3, 3) := by decide +kernel
theorem dX1_init_4 : decode cX1_init 4 = .ok (.aload_n 0, 1) := by decide +kernel
theorem dX1_init_5 : decode cX1_init 5 = .ok (.sipush 150, 3) := by decide +kernel
theorem dX1_init_8 : decode cX1_init 8 = .ok (.newarray .char, 2) := by decide +kernel
theorem dX1_init_10 : decode cX1_init 10 = .ok (.putfield 9, 3) := by decide +kernel
theorem dX1_init_13 : decode cX1_init 13 = .ok (.aload_n 0, 1) := by decide +kernel
theorem dX1_init_14 : decode cX1_init 14 = .ok (.iconst 5, 1) := by decide +kernel
theorem dX1_init_15 : decode cX1_init 15 = .ok (.newarray .int, 2) := by decide +kernel
theorem dX1_init_17 : decode cX1_init 17 = .ok (.putfield 15, 3) := by decide +kernel
theorem dX1_init_20 : decode cX1_init 20 = .ok (.aload_n 0, 1) := by decide +kernel
theorem dX1_init_21 : decode cX1_init 21 = .ok (.getstatic 19, 3) := by decide +kernel
theorem dX1_init_24 : decode cX1_init 24 = .ok (.putfield 25, 3) := by decide +kernel
theorem dX1_init_27 : decode cX1_init 27 = .ok (.aload_n 0, 1) := by decide +kernel
theorem dX1_init_28 : decode cX1_init 28 = .ok (.iconst (-1), 1) := by decide +kernel
theorem dX1_init_29 : decode cX1_init 29 = .ok (.putfield 28, 3) := by decide +kernel
theorem dX1_init_32 : decode cX1_init 32 = .ok (.return_, 1) := by decide +kernel
set_option maxRecDepth 20000 in
theorem ggX2_init_X5_init : GoodIn wsX2_init wsX5_init := goodIn_r _ [10, 11, 2, 3, 12, 13, 14, 15, 16, 17, 18, 19, 20, 21, 22, 23, 24, 25, 26, 27, 28, 29, 30, 31, 35, 36, 37, 38, 39, 40, 41, 42, 43, 44, 45, 46, 47, 48, 49, 50, 51, 52, 53, 54, 55, 56, 57, 58, 59, 60, 61, 62, 63] (by decide +kernel) (by decide +kernel)
set_option maxRecDepth 20000 in
theorem gX2_init_X5_init : GoodIn wsX2_init (wsX5_init) := ggX2_init_X5_init
theorem dX2_init_0 : decode cX2_init 0 = .ok (.aload_n 0, 1) := by decide +kernel
theorem dX2_init_1 : decode cX2_init 1 = .ok (.invokespecial 3, 3) := by decide +kernel
theorem dX2_init_4 : decode cX2_init 4 = .ok (.aload_n 0, 1) := by decide +kernel
theorem dX2_init_5 : decode cX2_init 5 = .ok (.iconst 4, 1) := by decide +kernel
theorem dX2_init_6 : decode cX2_init 6 = .ok (.anewarray 9, 3) := by decide +kernel
theorem dX2_init_9 : decode cX2_init 9 = .ok (.putfield 11, 3) := by decide +kernel
theorem dX2_init_12 : decode cX2_init 12 = .ok (.iconst 0, 1) := by decide +kernel
theorem dX2_init_13 : decode cX2_init 13 = .ok (.istore_n 1, 1) := by decide +kernel
theorem dX2_init_14 : decode cX2_init 14 = .ok (.iload_n 1, 1) := by decide +kernel
theorem dX2_init_15 : decode cX2_init 15 = .ok (.iconst 4, 1) := by decide +kernel
theorem dX2_init_16 : decode cX2_init 16 = .ok (.if_icmp .ge 22, 3) := by decide +kernel
theorem dX2_init_19 : decode cX2_init 19 = .ok (.aload_n 0, 1) := by decide +kernel
theorem dX2_init_20 : decode cX2_init 20 = .ok (.getfield 11, 3) := by decide +kernel
theorem dX2_init_23 : decode cX2_init 23 = .ok (.iload_n 1, 1) := by decide +kernel
theorem dX2_init_24 : decode cX2_init 24 = .ok (.new 9, 3) := by decide +kernel
theorem dX2_init_27 : decode cX2_init 27 = .ok (.dup, 1) := by decide +kernel
theorem dX2_init_28 : decode cX2_init 28 = .ok (.invokespecial 17, 3) := by decide +kernel
theorem dX2_init_31 : decode cX2_init 31 = .ok (.aastore, 1) := by decide +kernel
theorem dX2_init_32 : decode cX2_init 32 = .ok (.iinc 1 1, 3) := by decide +kernel
theorem dX2_init_35 : decode cX2_init 35 = .ok (.goto (-21), 3) := by decide +kernel
theorem dX2_init_38 : decode cX2_init 38 = .ok (.return_, 1) := by decide +kernel
set_option maxRecDepth 20000 in
theorem ggX2_save_X5_copyFrom : GoodIn wsX2_save wsX5_copyFrom := goodIn_r _ [12, 13, 14, 15, 16, 17, 18, 19, 20, 21, 22, 23, 24, 25, 26, 27, 28, 29, 30, 31, 32, 33, 34, 35, 36, 37, 38, 39, 40, 41, 42, 43, 44, 45, 46, 47, 48, 49, 50, 51, 52, 53, 54, 55, 59, 60, 61, 62, 63, 64, 65, 66, 67, 68, 69, 70, 71, 72, 73, 74, 75, 76, 77, 78, 79, 80, 81, 82, 83, 84, 85, 86, 87] (by decide +kernel) (by decide +kernel)
set_option maxRecDepth 20000 in
theorem gX2_save_X5_copyFrom : GoodIn wsX2_save (wsV RX2 22 RX5 yX5_copyFrom wsX5_copyFrom) := goodIn_app (goodIn_of _ (by decide +kernel)) ggX2_save_X5_copyFrom
theorem dX2_save_0 : decode cX2_save 0 = .ok (.aload_n 0, 1) := by decide +kernel
theorem dX2_save_1 : decode cX2_save 1 = .ok (.getfield 11, 3) := by decide +kernel
theorem dX2_save_4 : decode cX2_save 4 = .ok (.aload_n 0, 1) := by decide +kernel
theorem dX2_save_5 : decode cX2_save 5 = .ok (.getfield 18, 3) := by decide +kernel
theorem dX2_save_8 : decode cX2_save 8 = .ok (.aaload, 1) := by decide +kernel
theorem dX2_save_9 : decode cX2_save 9 = .ok (.aload_n 1, 1) := by decide +kernel
theorem dX2_save_10 : decode cX2_save 10 = .ok (.invokevirtual 22, 3) := by decide +kernel
theorem dX2_save_13 : decode cX2_save 13 = .ok (.aload_n 0, 1) := by decide +kernel
theorem dX2_save_14 : decode cX2_save 14 = .ok (.aload_n 0, 1) := by decide +kernel
theorem dX2_save_15 : decode cX2_save 15 = .ok (.getfield 18, 3) := by decide +kernel
theorem dX2_save_18 : decode cX2_save 18 = .ok (.iconst 1, 1) := by decide +kernel
theorem dX2_save_19 : decode cX2_save 19 = .ok (.iadd, 1) := by decide +kernel
theorem dX2_save_20 : decode cX2_save 20 = .ok (.iconst 4, 1) := by decide +kernel
theorem dX2_save_21 : decode cX2_save 21 = .ok (.irem, 1) := by decide +kernel
theorem dX2_save_22 : decode cX2_save 22 = .ok (.putfield 18, 3) := by decide +kernel
theorem dX2_save_25 : decode cX2_save 25 = .ok (.aload_n 0, 1) := by decide +kernel
theorem dX2_save_26 : decode cX2_save 26 = .ok (.aload_n 0, 1) := by decide +kernel
theorem dX2_save_27 : decode cX2_save 27 = .ok (.getfield 26, 3) := by decide +kernel
theorem dX2_save_30 : decode cX2_save 30 = .ok (.iconst 1, 1) := by decide +kernel
theorem dX2_save_31 : decode cX2_save 31 = .ok (.iadd, 1) := by decide +kernel
theorem dX2_save_32 : decode cX2_save 32 = .ok (.iconst 4, 1) := by decide +kernel
theorem dX2_save_33 : decode cX2_save 33 = .ok (.invokestatic 29, 3) := by decide +kernel
theorem dX2_save_36 : decode cX2_save 36 = .ok (.putfield 26, 3) := by decide +kernel
theorem dX2_save_39 : decode cX2_save 39 = .ok (.return_, 1) := by decide +kernel
theorem dX3_init_0 : decode cX3_init 0 = .ok (.aload_n 0, 1) := by decide +kernel
theorem dX3_init_1 : decode cX3_init 1 = .ok (.invokespecial 3, 3) := by decide +kernel
theorem dX3_init_4 : decode cX3_init 4 = .ok (.aload_n 0, 1) := by decide +kernel
theorem dX3_init_5 : decode cX3_init 5 = .ok (.bipush 16, 2) := by decide +kernel
theorem dX3_init_7 : decode cX3_init 7 = .ok (.newarray .int, 2) := by decide +kernel
theorem dX3_init_9 : decode cX3_init 9 = .ok (.putfield 9, 3) := by decide +kernel
theorem dX3_init_12 : decode cX3_init 12 = .ok (.return_, 1) := by decide +kernel
theorem dX3_copyFrom_0 : decode cX3_copyFrom 0 = .ok (.aload_n 0, 1) := by decide +kernel
theorem dX3_copyFrom_1 : decode cX3_copyFrom 1 = .ok (.aload_n 1, 1) := by decide +kernel
theorem dX3_copyFrom_2 : decode cX3_copyFrom 2 = .ok (.getfield 15, 3) := by decide +kernel
theorem dX3_copyFrom_5 : decode cX3_copyFrom 5 = .ok (.putfield 15, 3) := by decide +kernel
theorem dX3_copyFrom_8 : decode cX3_copyFrom 8 = .ok (.aload_n 0, 1) := by decide +kernel
theorem dX3_copyFrom_9 : decode cX3_copyFrom 9 = .ok (.aload_n 1, 1) := by decide +kernel
theorem dX3_copyFrom_10 : decode cX3_copyFrom 10 = .ok (.getfield 19, 3) := by decide +kernel
theorem dX3_copyFrom_13 : decode cX3_copyFrom 13 = .ok (.putfield 19, 3) := by decide +kernel
theorem dX3_copyFrom_16 : decode cX3_copyFrom 16 = .ok (.aload_n 0, 1) := by decide +kernel
theorem dX3_copyFrom_17 : decode cX3_copyFrom 17 = .ok (.aload_n 1, 1) := by decide +kernel
theorem dX3_copyFrom_18 : decode cX3_copyFrom 18 = .ok (.getfield 22, 3) := by decide +kernel
theorem dX3_copyFrom_21 : decode cX3_copyFrom 21 = .ok (.putfield 22, 3) := by decide +kernel
theorem dX3_copyFrom_24 : decode cX3_copyFrom 24 = .ok (.aload_n 0, 1) := by decide +kernel
theorem dX3_copyFrom_25 : decode cX3_copyFrom 25 = .ok (.aload_n 1, 1) := by decide +kernel
theorem dX3_copyFrom_26 : decode cX3_copyFrom 26 = .ok (.getfield 25, 3) := by decide +kernel
theorem dX3_copyFrom_29 : decode cX3_copyFrom 29 = .ok (.putfield 25, 3) := by decide +kernel
theorem dX3_copyFrom_32 : decode cX3_copyFrom 32 = .ok (.aload_n 0, 1) := by decide +kernel
theorem dX3_copyFrom_33 : decode cX3_copyFrom 33 = .ok (.aload_n 1, 1) := by decide +kernel
theorem dX3_copyFrom_34 : decode cX3_copyFrom 34 = .ok (.getfield 28, 3) := by decide +kernel
theorem dX3_copyFrom_37 : decode cX3_copyFrom 37 = .ok (.putfield 28, 3) := by decide +kernel
theorem dX3_copyFrom_40 : decode cX3_copyFrom 40 = .ok (.aload_n 0, 1) := by decide +kernel
theorem dX3_copyFrom_41 : decode cX3_copyFrom 41 = .ok (.aload_n 1, 1) := by decide +kernel
theorem dX3_copyFrom_42 : decode cX3_copyFrom 42 = .ok (.getfield 31, 3) := by decide +kernel
theorem dX3_copyFrom_45 : decode cX3_copyFrom 45 = .ok (.putfield 31, 3) := by decide +kernel
theorem dX3_copyFrom_48 : decode cX3_copyFrom 48 = .ok (.aload_n 0, 1) := by decide +kernel
theorem dX3_copyFrom_49 : decode cX3_copyFrom 49 = .ok (.aload_n 1, 1) := by decide +kernel
theorem dX3_copyFrom_50 : decode cX3_copyFrom 50 = .ok (.getfield 35, 3) := by decide +kernel
theorem dX3_copyFrom_53 : decode cX3_copyFrom 53 = .ok (.putfield 35, 3) := by decide +kernel
theorem dX3_copyFrom_56 : decode cX3_copyFrom 56 = .ok (.aload_n 0, 1) := by decide +kernel
theorem dX3_copyFrom_57 : decode cX3_copyFrom 57 = .ok (.aload_n 1, 1) := by decide +kernel
theorem dX3_copyFrom_58 : decode cX3_copyFrom 58 = .ok (.getfield 38, 3) := by decide +kernel
theorem dX3_copyFrom_61 : decode cX3_copyFrom 61 = .ok (.putfield 38, 3) := by decide +kernel
theorem dX3_copyFrom_64 : decode cX3_copyFrom 64 = .ok (.aload_n 0, 1) := by decide +kernel
theorem dX3_copyFrom_65 : decode cX3_copyFrom 65 = .ok (.aload_n 1, 1) := by decide +kernel
theorem dX3_copyFrom_66 : decode cX3_copyFrom 66 = .ok (.getfield 41, 3) := by decide +kernel
theorem dX3_copyFrom_69 : decode cX3_copyFrom 69 = .ok (.putfield 41, 3) := by decide +kernel
theorem dX3_copyFrom_72 : decode cX3_copyFrom 72 = .ok (.aload_n 0, 1) := by decide +kernel
theorem dX3_copyFrom_73 : decode cX3_copyFrom 73 = .ok (.aload_n 1, 1) := by decide +kernel
theorem dX3_copyFrom_74 : decode cX3_copyFrom 74 = .ok (.getfield 44, 3) := by decide +kernel
theorem dX3_copyFrom_77 : decode cX3_copyFrom 77 = .ok (.putfield 44, 3) := by decide +kernel
theorem dX3_copyFrom_80 : decode cX3_copyFrom 80 = .ok (.aload_n 0, 1) := by decide +kernel
theorem dX3_copyFrom_81 : decode cX3_copyFrom 81 = .ok (.aload_n 1, 1) := by decide +kernel
theorem dX3_copyFrom_82 : decode cX3_copyFrom 82 = .ok (.getfield 47, 3) := by decide +kernel
theorem dX3_copyFrom_85 : decode cX3_copyFrom 85 = .ok (.putfield 47, 3) := by decide +kernel
theorem dX3_copyFrom_88 : decode cX3_copyFrom 88 = .ok (.aload_n 0, 1) := by decide +kernel
theorem dX3_copyFrom_89 : decode cX3_copyFrom 89 = .ok (.aload_n 1, 1) := by decide +kernel
theorem dX3_copyFrom_90 : decode cX3_copyFrom 90 = .ok (.getfield 50, 3) := by decide +kernel
theorem dX3_copyFrom_93 : decode cX3_copyFrom 93 = .ok (.putfield 50, 3) := by decide +kernel
theorem dX3_copyFrom_96 : decode cX3_copyFrom 96 = .ok (.aload_n 1, 1) := by decide +kernel
theorem dX3_copyFrom_97 : decode cX3_copyFrom 97 = .ok (.getfield 9, 3) := by decide +kernel
theorem dX3_copyFrom_100 : decode cX3_copyFrom 100 = .ok (.iconst 0, 1) := by decide +kernel
theorem dX3_copyFrom_101 : decode cX3_copyFrom 101 = .ok (.aload_n 0, 1) := by decide +kernel
theorem dX3_copyFrom_102 : decode cX3_copyFrom 102 = .ok (.getfield 9, 3) := by decide +kernel
theorem dX3_copyFrom_105 : decode cX3_copyFrom 105 = .ok (.iconst 0, 1) := by decide +kernel
theorem dX3_copyFrom_106 : decode cX3_copyFrom 106 = .ok (.bipush 16, 2) := by decide +kernel
theorem dX3_copyFrom_108 : decode cX3_copyFrom 108 = .ok (.invokestatic 53, 3) := by decide +kernel
theorem dX3_copyFrom_111 : decode cX3_copyFrom 111 = .ok (.return_, 1) := by decide +kernel
theorem dX3_holds_0 : decode cX3_holds 0 = .ok (.aload_n 0, 1) := by decide +kernel
theorem dX3_holds_1 : decode cX3_holds 1 = .ok (.getfield 38, 3) := by decide +kernel
theorem dX3_holds_4 : decode cX3_holds 4 = .ok (.iconst 1, 1) := by decide +kernel
theorem dX3_holds_5 : decode cX3_holds 5 = .ok (.if_icmp .eq 11, 3) := by decide +kernel
theorem dX3_holds_8 : decode cX3_holds 8 = .ok (.aload_n 0, 1) := by decide +kernel
theorem dX3_holds_9 : decode cX3_holds 9 = .ok (.getfield 38, 3) := by decide +kernel
theorem dX3_holds_12 : decode cX3_holds 12 = .ok (.iconst 2, 1) := by decide +kernel
theorem dX3_holds_13 : decode cX3_holds 13 = .ok (.if_icmp .ne 7, 3) := by decide +kernel
theorem dX3_holds_16 : decode cX3_holds 16 = .ok (.iconst 1, 1) := by decide +kernel
theorem dX3_holds_17 : decode cX3_holds 17 = .ok (.goto 4, 3) := by decide +kernel
theorem dX3_holds_20 : decode cX3_holds 20 = .ok (.iconst 0, 1) := by decide +kernel
theorem dX3_holds_21 : decode cX3_holds 21 = .ok (.ireturn, 1) := by decide +kernel
theorem dX3_part_0 : decode cX3_part 0 = .ok (.iload_n 1, 1) := by decide +kernel
theorem dX3_part_1 : decode cX3_part 1 = .ok (.tableswitch 96 0 8 #[51, 56, 61, 66, 71, 76, 81, 86, 91], 51) := by decide +kernel
theorem dX3_part_52 : decode cX3_part 52 = .ok (.aload_n 0, 1) := by decide +kernel
theorem dX3_part_53 : decode cX3_part 53 = .ok (.getfield 15, 3) := by decide +kernel
theorem dX3_part_56 : decode cX3_part 56 = .ok (.ireturn, 1) := by decide +kernel
theorem dX3_part_57 : decode cX3_part 57 = .ok (.aload_n 0, 1) := by decide +kernel
theorem dX3_part_58 : decode cX3_part 58 = .ok (.getfield 19, 3) := by decide +kernel
theorem dX3_part_61 : decode cX3_part 61 = .ok (.ireturn, 1) := by decide +kernel
theorem dX3_part_62 : decode cX3_part 62 = .ok (.aload_n 0, 1) := by decide +kernel
theorem dX3_part_63 : decode cX3_part 63 = .ok (.getfield 22, 3) := by decide +kernel
theorem dX3_part_66 : decode cX3_part 66 = .ok (.ireturn, 1) := by decide +kernel
theorem dX3_part_67 : decode cX3_part 67 = .ok (.aload_n 0, 1) := by decide +kernel
theorem dX3_part_68 : decode cX3_part 68 = .ok (.getfield 25, 3) := by decide +kernel
theorem dX3_part_71 : decode cX3_part 71 = .ok (.ireturn, 1) := by decide +kernel
theorem dX3_part_72 : decode cX3_part 72 = .ok (.aload_n 0, 1) := by decide +kernel
theorem dX3_part_73 : decode cX3_part 73 = .ok (.getfield 28, 3) := by decide +kernel
theorem dX3_part_76 : decode cX3_part 76 = .ok (.ireturn, 1) := by decide +kernel
theorem dX3_part_77 : decode cX3_part 77 = .ok (.aload_n 0, 1) := by decide +kernel
theorem dX3_part_78 : decode cX3_part 78 = .ok (.getfield 38, 3) := by decide +kernel
theorem dX3_part_81 : decode cX3_part 81 = .ok (.ireturn, 1) := by decide +kernel
theorem dX3_part_82 : decode cX3_part 82 = .ok (.aload_n 0, 1) := by decide +kernel
theorem dX3_part_83 : decode cX3_part 83 = .ok (.getfield 41, 3) := by decide +kernel
theorem dX3_part_86 : decode cX3_part 86 = .ok (.ireturn, 1) := by decide +kernel
theorem dX3_part_87 : decode cX3_part 87 = .ok (.aload_n 0, 1) := by decide +kernel
theorem dX3_part_88 : decode cX3_part 88 = .ok (.getfield 44, 3) := by decide +kernel
theorem dX3_part_91 : decode cX3_part 91 = .ok (.ireturn, 1) := by decide +kernel
theorem dX3_part_92 : decode cX3_part 92 = .ok (.aload_n 0, 1) := by decide +kernel
theorem dX3_part_93 : decode cX3_part 93 = .ok (.getfield 47, 3) := by decide +kernel
theorem dX3_part_96 : decode cX3_part 96 = .ok (.ireturn, 1) := by decide +kernel
theorem dX3_part_97 : decode cX3_part 97 = .ok (.aload_n 0, 1) := by decide +kernel
theorem dX3_part_98 : decode cX3_part 98 = .ok (.getfield 50, 3) := by decide +kernel
theorem dX3_part_101 : decode cX3_part 101 = .ok (.ireturn, 1) := by decide +kernel
theorem dX3_countHostages_0 : decode cX3_countHostages 0 = .ok (.aload_n 0, 1) := by decide +kernel
theorem dX3_countHostages_1 : decode cX3_countHostages 1 = .ok (.getfield 38, 3) := by decide +kernel
theorem dX3_countHostages_4 : decode cX3_countHostages 4 = .ok (.iconst 1, 1) := by decide +kernel
theorem dX3_countHostages_5 : decode cX3_countHostages 5 = .ok (.if_icmp .ne 15, 3) := by decide +kernel
theorem dX3_countHostages_8 : decode cX3_countHostages 8 = .ok (.aload_n 0, 1) := by decide +kernel
theorem dX3_countHostages_9 : decode cX3_countHostages 9 = .ok (.getfield 28, 3) := by decide +kernel
theorem dX3_countHostages_12 : decode cX3_countHostages 12 = .ok (.aload_n 0, 1) := by decide +kernel
theorem dX3_countHostages_13 : decode cX3_countHostages 13 = .ok (.getfield 41, 3) := by decide +kernel
theorem dX3_countHostages_16 : decode cX3_countHostages 16 = .ok (.isub, 1) := by decide +kernel
theorem dX3_countHostages_17 : decode cX3_countHostages 17 = .ok (.goto 4, 3) := by decide +kernel
theorem dX3_countHostages_20 : decode cX3_countHostages 20 = .ok (.iconst 0, 1) := by decide +kernel
theorem dX3_countHostages_21 : decode cX3_countHostages 21 = .ok (.ireturn, 1) := by decide +kernel
set_option maxRecDepth 20000 in
theorem ggX3_hostageAt_X3_countHostages : GoodIn wsX3_hostageAt wsX3_countHostages := goodIn_r _ [7, 8, 9, 2, 10, 11, 12, 13, 14, 15, 16, 17, 18, 19, 20, 21, 22] (by decide +kernel) (by decide +kernel)
set_option maxRecDepth 20000 in
theorem gX3_hostageAt_X3_countHostages : GoodIn wsX3_hostageAt (wsV RX3 59 RX3 yX3_countHostages wsX3_countHostages) := goodIn_app (goodIn_of _ (by decide +kernel)) ggX3_hostageAt_X3_countHostages
theorem dX3_hostageAt_0 : decode cX3_hostageAt 0 = .ok (.iload_n 1, 1) := by decide +kernel
theorem dX3_hostageAt_1 : decode cX3_hostageAt 1 = .ok (.ifCond .lt 11, 3) := by decide +kernel
theorem dX3_hostageAt_4 : decode cX3_hostageAt 4 = .ok (.iload_n 1, 1) := by decide +kernel
theorem dX3_hostageAt_5 : decode cX3_hostageAt 5 = .ok (.aload_n 0, 1) := by decide +kernel
theorem dX3_hostageAt_6 : decode cX3_hostageAt 6 = .ok (.invokevirtual 59, 3) := by decide +kernel
theorem dX3_hostageAt_9 : decode cX3_hostageAt 9 = .ok (.if_icmp .lt 7, 3) := by decide +kernel
theorem dX3_hostageAt_12 : decode cX3_hostageAt 12 = .ok (.sipush (-1000), 3) := by decide +kernel
theorem dX3_hostageAt_15 : decode cX3_hostageAt 15 = .ok (.ireturn, 1) := by decide +kernel
theorem dX3_hostageAt_16 : decode cX3_hostageAt 16 = .ok (.aload_n 0, 1) := by decide +kernel
theorem dX3_hostageAt_17 : decode cX3_hostageAt 17 = .ok (.getfield 9, 3) := by decide +kernel
theorem dX3_hostageAt_20 : decode cX3_hostageAt 20 = .ok (.aload_n 0, 1) := by decide +kernel
theorem dX3_hostageAt_21 : decode cX3_hostageAt 21 = .ok (.getfield 41, 3) := by decide +kernel
theorem dX3_hostageAt_24 : decode cX3_hostageAt 24 = .ok (.iload_n 1, 1) := by decide +kernel
theorem dX3_hostageAt_25 : decode cX3_hostageAt 25 = .ok (.iadd, 1) := by decide +kernel
theorem dX3_hostageAt_26 : decode cX3_hostageAt 26 = .ok (.iaload, 1) := by decide +kernel
theorem dX3_hostageAt_27 : decode cX3_hostageAt 27 = .ok (.ireturn, 1) := by decide +kernel
theorem dX3_waitsBehind_0 : decode cX3_waitsBehind 0 = .ok (.aload_n 1, 1) := by decide +kernel
theorem dX3_waitsBehind_1 : decode cX3_waitsBehind 1 = .ok (.getfield 38, 3) := by decide +kernel
theorem dX3_waitsBehind_4 : decode cX3_waitsBehind 4 = .ok (.iconst 3, 1) := by decide +kernel
theorem dX3_waitsBehind_5 : decode cX3_waitsBehind 5 = .ok (.if_icmp .eq 19, 3) := by decide +kernel
theorem dX3_waitsBehind_8 : decode cX3_waitsBehind 8 = .ok (.aload_n 1, 1) := by decide +kernel
theorem dX3_waitsBehind_9 : decode cX3_waitsBehind 9 = .ok (.getfield 31, 3) := by decide +kernel
theorem dX3_waitsBehind_12 : decode cX3_waitsBehind 12 = .ok (.aload_n 0, 1) := by decide +kernel
theorem dX3_waitsBehind_13 : decode cX3_waitsBehind 13 = .ok (.getfield 35, 3) := by decide +kernel
theorem dX3_waitsBehind_16 : decode cX3_waitsBehind 16 = .ok (.land, 1) := by decide +kernel
theorem dX3_waitsBehind_17 : decode cX3_waitsBehind 17 = .ok (.lconst 0, 1) := by decide +kernel
theorem dX3_waitsBehind_18 : decode cX3_waitsBehind 18 = .ok (.lcmp, 1) := by decide +kernel
theorem dX3_waitsBehind_19 : decode cX3_waitsBehind 19 = .ok (.ifCond .eq 5, 3) := by decide +kernel
theorem dX3_waitsBehind_22 : decode cX3_waitsBehind 22 = .ok (.iconst 1, 1) := by decide +kernel
theorem dX3_waitsBehind_23 : decode cX3_waitsBehind 23 = .ok (.ireturn, 1) := by decide +kernel
theorem dX3_waitsBehind_24 : decode cX3_waitsBehind 24 = .ok (.aload_n 1, 1) := by decide +kernel
theorem dX3_waitsBehind_25 : decode cX3_waitsBehind 25 = .ok (.getfield 38, 3) := by decide +kernel
theorem dX3_waitsBehind_28 : decode cX3_waitsBehind 28 = .ok (.iconst 1, 1) := by decide +kernel
theorem dX3_waitsBehind_29 : decode cX3_waitsBehind 29 = .ok (.if_icmp .gt 26, 3) := by decide +kernel
theorem dX3_waitsBehind_32 : decode cX3_waitsBehind 32 = .ok (.aload_n 1, 1) := by decide +kernel
theorem dX3_waitsBehind_33 : decode cX3_waitsBehind 33 = .ok (.getfield 35, 3) := by decide +kernel
theorem dX3_waitsBehind_36 : decode cX3_waitsBehind 36 = .ok (.aload_n 0, 1) := by decide +kernel
theorem dX3_waitsBehind_37 : decode cX3_waitsBehind 37 = .ok (.getfield 31, 3) := by decide +kernel
theorem dX3_waitsBehind_40 : decode cX3_waitsBehind 40 = .ok (.aload_n 0, 1) := by decide +kernel
theorem dX3_waitsBehind_41 : decode cX3_waitsBehind 41 = .ok (.getfield 35, 3) := by decide +kernel
theorem dX3_waitsBehind_44 : decode cX3_waitsBehind 44 = .ok (.lor, 1) := by decide +kernel
theorem dX3_waitsBehind_45 : decode cX3_waitsBehind 45 = .ok (.land, 1) := by decide +kernel
theorem dX3_waitsBehind_46 : decode cX3_waitsBehind 46 = .ok (.lconst 0, 1) := by decide +kernel
theorem dX3_waitsBehind_47 : decode cX3_waitsBehind 47 = .ok (.lcmp, 1) := by decide +kernel
theorem dX3_waitsBehind_48 : decode cX3_waitsBehind 48 = .ok (.ifCond .eq 7, 3) := by decide +kernel
theorem dX3_waitsBehind_51 : decode cX3_waitsBehind 51 = .ok (.iconst 1, 1) := by decide +kernel
theorem dX3_waitsBehind_52 : decode cX3_waitsBehind 52 = .ok (.goto 4, 3) := by decide +kernel
theorem dX3_waitsBehind_55 : decode cX3_waitsBehind 55 = .ok (.iconst 0, 1) := by decide +kernel
theorem dX3_waitsBehind_56 : decode cX3_waitsBehind 56 = .ok (.ireturn, 1) := by decide +kernel
theorem dX4_init_0 : decode cX4_init 0 = .ok (.aload_n 0, 1) := by decide +kernel
theorem dX4_init_1 : decode cX4_init 1 = .ok (.invokespecial 3, 3) := by decide +kernel
theorem dX4_init_4 : decode cX4_init 4 = .ok (.return_, 1) := by decide +kernel
theorem dX4_copyFrom_0 : decode cX4_copyFrom 0 = .ok (.aload_n 0, 1) := by decide +kernel
theorem dX4_copyFrom_1 : decode cX4_copyFrom 1 = .ok (.aload_n 1, 1) := by decide +kernel
theorem dX4_copyFrom_2 : decode cX4_copyFrom 2 = .ok (.getfield 9, 3) := by decide +kernel
theorem dX4_copyFrom_5 : decode cX4_copyFrom 5 = .ok (.putfield 9, 3) := by decide +kernel
theorem dX4_copyFrom_8 : decode cX4_copyFrom 8 = .ok (.aload_n 0, 1) := by decide +kernel
theorem dX4_copyFrom_9 : decode cX4_copyFrom 9 = .ok (.aload_n 1, 1) := by decide +kernel
theorem dX4_copyFrom_10 : decode cX4_copyFrom 10 = .ok (.getfield 15, 3) := by decide +kernel
theorem dX4_copyFrom_13 : decode cX4_copyFrom 13 = .ok (.putfield 15, 3) := by decide +kernel
theorem dX4_copyFrom_16 : decode cX4_copyFrom 16 = .ok (.aload_n 0, 1) := by decide +kernel
theorem dX4_copyFrom_17 : decode cX4_copyFrom 17 = .ok (.aload_n 1, 1) := by decide +kernel
theorem dX4_copyFrom_18 : decode cX4_copyFrom 18 = .ok (.getfield 18, 3) := by decide +kernel
theorem dX4_copyFrom_21 : decode cX4_copyFrom 21 = .ok (.putfield 18, 3) := by decide +kernel
theorem dX4_copyFrom_24 : decode cX4_copyFrom 24 = .ok (.aload_n 0, 1) := by decide +kernel
theorem dX4_copyFrom_25 : decode cX4_copyFrom 25 = .ok (.aload_n 1, 1) := by decide +kernel
theorem dX4_copyFrom_26 : decode cX4_copyFrom 26 = .ok (.getfield 21, 3) := by decide +kernel
theorem dX4_copyFrom_29 : decode cX4_copyFrom 29 = .ok (.putfield 21, 3) := by decide +kernel
theorem dX4_copyFrom_32 : decode cX4_copyFrom 32 = .ok (.return_, 1) := by decide +kernel
theorem dX4_cellAt_0 : decode cX4_cellAt 0 = .ok (.aload_n 0, 1) := by decide +kernel
theorem dX4_cellAt_1 : decode cX4_cellAt 1 = .ok (.getfield 15, 3) := by decide +kernel
theorem dX4_cellAt_4 : decode cX4_cellAt 4 = .ok (.iconst 2, 1) := by decide +kernel
theorem dX4_cellAt_5 : decode cX4_cellAt 5 = .ok (.if_icmp .ge 8, 3) := by decide +kernel
theorem dX4_cellAt_8 : decode cX4_cellAt 8 = .ok (.aload_n 0, 1) := by decide +kernel
theorem dX4_cellAt_9 : decode cX4_cellAt 9 = .ok (.getfield 9, 3) := by decide +kernel
theorem dX4_cellAt_12 : decode cX4_cellAt 12 = .ok (.ireturn, 1) := by decide +kernel
theorem dX4_cellAt_13 : decode cX4_cellAt 13 = .ok (.aload_n 0, 1) := by decide +kernel
theorem dX4_cellAt_14 : decode cX4_cellAt 14 = .ok (.getfield 9, 3) := by decide +kernel
theorem dX4_cellAt_17 : decode cX4_cellAt 17 = .ok (.iload_n 1, 1) := by decide +kernel
theorem dX4_cellAt_18 : decode cX4_cellAt 18 = .ok (.aload_n 0, 1) := by decide +kernel
theorem dX4_cellAt_19 : decode cX4_cellAt 19 = .ok (.getfield 15, 3) := by decide +kernel
theorem dX4_cellAt_22 : decode cX4_cellAt 22 = .ok (.irem, 1) := by decide +kernel
theorem dX4_cellAt_23 : decode cX4_cellAt 23 = .ok (.iadd, 1) := by decide +kernel
theorem dX4_cellAt_24 : decode cX4_cellAt 24 = .ok (.ireturn, 1) := by decide +kernel
set_option maxRecDepth 20000 in
theorem ggX4_cellsFrom_X4_cellAt : GoodIn wsX4_cellsFrom wsX4_cellAt := goodIn_r _ [5, 6, 7, 8, 9, 10, 11] (by decide +kernel) (by decide +kernel)
set_option maxRecDepth 20000 in
theorem gX4_cellsFrom_X4_cellAt : GoodIn wsX4_cellsFrom (wsV RX4 25 RX4 yX4_cellAt wsX4_cellAt) := goodIn_app (goodIn_of _ (by decide +kernel)) ggX4_cellsFrom_X4_cellAt
theorem dX4_cellsFrom_0 : decode cX4_cellsFrom 0 = .ok (.lconst 0, 1) := by decide +kernel
theorem dX4_cellsFrom_1 : decode cX4_cellsFrom 1 = .ok (.lstore_n 3, 1) := by decide +kernel
theorem dX4_cellsFrom_2 : decode cX4_cellsFrom 2 = .ok (.iconst 0, 1) := by decide +kernel
theorem dX4_cellsFrom_3 : decode cX4_cellsFrom 3 = .ok (.istore 5, 2) := by decide +kernel
theorem dX4_cellsFrom_5 : decode cX4_cellsFrom 5 = .ok (.iload 5, 2) := by decide +kernel
theorem dX4_cellsFrom_7 : decode cX4_cellsFrom 7 = .ok (.iload_n 2, 1) := by decide +kernel
theorem dX4_cellsFrom_8 : decode cX4_cellsFrom 8 = .ok (.if_icmp .ge 22, 3) := by decide +kernel
theorem dX4_cellsFrom_11 : decode cX4_cellsFrom 11 = .ok (.lload_n 3, 1) := by decide +kernel
theorem dX4_cellsFrom_12 : decode cX4_cellsFrom 12 = .ok (.lconst 1, 1) := by decide +kernel
theorem dX4_cellsFrom_13 : decode cX4_cellsFrom 13 = .ok (.aload_n 0, 1) := by decide +kernel
theorem dX4_cellsFrom_14 : decode cX4_cellsFrom 14 = .ok (.iload_n 1, 1) := by decide +kernel
theorem dX4_cellsFrom_15 : decode cX4_cellsFrom 15 = .ok (.iload 5, 2) := by decide +kernel
theorem dX4_cellsFrom_17 : decode cX4_cellsFrom 17 = .ok (.iadd, 1) := by decide +kernel
theorem dX4_cellsFrom_18 : decode cX4_cellsFrom 18 = .ok (.invokevirtual 25, 3) := by decide +kernel
theorem dX4_cellsFrom_21 : decode cX4_cellsFrom 21 = .ok (.lshl, 1) := by decide +kernel
theorem dX4_cellsFrom_22 : decode cX4_cellsFrom 22 = .ok (.lor, 1) := by decide +kernel
theorem dX4_cellsFrom_23 : decode cX4_cellsFrom 23 = .ok (.lstore_n 3, 1) := by decide +kernel
theorem dX4_cellsFrom_24 : decode cX4_cellsFrom 24 = .ok (.iinc 5 1, 3) := by decide +kernel
theorem dX4_cellsFrom_27 : decode cX4_cellsFrom 27 = .ok (.goto (-22), 3) := by decide +kernel
theorem dX4_cellsFrom_30 : decode cX4_cellsFrom 30 = .ok (.lload_n 3, 1) := by decide +kernel
theorem dX4_cellsFrom_31 : decode cX4_cellsFrom 31 = .ok (.lreturn, 1) := by decide +kernel
set_option maxRecDepth 20000 in
theorem ggX5_init_X4_init : GoodIn wsX5_init wsX4_init := goodIn_r _ [18, 19, 2, 3] (by decide +kernel) (by decide +kernel)
set_option maxRecDepth 20000 in
theorem gX5_init_X4_init_n37 : GoodIn wsX5_init (wsX4_init) := ggX5_init_X4_init
set_option maxRecDepth 20000 in
theorem ggX5_init_X3_init : GoodIn wsX5_init wsX3_init := goodIn_r _ [21, 22, 2, 3, 4, 23, 40, 41, 42, 43, 44, 45, 46, 47, 48, 49, 50, 51, 52] (by decide +kernel) (by decide +kernel)
set_option maxRecDepth 20000 in
theorem gX5_init_X3_init_n38 : GoodIn wsX5_init (wsX3_init) := ggX5_init_X3_init
theorem dX5_init_0 : decode cX5_init 0 = .ok (.aload_n 0, 1) := by decide +kernel
theorem dX5_init_1 : decode cX5_init 1 = .ok (.invokespecial 3, 3) := by decide +kernel
theorem dX5_init_4 : decode cX5_init 4 = .ok (.aload_n 0, 1) := by decide +kernel
theorem dX5_init_5 : decode cX5_init 5 = .ok (.bipush 48, 2) := by decide +kernel
theorem dX5_init_7 : decode cX5_init 7 = .ok (.newarray .int, 2) := by decide +kernel
theorem dX5_init_9 : decode cX5_init 9 = .ok (.putfield 9, 3) := by decide +kernel
theorem dX5_init_12 : decode cX5_init 12 = .ok (.aload_n 0, 1) := by decide +kernel
theorem dX5_init_13 : decode cX5_init 13 = .ok (.bipush 6, 2) := by decide +kernel
theorem dX5_init_15 : decode cX5_init 15 = .ok (.anewarray 15, 3) := by decide +kernel
theorem dX5_init_18 : decode cX5_init 18 = .ok (.putfield 17, 3) := by decide +kernel
theorem dX5_init_21 : decode cX5_init 21 = .ok (.aload_n 0, 1) := by decide +kernel
theorem dX5_init_22 : decode cX5_init 22 = .ok (.bipush 24, 2) := by decide +kernel
theorem dX5_init_24 : decode cX5_init 24 = .ok (.anewarray 21, 3) := by decide +kernel
theorem dX5_init_27 : decode cX5_init 27 = .ok (.putfield 23, 3) := by decide +kernel
theorem dX5_init_30 : decode cX5_init 30 = .ok (.aload_n 0, 1) := by decide +kernel
theorem dX5_init_31 : decode cX5_init 31 = .ok (.bipush 24, 2) := by decide +kernel
theorem dX5_init_33 : decode cX5_init 33 = .ok (.newarray .int, 2) := by decide +kernel
theorem dX5_init_35 : decode cX5_init 35 = .ok (.putfield 27, 3) := by decide +kernel
theorem dX5_init_38 : decode cX5_init 38 = .ok (.aload_n 0, 1) := by decide +kernel
theorem dX5_init_39 : decode cX5_init 39 = .ok (.iconst 2, 1) := by decide +kernel
theorem dX5_init_40 : decode cX5_init 40 = .ok (.putfield 30, 3) := by decide +kernel
theorem dX5_init_43 : decode cX5_init 43 = .ok (.aload_n 0, 1) := by decide +kernel
theorem dX5_init_44 : decode cX5_init 44 = .ok (.iconst 2, 1) := by decide +kernel
theorem dX5_init_45 : decode cX5_init 45 = .ok (.putfield 34, 3) := by decide +kernel
theorem dX5_init_48 : decode cX5_init 48 = .ok (.iconst 0, 1) := by decide +kernel
theorem dX5_init_49 : decode cX5_init 49 = .ok (.istore_n 1, 1) := by decide +kernel
theorem dX5_init_50 : decode cX5_init 50 = .ok (.iload_n 1, 1) := by decide +kernel
theorem dX5_init_51 : decode cX5_init 51 = .ok (.bipush 6, 2) := by decide +kernel
theorem dX5_init_53 : decode cX5_init 53 = .ok (.if_icmp .ge 22, 3) := by decide +kernel
theorem dX5_init_56 : decode cX5_init 56 = .ok (.aload_n 0, 1) := by decide +kernel
theorem dX5_init_57 : decode cX5_init 57 = .ok (.getfield 17, 3) := by decide +kernel
theorem dX5_init_60 : decode cX5_init 60 = .ok (.iload_n 1, 1) := by decide +kernel
theorem dX5_init_61 : decode cX5_init 61 = .ok (.new 15, 3) := by decide +kernel
theorem dX5_init_64 : decode cX5_init 64 = .ok (.dup, 1) := by decide +kernel
theorem dX5_init_65 : decode cX5_init 65 = .ok (.invokespecial 37, 3) := by decide +kernel
theorem dX5_init_68 : decode cX5_init 68 = .ok (.aastore, 1) := by decide +kernel
theorem dX5_init_69 : decode cX5_init 69 = .ok (.iinc 1 1, 3) := by decide +kernel
theorem dX5_init_72 : decode cX5_init 72 = .ok (.goto (-22), 3) := by decide +kernel
theorem dX5_init_75 : decode cX5_init 75 = .ok (.iconst 0, 1) := by decide +kernel
theorem dX5_init_76 : decode cX5_init 76 = .ok (.istore_n 1, 1) := by decide +kernel
theorem dX5_init_77 : decode cX5_init 77 = .ok (.iload_n 1, 1) := by decide +kernel
theorem dX5_init_78 : decode cX5_init 78 = .ok (.bipush 24, 2) := by decide +kernel
theorem dX5_init_80 : decode cX5_init 80 = .ok (.if_icmp .ge 22, 3) := by decide +kernel
theorem dX5_init_83 : decode cX5_init 83 = .ok (.aload_n 0, 1) := by decide +kernel
theorem dX5_init_84 : decode cX5_init 84 = .ok (.getfield 23, 3) := by decide +kernel
theorem dX5_init_87 : decode cX5_init 87 = .ok (.iload_n 1, 1) := by decide +kernel
theorem dX5_init_88 : decode cX5_init 88 = .ok (.new 21, 3) := by decide +kernel
theorem dX5_init_91 : decode cX5_init 91 = .ok (.dup, 1) := by decide +kernel
theorem dX5_init_92 : decode cX5_init 92 = .ok (.invokespecial 38, 3) := by decide +kernel
theorem dX5_init_95 : decode cX5_init 95 = .ok (.aastore, 1) := by decide +kernel
theorem dX5_init_96 : decode cX5_init 96 = .ok (.iinc 1 1, 3) := by decide +kernel
theorem dX5_init_99 : decode cX5_init 99 = .ok (.goto (-22), 3) := by decide +kernel
theorem dX5_init_102 : decode cX5_init 102 = .ok (.return_, 1) := by decide +kernel
set_option maxRecDepth 20000 in
theorem ggX5_copyFrom_X4_copyFrom : GoodIn wsX5_copyFrom wsX4_copyFrom := goodIn_r _ [20, 21, 22, 23, 24, 56, 57, 58, 59] (by decide +kernel) (by decide +kernel)
set_option maxRecDepth 20000 in
theorem gX5_copyFrom_X4_copyFrom : GoodIn wsX5_copyFrom (wsV RX5 48 RX4 yX4_copyFrom wsX4_copyFrom) := goodIn_app (goodIn_of _ (by decide +kernel)) ggX5_copyFrom_X4_copyFrom
set_option maxRecDepth 20000 in
theorem ggX5_copyFrom_X3_copyFrom : GoodIn wsX5_copyFrom wsX3_copyFrom := goodIn_r _ [29, 30, 31, 32, 33, 34, 35, 36, 37, 38, 39, 40, 41, 42, 43, 3, 4, 5, 60, 61, 62, 63, 64, 65, 66, 67, 68, 69, 70, 71, 72] (by decide +kernel) (by decide +kernel)
set_option maxRecDepth 20000 in
theorem gX5_copyFrom_X3_copyFrom : GoodIn wsX5_copyFrom (wsV RX5 55 RX3 yX3_copyFrom wsX3_copyFrom) := goodIn_app (goodIn_of _ (by decide +kernel)) ggX5_copyFrom_X3_copyFrom
theorem dX5_copyFrom_0 : decode cX5_copyFrom 0 = .ok (.aload_n 1, 1) := by decide +kernel
theorem dX5_copyFrom_1 : decode cX5_copyFrom 1 = .ok (.getfield 9, 3) := by decide +kernel
theorem dX5_copyFrom_4 : decode cX5_copyFrom 4 = .ok (.iconst 0, 1) := by decide +kernel
theorem dX5_copyFrom_5 : decode cX5_copyFrom 5 = .ok (.aload_n 0, 1) := by decide +kernel
theorem dX5_copyFrom_6 : decode cX5_copyFrom 6 = .ok (.getfield 9, 3) := by decide +kernel
theorem dX5_copyFrom_9 : decode cX5_copyFrom 9 = .ok (.iconst 0, 1) := by decide +kernel
theorem dX5_copyFrom_10 : decode cX5_copyFrom 10 = .ok (.bipush 48, 2) := by decide +kernel
theorem dX5_copyFrom_12 : decode cX5_copyFrom 12 = .ok (.invokestatic 39, 3) := by decide +kernel
theorem dX5_copyFrom_15 : decode cX5_copyFrom 15 = .ok (.aload_n 0, 1) := by decide +kernel
theorem dX5_copyFrom_16 : decode cX5_copyFrom 16 = .ok (.aload_n 1, 1) := by decide +kernel
theorem dX5_copyFrom_17 : decode cX5_copyFrom 17 = .ok (.getfield 45, 3) := by decide +kernel
theorem dX5_copyFrom_20 : decode cX5_copyFrom 20 = .ok (.putfield 45, 3) := by decide +kernel
theorem dX5_copyFrom_23 : decode cX5_copyFrom 23 = .ok (.iconst 0, 1) := by decide +kernel
theorem dX5_copyFrom_24 : decode cX5_copyFrom 24 = .ok (.istore_n 2, 1) := by decide +kernel
theorem dX5_copyFrom_25 : decode cX5_copyFrom 25 = .ok (.iload_n 2, 1) := by decide +kernel
theorem dX5_copyFrom_26 : decode cX5_copyFrom 26 = .ok (.aload_n 0, 1) := by decide +kernel
theorem dX5_copyFrom_27 : decode cX5_copyFrom 27 = .ok (.getfield 45, 3) := by decide +kernel
theorem dX5_copyFrom_30 : decode cX5_copyFrom 30 = .ok (.if_icmp .ge 24, 3) := by decide +kernel
theorem dX5_copyFrom_33 : decode cX5_copyFrom 33 = .ok (.aload_n 0, 1) := by decide +kernel
theorem dX5_copyFrom_34 : decode cX5_copyFrom 34 = .ok (.getfield 17, 3) := by decide +kernel
theorem dX5_copyFrom_37 : decode cX5_copyFrom 37 = .ok (.iload_n 2, 1) := by decide +kernel
theorem dX5_copyFrom_38 : decode cX5_copyFrom 38 = .ok (.aaload, 1) := by decide +kernel
theorem dX5_copyFrom_39 : decode cX5_copyFrom 39 = .ok (.aload_n 1, 1) := by decide +kernel
theorem dX5_copyFrom_40 : decode cX5_copyFrom 40 = .ok (.getfield 17, 3) := by decide +kernel
theorem dX5_copyFrom_43 : decode cX5_copyFrom 43 = .ok (.iload_n 2, 1) := by decide +kernel
theorem dX5_copyFrom_44 : decode cX5_copyFrom 44 = .ok (.aaload, 1) := by decide +kernel
theorem dX5_copyFrom_45 : decode cX5_copyFrom 45 = .ok (.invokevirtual 48, 3) := by decide +kernel
theorem dX5_copyFrom_48 : decode cX5_copyFrom 48 = .ok (.iinc 2 1, 3) := by decide +kernel
theorem dX5_copyFrom_51 : decode cX5_copyFrom 51 = .ok (.goto (-26), 3) := by decide +kernel
theorem dX5_copyFrom_54 : decode cX5_copyFrom 54 = .ok (.aload_n 0, 1) := by decide +kernel
theorem dX5_copyFrom_55 : decode cX5_copyFrom 55 = .ok (.aload_n 1, 1) := by decide +kernel
theorem dX5_copyFrom_56 : decode cX5_copyFrom 56 = .ok (.getfield 52, 3) := by decide +kernel
theorem dX5_copyFrom_59 : decode cX5_copyFrom 59 = .ok (.putfield 52, 3) := by decide +kernel
theorem dX5_copyFrom_62 : decode cX5_copyFrom 62 = .ok (.iconst 0, 1) := by decide +kernel
theorem dX5_copyFrom_63 : decode cX5_copyFrom 63 = .ok (.istore_n 2, 1) := by decide +kernel
theorem dX5_copyFrom_64 : decode cX5_copyFrom 64 = .ok (.iload_n 2, 1) := by decide +kernel
theorem dX5_copyFrom_65 : decode cX5_copyFrom 65 = .ok (.aload_n 0, 1) := by decide +kernel
theorem dX5_copyFrom_66 : decode cX5_copyFrom 66 = .ok (.getfield 52, 3) := by decide +kernel
theorem dX5_copyFrom_69 : decode cX5_copyFrom 69 = .ok (.if_icmp .ge 24, 3) := by decide +kernel
theorem dX5_copyFrom_72 : decode cX5_copyFrom 72 = .ok (.aload_n 0, 1) := by decide +kernel
theorem dX5_copyFrom_73 : decode cX5_copyFrom 73 = .ok (.getfield 23, 3) := by decide +kernel
theorem dX5_copyFrom_76 : decode cX5_copyFrom 76 = .ok (.iload_n 2, 1) := by decide +kernel
theorem dX5_copyFrom_77 : decode cX5_copyFrom 77 = .ok (.aaload, 1) := by decide +kernel
theorem dX5_copyFrom_78 : decode cX5_copyFrom 78 = .ok (.aload_n 1, 1) := by decide +kernel
theorem dX5_copyFrom_79 : decode cX5_copyFrom 79 = .ok (.getfield 23, 3) := by decide +kernel
theorem dX5_copyFrom_82 : decode cX5_copyFrom 82 = .ok (.iload_n 2, 1) := by decide +kernel
theorem dX5_copyFrom_83 : decode cX5_copyFrom 83 = .ok (.aaload, 1) := by decide +kernel
theorem dX5_copyFrom_84 : decode cX5_copyFrom 84 = .ok (.invokevirtual 55, 3) := by decide +kernel
theorem dX5_copyFrom_87 : decode cX5_copyFrom 87 = .ok (.iinc 2 1, 3) := by decide +kernel
theorem dX5_copyFrom_90 : decode cX5_copyFrom 90 = .ok (.goto (-26), 3) := by decide +kernel
theorem dX5_copyFrom_93 : decode cX5_copyFrom 93 = .ok (.aload_n 0, 1) := by decide +kernel
theorem dX5_copyFrom_94 : decode cX5_copyFrom 94 = .ok (.aload_n 1, 1) := by decide +kernel
theorem dX5_copyFrom_95 : decode cX5_copyFrom 95 = .ok (.getfield 30, 3) := by decide +kernel
theorem dX5_copyFrom_98 : decode cX5_copyFrom 98 = .ok (.putfield 30, 3) := by decide +kernel
theorem dX5_copyFrom_101 : decode cX5_copyFrom 101 = .ok (.aload_n 0, 1) := by decide +kernel
theorem dX5_copyFrom_102 : decode cX5_copyFrom 102 = .ok (.aload_n 1, 1) := by decide +kernel
theorem dX5_copyFrom_103 : decode cX5_copyFrom 103 = .ok (.getfield 34, 3) := by decide +kernel
theorem dX5_copyFrom_106 : decode cX5_copyFrom 106 = .ok (.putfield 34, 3) := by decide +kernel
theorem dX5_copyFrom_109 : decode cX5_copyFrom 109 = .ok (.aload_n 0, 1) := by decide +kernel
theorem dX5_copyFrom_110 : decode cX5_copyFrom 110 = .ok (.aload_n 1, 1) := by decide +kernel
theorem dX5_copyFrom_111 : decode cX5_copyFrom 111 = .ok (.getfield 58, 3) := by decide +kernel
theorem dX5_copyFrom_114 : decode cX5_copyFrom 114 = .ok (.putfield 58, 3) := by decide +kernel
theorem dX5_copyFrom_117 : decode cX5_copyFrom 117 = .ok (.aload_n 0, 1) := by decide +kernel
theorem dX5_copyFrom_118 : decode cX5_copyFrom 118 = .ok (.aload_n 1, 1) := by decide +kernel
theorem dX5_copyFrom_119 : decode cX5_copyFrom 119 = .ok (.getfield 61, 3) := by decide +kernel
theorem dX5_copyFrom_122 : decode cX5_copyFrom 122 = .ok (.putfield 61, 3) := by decide +kernel
theorem dX5_copyFrom_125 : decode cX5_copyFrom 125 = .ok (.aload_n 0, 1) := by decide +kernel
theorem dX5_copyFrom_126 : decode cX5_copyFrom 126 = .ok (.aload_n 1, 1) := by decide +kernel
theorem dX5_copyFrom_127 : decode cX5_copyFrom 127 = .ok (.getfield 64, 3) := by decide +kernel
theorem dX5_copyFrom_130 : decode cX5_copyFrom 130 = .ok (.putfield 64, 3) := by decide +kernel
theorem dX5_copyFrom_133 : decode cX5_copyFrom 133 = .ok (.aload_n 0, 1) := by decide +kernel
theorem dX5_copyFrom_134 : decode cX5_copyFrom 134 = .ok (.aload_n 1, 1) := by decide +kernel
theorem dX5_copyFrom_135 : decode cX5_copyFrom 135 = .ok (.getfield 67, 3) := by decide +kernel
theorem dX5_copyFrom_138 : decode cX5_copyFrom 138 = .ok (.putfield 67, 3) := by decide +kernel
theorem dX5_copyFrom_141 : decode cX5_copyFrom 141 = .ok (.return_, 1) := by decide +kernel
theorem dX5_hasRing_0 : decode cX5_hasRing 0 = .ok (.iload_n 1, 1) := by decide +kernel
theorem dX5_hasRing_1 : decode cX5_hasRing 1 = .ok (.ifCond .lt 15, 3) := by decide +kernel
theorem dX5_hasRing_4 : decode cX5_hasRing 4 = .ok (.iload_n 1, 1) := by decide +kernel
theorem dX5_hasRing_5 : decode cX5_hasRing 5 = .ok (.aload_n 0, 1) := by decide +kernel
theorem dX5_hasRing_6 : decode cX5_hasRing 6 = .ok (.getfield 45, 3) := by decide +kernel
theorem dX5_hasRing_9 : decode cX5_hasRing 9 = .ok (.if_icmp .ge 7, 3) := by decide +kernel
theorem dX5_hasRing_12 : decode cX5_hasRing 12 = .ok (.iconst 1, 1) := by decide +kernel
theorem dX5_hasRing_13 : decode cX5_hasRing 13 = .ok (.goto 4, 3) := by decide +kernel
theorem dX5_hasRing_16 : decode cX5_hasRing 16 = .ok (.iconst 0, 1) := by decide +kernel
theorem dX5_hasRing_17 : decode cX5_hasRing 17 = .ok (.ireturn, 1) := by decide +kernel
set_option maxRecDepth 20000 in
theorem ggX5_ringRefusal_X7_isCell : GoodIn wsX5_ringRefusal wsX7_isCell := goodIn_r _ [4, 5, 6, 3, 7] (by decide +kernel) (by decide +kernel)
set_option maxRecDepth 20000 in
theorem gX5_ringRefusal_X7_isCell_n70 : GoodIn wsX5_ringRefusal (wsX7_isCell) := ggX5_ringRefusal_X7_isCell
set_option maxRecDepth 20000 in
theorem ggX5_ringRefusal_X7_isWithin : GoodIn wsX5_ringRefusal wsX7_isWithin := goodIn_r _ [7] (by decide +kernel) (by decide +kernel)
set_option maxRecDepth 20000 in
theorem gX5_ringRefusal_X7_isWithin_n74 : GoodIn wsX5_ringRefusal (wsX7_isWithin) := ggX5_ringRefusal_X7_isWithin
set_option maxRecDepth 20000 in
theorem ggX5_ringRefusal_X5_meetsRing : GoodIn wsX5_ringRefusal wsX5_meetsRing := goodIn_r _ [12, 1, 13, 14, 15, 16, 17, 18, 19, 20, 21, 22, 23, 24, 25, 26, 27, 28, 29, 30, 31] (by decide +kernel) (by decide +kernel)
set_option maxRecDepth 20000 in
theorem gX5_ringRefusal_X5_meetsRing : GoodIn wsX5_ringRefusal (wsV RX5 78 RX5 yX5_meetsRing wsX5_meetsRing) := goodIn_app (goodIn_of _ (by decide +kernel)) ggX5_ringRefusal_X5_meetsRing
theorem dX5_ringRefusal_0 : decode cX5_ringRefusal 0 = .ok (.iload_n 1, 1) := by decide +kernel
theorem dX5_ringRefusal_1 : decode cX5_ringRefusal 1 = .ok (.invokestatic 70, 3) := by decide +kernel
theorem dX5_ringRefusal_4 : decode cX5_ringRefusal 4 = .ok (.ifCond .ne 5, 3) := by decide +kernel
theorem dX5_ringRefusal_7 : decode cX5_ringRefusal 7 = .ok (.iconst 1, 1) := by decide +kernel
theorem dX5_ringRefusal_8 : decode cX5_ringRefusal 8 = .ok (.ireturn, 1) := by decide +kernel
theorem dX5_ringRefusal_9 : decode cX5_ringRefusal 9 = .ok (.iload_n 2, 1) := by decide +kernel
theorem dX5_ringRefusal_10 : decode cX5_ringRefusal 10 = .ok (.iconst 2, 1) := by decide +kernel
theorem dX5_ringRefusal_11 : decode cX5_ringRefusal 11 = .ok (.bipush 16, 2) := by decide +kernel
theorem dX5_ringRefusal_13 : decode cX5_ringRefusal 13 = .ok (.invokestatic 74, 3) := by decide +kernel
theorem dX5_ringRefusal_16 : decode cX5_ringRefusal 16 = .ok (.ifCond .eq 21, 3) := by decide +kernel
theorem dX5_ringRefusal_19 : decode cX5_ringRefusal 19 = .ok (.iload_n 3, 1) := by decide +kernel
theorem dX5_ringRefusal_20 : decode cX5_ringRefusal 20 = .ok (.iconst 0, 1) := by decide +kernel
theorem dX5_ringRefusal_21 : decode cX5_ringRefusal 21 = .ok (.bipush 50, 2) := by decide +kernel
theorem dX5_ringRefusal_23 : decode cX5_ringRefusal 23 = .ok (.invokestatic 74, 3) := by decide +kernel
theorem dX5_ringRefusal_26 : decode cX5_ringRefusal 26 = .ok (.ifCond .eq 11, 3) := by decide +kernel
theorem dX5_ringRefusal_29 : decode cX5_ringRefusal 29 = .ok (.iload_n 1, 1) := by decide +kernel
theorem dX5_ringRefusal_30 : decode cX5_ringRefusal 30 = .ok (.iload_n 2, 1) := by decide +kernel
theorem dX5_ringRefusal_31 : decode cX5_ringRefusal 31 = .ok (.iadd, 1) := by decide +kernel
theorem dX5_ringRefusal_32 : decode cX5_ringRefusal 32 = .ok (.bipush 48, 2) := by decide +kernel
theorem dX5_ringRefusal_34 : decode cX5_ringRefusal 34 = .ok (.if_icmp .le 5, 3) := by decide +kernel
theorem dX5_ringRefusal_37 : decode cX5_ringRefusal 37 = .ok (.iconst 2, 1) := by decide +kernel
theorem dX5_ringRefusal_38 : decode cX5_ringRefusal 38 = .ok (.ireturn, 1) := by decide +kernel
theorem dX5_ringRefusal_39 : decode cX5_ringRefusal 39 = .ok (.aload_n 0, 1) := by decide +kernel
theorem dX5_ringRefusal_40 : decode cX5_ringRefusal 40 = .ok (.getfield 45, 3) := by decide +kernel
theorem dX5_ringRefusal_43 : decode cX5_ringRefusal 43 = .ok (.bipush 6, 2) := by decide +kernel
theorem dX5_ringRefusal_45 : decode cX5_ringRefusal 45 = .ok (.if_icmp .ge 12, 3) := by decide +kernel
theorem dX5_ringRefusal_48 : decode cX5_ringRefusal 48 = .ok (.aload_n 0, 1) := by decide +kernel
theorem dX5_ringRefusal_49 : decode cX5_ringRefusal 49 = .ok (.iload_n 1, 1) := by decide +kernel
theorem dX5_ringRefusal_50 : decode cX5_ringRefusal 50 = .ok (.iload_n 2, 1) := by decide +kernel
theorem dX5_ringRefusal_51 : decode cX5_ringRefusal 51 = .ok (.invokevirtual 78, 3) := by decide +kernel
theorem dX5_ringRefusal_54 : decode cX5_ringRefusal 54 = .ok (.ifCond .eq 7, 3) := by decide +kernel
theorem dX5_ringRefusal_57 : decode cX5_ringRefusal 57 = .ok (.iconst 3, 1) := by decide +kernel
theorem dX5_ringRefusal_58 : decode cX5_ringRefusal 58 = .ok (.goto 4, 3) := by decide +kernel
theorem dX5_ringRefusal_61 : decode cX5_ringRefusal 61 = .ok (.iconst 0, 1) := by decide +kernel
theorem dX5_ringRefusal_62 : decode cX5_ringRefusal 62 = .ok (.ireturn, 1) := by decide +kernel
theorem dX5_meetsRing_0 : decode cX5_meetsRing 0 = .ok (.iconst 0, 1) := by decide +kernel
theorem dX5_meetsRing_1 : decode cX5_meetsRing 1 = .ok (.istore_n 3, 1) := by decide +kernel
theorem dX5_meetsRing_2 : decode cX5_meetsRing 2 = .ok (.iload_n 3, 1) := by decide +kernel
theorem dX5_meetsRing_3 : decode cX5_meetsRing 3 = .ok (.aload_n 0, 1) := by decide +kernel
theorem dX5_meetsRing_4 : decode cX5_meetsRing 4 = .ok (.getfield 45, 3) := by decide +kernel
theorem dX5_meetsRing_7 : decode cX5_meetsRing 7 = .ok (.if_icmp .ge 45, 3) := by decide +kernel
theorem dX5_meetsRing_10 : decode cX5_meetsRing 10 = .ok (.aload_n 0, 1) := by decide +kernel
theorem dX5_meetsRing_11 : decode cX5_meetsRing 11 = .ok (.getfield 17, 3) := by decide +kernel
theorem dX5_meetsRing_14 : decode cX5_meetsRing 14 = .ok (.iload_n 3, 1) := by decide +kernel
theorem dX5_meetsRing_15 : decode cX5_meetsRing 15 = .ok (.aaload, 1) := by decide +kernel
theorem dX5_meetsRing_16 : decode cX5_meetsRing 16 = .ok (.astore 4, 2) := by decide +kernel
theorem dX5_meetsRing_18 : decode cX5_meetsRing 18 = .ok (.iload_n 1, 1) := by decide +kernel
theorem dX5_meetsRing_19 : decode cX5_meetsRing 19 = .ok (.aload 4, 2) := by decide +kernel
theorem dX5_meetsRing_21 : decode cX5_meetsRing 21 = .ok (.getfield 82, 3) := by decide +kernel
theorem dX5_meetsRing_24 : decode cX5_meetsRing 24 = .ok (.aload 4, 2) := by decide +kernel
theorem dX5_meetsRing_26 : decode cX5_meetsRing 26 = .ok (.getfield 85, 3) := by decide +kernel
theorem dX5_meetsRing_29 : decode cX5_meetsRing 29 = .ok (.iadd, 1) := by decide +kernel
theorem dX5_meetsRing_30 : decode cX5_meetsRing 30 = .ok (.if_icmp .ge 16, 3) := by decide +kernel
theorem dX5_meetsRing_33 : decode cX5_meetsRing 33 = .ok (.aload 4, 2) := by decide +kernel
theorem dX5_meetsRing_35 : decode cX5_meetsRing 35 = .ok (.getfield 82, 3) := by decide +kernel
theorem dX5_meetsRing_38 : decode cX5_meetsRing 38 = .ok (.iload_n 1, 1) := by decide +kernel
theorem dX5_meetsRing_39 : decode cX5_meetsRing 39 = .ok (.iload_n 2, 1) := by decide +kernel
theorem dX5_meetsRing_40 : decode cX5_meetsRing 40 = .ok (.iadd, 1) := by decide +kernel
theorem dX5_meetsRing_41 : decode cX5_meetsRing 41 = .ok (.if_icmp .ge 5, 3) := by decide +kernel
theorem dX5_meetsRing_44 : decode cX5_meetsRing 44 = .ok (.iconst 1, 1) := by decide +kernel
theorem dX5_meetsRing_45 : decode cX5_meetsRing 45 = .ok (.ireturn, 1) := by decide +kernel
theorem dX5_meetsRing_46 : decode cX5_meetsRing 46 = .ok (.iinc 3 1, 3) := by decide +kernel
theorem dX5_meetsRing_49 : decode cX5_meetsRing 49 = .ok (.goto (-47), 3) := by decide +kernel
theorem dX5_meetsRing_52 : decode cX5_meetsRing 52 = .ok (.iconst 0, 1) := by decide +kernel
theorem dX5_meetsRing_53 : decode cX5_meetsRing 53 = .ok (.ireturn, 1) := by decide +kernel
theorem dX5_putRing_0 : decode cX5_putRing 0 = .ok (.aload_n 0, 1) := by decide +kernel
theorem dX5_putRing_1 : decode cX5_putRing 1 = .ok (.getfield 17, 3) := by decide +kernel
theorem dX5_putRing_4 : decode cX5_putRing 4 = .ok (.aload_n 0, 1) := by decide +kernel
theorem dX5_putRing_5 : decode cX5_putRing 5 = .ok (.getfield 45, 3) := by decide +kernel
theorem dX5_putRing_8 : decode cX5_putRing 8 = .ok (.aaload, 1) := by decide +kernel
theorem dX5_putRing_9 : decode cX5_putRing 9 = .ok (.astore 4, 2) := by decide +kernel
theorem dX5_putRing_11 : decode cX5_putRing 11 = .ok (.aload 4, 2) := by decide +kernel
theorem dX5_putRing_13 : decode cX5_putRing 13 = .ok (.iload_n 1, 1) := by decide +kernel
theorem dX5_putRing_14 : decode cX5_putRing 14 = .ok (.putfield 82, 3) := by decide +kernel
theorem dX5_putRing_17 : decode cX5_putRing 17 = .ok (.aload 4, 2) := by decide +kernel
theorem dX5_putRing_19 : decode cX5_putRing 19 = .ok (.iload_n 2, 1) := by decide +kernel
theorem dX5_putRing_20 : decode cX5_putRing 20 = .ok (.putfield 85, 3) := by decide +kernel
theorem dX5_putRing_23 : decode cX5_putRing 23 = .ok (.aload 4, 2) := by decide +kernel
theorem dX5_putRing_25 : decode cX5_putRing 25 = .ok (.iload_n 3, 1) := by decide +kernel
theorem dX5_putRing_26 : decode cX5_putRing 26 = .ok (.putfield 88, 3) := by decide +kernel
theorem dX5_putRing_29 : decode cX5_putRing 29 = .ok (.aload 4, 2) := by decide +kernel
theorem dX5_putRing_31 : decode cX5_putRing 31 = .ok (.iconst 0, 1) := by decide +kernel
theorem dX5_putRing_32 : decode cX5_putRing 32 = .ok (.putfield 91, 3) := by decide +kernel
theorem dX5_putRing_35 : decode cX5_putRing 35 = .ok (.aload_n 0, 1) := by decide +kernel
theorem dX5_putRing_36 : decode cX5_putRing 36 = .ok (.dup, 1) := by decide +kernel
theorem dX5_putRing_37 : decode cX5_putRing 37 = .ok (.getfield 45, 3) := by decide +kernel
theorem dX5_putRing_40 : decode cX5_putRing 40 = .ok (.iconst 1, 1) := by decide +kernel
theorem dX5_putRing_41 : decode cX5_putRing 41 = .ok (.iadd, 1) := by decide +kernel
theorem dX5_putRing_42 : decode cX5_putRing 42 = .ok (.putfield 45, 3) := by decide +kernel
theorem dX5_putRing_45 : decode cX5_putRing 45 = .ok (.aload_n 0, 1) := by decide +kernel
theorem dX5_putRing_46 : decode cX5_putRing 46 = .ok (.getfield 45, 3) := by decide +kernel
theorem dX5_putRing_49 : decode cX5_putRing 49 = .ok (.iconst 1, 1) := by decide +kernel
theorem dX5_putRing_50 : decode cX5_putRing 50 = .ok (.isub, 1) := by decide +kernel
theorem dX5_putRing_51 : decode cX5_putRing 51 = .ok (.ireturn, 1) := by decide +kernel
set_option maxRecDepth 20000 in
theorem ggX5_settingRefusal_X7_isWithin : GoodIn wsX5_settingRefusal wsX7_isWithin := goodIn_r _ [3] (by decide +kernel) (by decide +kernel)
set_option maxRecDepth 20000 in
theorem gX5_settingRefusal_X7_isWithin_n74 : GoodIn wsX5_settingRefusal (wsX7_isWithin) := ggX5_settingRefusal_X7_isWithin
theorem dX5_settingRefusal_0 : decode cX5_settingRefusal 0 = .ok (.iload_n 0, 1) := by decide +kernel
theorem dX5_settingRefusal_1 : decode cX5_settingRefusal 1 = .ok (.iconst 0, 1) := by decide +kernel
theorem dX5_settingRefusal_2 : decode cX5_settingRefusal 2 = .ok (.iconst 1, 1) := by decide +kernel
theorem dX5_settingRefusal_3 : decode cX5_settingRefusal 3 = .ok (.invokestatic 74, 3) := by decide +kernel
theorem dX5_settingRefusal_6 : decode cX5_settingRefusal 6 = .ok (.ifCond .ne 5, 3) := by decide +kernel
theorem dX5_settingRefusal_9 : decode cX5_settingRefusal 9 = .ok (.iconst 2, 1) := by decide +kernel
theorem dX5_settingRefusal_10 : decode cX5_settingRefusal 10 = .ok (.ireturn, 1) := by decide +kernel
theorem dX5_settingRefusal_11 : decode cX5_settingRefusal 11 = .ok (.iload_n 1, 1) := by decide +kernel
theorem dX5_settingRefusal_12 : decode cX5_settingRefusal 12 = .ok (.iconst 1, 1) := by decide +kernel
theorem dX5_settingRefusal_13 : decode cX5_settingRefusal 13 = .ok (.iload_n 0, 1) := by decide +kernel
theorem dX5_settingRefusal_14 : decode cX5_settingRefusal 14 = .ok (.ifCond .ne 8, 3) := by decide +kernel
theorem dX5_settingRefusal_17 : decode cX5_settingRefusal 17 = .ok (.bipush 8, 2) := by decide +kernel
theorem dX5_settingRefusal_19 : decode cX5_settingRefusal 19 = .ok (.goto 4, 3) := by decide +kernel
theorem dX5_settingRefusal_22 : decode cX5_settingRefusal 22 = .ok (.iconst 4, 1) := by decide +kernel
theorem dX5_settingRefusal_23 : decode cX5_settingRefusal 23 = .ok (.invokestatic 74, 3) := by decide +kernel
theorem dX5_settingRefusal_26 : decode cX5_settingRefusal 26 = .ok (.ifCond .eq 7, 3) := by decide +kernel
theorem dX5_settingRefusal_29 : decode cX5_settingRefusal 29 = .ok (.iconst 0, 1) := by decide +kernel
theorem dX5_settingRefusal_30 : decode cX5_settingRefusal 30 = .ok (.goto 4, 3) := by decide +kernel
theorem dX5_settingRefusal_33 : decode cX5_settingRefusal 33 = .ok (.iconst 2, 1) := by decide +kernel
theorem dX5_settingRefusal_34 : decode cX5_settingRefusal 34 = .ok (.ireturn, 1) := by decide +kernel
theorem dX5_putSetting_0 : decode cX5_putSetting 0 = .ok (.iload_n 1, 1) := by decide +kernel
theorem dX5_putSetting_1 : decode cX5_putSetting 1 = .ok (.ifCond .ne 10, 3) := by decide +kernel
theorem dX5_putSetting_4 : decode cX5_putSetting 4 = .ok (.aload_n 0, 1) := by decide +kernel
theorem dX5_putSetting_5 : decode cX5_putSetting 5 = .ok (.getfield 30, 3) := by decide +kernel
theorem dX5_putSetting_8 : decode cX5_putSetting 8 = .ok (.goto 7, 3) := by decide +kernel
theorem dX5_putSetting_11 : decode cX5_putSetting 11 = .ok (.aload_n 0, 1) := by decide +kernel
theorem dX5_putSetting_12 : decode cX5_putSetting 12 = .ok (.getfield 34, 3) := by decide +kernel
theorem dX5_putSetting_15 : decode cX5_putSetting 15 = .ok (.istore_n 3, 1) := by decide +kernel
theorem dX5_putSetting_16 : decode cX5_putSetting 16 = .ok (.iload_n 1, 1) := by decide +kernel
theorem dX5_putSetting_17 : decode cX5_putSetting 17 = .ok (.ifCond .ne 11, 3) := by decide +kernel
theorem dX5_putSetting_20 : decode cX5_putSetting 20 = .ok (.aload_n 0, 1) := by decide +kernel
theorem dX5_putSetting_21 : decode cX5_putSetting 21 = .ok (.iload_n 2, 1) := by decide +kernel
theorem dX5_putSetting_22 : decode cX5_putSetting 22 = .ok (.putfield 30, 3) := by decide +kernel
theorem dX5_putSetting_25 : decode cX5_putSetting 25 = .ok (.goto 8, 3) := by decide +kernel
theorem dX5_putSetting_28 : decode cX5_putSetting 28 = .ok (.aload_n 0, 1) := by decide +kernel
theorem dX5_putSetting_29 : decode cX5_putSetting 29 = .ok (.iload_n 2, 1) := by decide +kernel
theorem dX5_putSetting_30 : decode cX5_putSetting 30 = .ok (.putfield 34, 3) := by decide +kernel
theorem dX5_putSetting_33 : decode cX5_putSetting 33 = .ok (.iload_n 3, 1) := by decide +kernel
theorem dX5_putSetting_34 : decode cX5_putSetting 34 = .ok (.ireturn, 1) := by decide +kernel
set_option maxRecDepth 20000 in
theorem ggX5_valueRefusal_X7_isCell : GoodIn wsX5_valueRefusal wsX7_isCell := goodIn_r _ [3, 4, 5, 2, 6] (by decide +kernel) (by decide +kernel)
set_option maxRecDepth 20000 in
theorem gX5_valueRefusal_X7_isCell_n70 : GoodIn wsX5_valueRefusal (wsX7_isCell) := ggX5_valueRefusal_X7_isCell
set_option maxRecDepth 20000 in
theorem ggX5_valueRefusal_X7_isWithin : GoodIn wsX5_valueRefusal wsX7_isWithin := goodIn_r _ [6] (by decide +kernel) (by decide +kernel)
set_option maxRecDepth 20000 in
theorem gX5_valueRefusal_X7_isWithin_n74 : GoodIn wsX5_valueRefusal (wsX7_isWithin) := ggX5_valueRefusal_X7_isWithin
set_option maxRecDepth 20000 in
theorem ggX5_valueRefusal_X5_barOf : GoodIn wsX5_valueRefusal wsX5_barOf := goodIn_r _ [11, 12, 13, 14, 15, 16, 17, 18, 19, 10, 20, 21, 22, 23, 24, 25, 26, 27, 28, 29, 30, 31, 32, 33, 34, 35, 36, 37, 38, 39, 40, 41, 42, 43, 44, 45, 46, 47, 48, 49, 50, 51] (by decide +kernel) (by decide +kernel)
set_option maxRecDepth 20000 in
theorem gX5_valueRefusal_X5_barOf : GoodIn wsX5_valueRefusal (wsV RX5 98 RX5 yX5_barOf wsX5_barOf) := goodIn_app (goodIn_of _ (by decide +kernel)) ggX5_valueRefusal_X5_barOf
theorem dX5_valueRefusal_0 : decode cX5_valueRefusal 0 = .ok (.iload_n 1, 1) := by decide +kernel
theorem dX5_valueRefusal_1 : decode cX5_valueRefusal 1 = .ok (.invokestatic 70, 3) := by decide +kernel
theorem dX5_valueRefusal_4 : decode cX5_valueRefusal 4 = .ok (.ifCond .ne 5, 3) := by decide +kernel
theorem dX5_valueRefusal_7 : decode cX5_valueRefusal 7 = .ok (.iconst 1, 1) := by decide +kernel
theorem dX5_valueRefusal_8 : decode cX5_valueRefusal 8 = .ok (.ireturn, 1) := by decide +kernel
theorem dX5_valueRefusal_9 : decode cX5_valueRefusal 9 = .ok (.iload_n 2, 1) := by decide +kernel
theorem dX5_valueRefusal_10 : decode cX5_valueRefusal 10 = .ok (.sipush (-999), 3) := by decide +kernel
theorem dX5_valueRefusal_13 : decode cX5_valueRefusal 13 = .ok (.sipush 999, 3) := by decide +kernel
theorem dX5_valueRefusal_16 : decode cX5_valueRefusal 16 = .ok (.invokestatic 74, 3) := by decide +kernel
theorem dX5_valueRefusal_19 : decode cX5_valueRefusal 19 = .ok (.ifCond .ne 5, 3) := by decide +kernel
theorem dX5_valueRefusal_22 : decode cX5_valueRefusal 22 = .ok (.iconst 2, 1) := by decide +kernel
theorem dX5_valueRefusal_23 : decode cX5_valueRefusal 23 = .ok (.ireturn, 1) := by decide +kernel
theorem dX5_valueRefusal_24 : decode cX5_valueRefusal 24 = .ok (.aload_n 0, 1) := by decide +kernel
theorem dX5_valueRefusal_25 : decode cX5_valueRefusal 25 = .ok (.iload_n 1, 1) := by decide +kernel
theorem dX5_valueRefusal_26 : decode cX5_valueRefusal 26 = .ok (.invokevirtual 98, 3) := by decide +kernel
theorem dX5_valueRefusal_29 : decode cX5_valueRefusal 29 = .ok (.ifCond .ne 7, 3) := by decide +kernel
theorem dX5_valueRefusal_32 : decode cX5_valueRefusal 32 = .ok (.iconst 0, 1) := by decide +kernel
theorem dX5_valueRefusal_33 : decode cX5_valueRefusal 33 = .ok (.goto 4, 3) := by decide +kernel
theorem dX5_valueRefusal_36 : decode cX5_valueRefusal 36 = .ok (.iconst 3, 1) := by decide +kernel
theorem dX5_valueRefusal_37 : decode cX5_valueRefusal 37 = .ok (.ireturn, 1) := by decide +kernel
theorem dX5_putValue_0 : decode cX5_putValue 0 = .ok (.aload_n 0, 1) := by decide +kernel
theorem dX5_putValue_1 : decode cX5_putValue 1 = .ok (.getfield 9, 3) := by decide +kernel
theorem dX5_putValue_4 : decode cX5_putValue 4 = .ok (.iload_n 1, 1) := by decide +kernel
theorem dX5_putValue_5 : decode cX5_putValue 5 = .ok (.iaload, 1) := by decide +kernel
theorem dX5_putValue_6 : decode cX5_putValue 6 = .ok (.istore_n 3, 1) := by decide +kernel
theorem dX5_putValue_7 : decode cX5_putValue 7 = .ok (.aload_n 0, 1) := by decide +kernel
theorem dX5_putValue_8 : decode cX5_putValue 8 = .ok (.getfield 9, 3) := by decide +kernel
theorem dX5_putValue_11 : decode cX5_putValue 11 = .ok (.iload_n 1, 1) := by decide +kernel
theorem dX5_putValue_12 : decode cX5_putValue 12 = .ok (.iload_n 2, 1) := by decide +kernel
theorem dX5_putValue_13 : decode cX5_putValue 13 = .ok (.iastore, 1) := by decide +kernel
theorem dX5_putValue_14 : decode cX5_putValue 14 = .ok (.iload_n 3, 1) := by decide +kernel
theorem dX5_putValue_15 : decode cX5_putValue 15 = .ok (.ireturn, 1) := by decide +kernel
set_option maxRecDepth 20000 in
theorem ggX5_barOf_X5_heldCells : GoodIn wsX5_barOf wsX5_heldCells := goodIn_r _ [10, 1, 2, 4, 11, 12, 13, 14, 15, 16, 17, 18, 19, 20, 21, 22, 23, 24, 25, 26, 27, 28, 29, 30, 31, 32, 33, 34, 35, 36, 37, 38, 39, 40, 41] (by decide +kernel) (by decide +kernel)
set_option maxRecDepth 20000 in
theorem gX5_barOf_X5_heldCells : GoodIn wsX5_barOf (wsV RX5 102 RX5 yX5_heldCells wsX5_heldCells) := goodIn_app (goodIn_of _ (by decide +kernel)) ggX5_barOf_X5_heldCells
theorem dX5_barOf_0 : decode cX5_barOf 0 = .ok (.lconst 1, 1) := by decide +kernel
theorem dX5_barOf_1 : decode cX5_barOf 1 = .ok (.iload_n 1, 1) := by decide +kernel
theorem dX5_barOf_2 : decode cX5_barOf 2 = .ok (.lshl, 1) := by decide +kernel
theorem dX5_barOf_3 : decode cX5_barOf 3 = .ok (.lstore_n 2, 1) := by decide +kernel
theorem dX5_barOf_4 : decode cX5_barOf 4 = .ok (.aload_n 0, 1) := by decide +kernel
theorem dX5_barOf_5 : decode cX5_barOf 5 = .ok (.invokevirtual 102, 3) := by decide +kernel
theorem dX5_barOf_8 : decode cX5_barOf 8 = .ok (.lload_n 2, 1) := by decide +kernel
theorem dX5_barOf_9 : decode cX5_barOf 9 = .ok (.land, 1) := by decide +kernel
theorem dX5_barOf_10 : decode cX5_barOf 10 = .ok (.lconst 0, 1) := by decide +kernel
theorem dX5_barOf_11 : decode cX5_barOf 11 = .ok (.lcmp, 1) := by decide +kernel
theorem dX5_barOf_12 : decode cX5_barOf 12 = .ok (.ifCond .eq 5, 3) := by decide +kernel
theorem dX5_barOf_15 : decode cX5_barOf 15 = .ok (.iconst 1, 1) := by decide +kernel
theorem dX5_barOf_16 : decode cX5_barOf 16 = .ok (.ireturn, 1) := by decide +kernel
theorem dX5_barOf_17 : decode cX5_barOf 17 = .ok (.lconst 0, 1) := by decide +kernel
theorem dX5_barOf_18 : decode cX5_barOf 18 = .ok (.lstore 4, 2) := by decide +kernel
theorem dX5_barOf_20 : decode cX5_barOf 20 = .ok (.lconst 0, 1) := by decide +kernel
theorem dX5_barOf_21 : decode cX5_barOf 21 = .ok (.lstore 6, 2) := by decide +kernel
theorem dX5_barOf_23 : decode cX5_barOf 23 = .ok (.iconst 0, 1) := by decide +kernel
theorem dX5_barOf_24 : decode cX5_barOf 24 = .ok (.istore 8, 2) := by decide +kernel
theorem dX5_barOf_26 : decode cX5_barOf 26 = .ok (.iload 8, 2) := by decide +kernel
theorem dX5_barOf_28 : decode cX5_barOf 28 = .ok (.aload_n 0, 1) := by decide +kernel
theorem dX5_barOf_29 : decode cX5_barOf 29 = .ok (.getfield 52, 3) := by decide +kernel
theorem dX5_barOf_32 : decode cX5_barOf 32 = .ok (.if_icmp .ge 61, 3) := by decide +kernel
theorem dX5_barOf_35 : decode cX5_barOf 35 = .ok (.aload_n 0, 1) := by decide +kernel
theorem dX5_barOf_36 : decode cX5_barOf 36 = .ok (.getfield 23, 3) := by decide +kernel
theorem dX5_barOf_39 : decode cX5_barOf 39 = .ok (.iload 8, 2) := by decide +kernel
theorem dX5_barOf_41 : decode cX5_barOf 41 = .ok (.aaload, 1) := by decide +kernel
theorem dX5_barOf_42 : decode cX5_barOf 42 = .ok (.astore 9, 2) := by decide +kernel
theorem dX5_barOf_44 : decode cX5_barOf 44 = .ok (.aload 9, 2) := by decide +kernel
theorem dX5_barOf_46 : decode cX5_barOf 46 = .ok (.getfield 106, 3) := by decide +kernel
theorem dX5_barOf_49 : decode cX5_barOf 49 = .ok (.ifCond .ne 19, 3) := by decide +kernel
theorem dX5_barOf_52 : decode cX5_barOf 52 = .ok (.lload 4, 2) := by decide +kernel
theorem dX5_barOf_54 : decode cX5_barOf 54 = .ok (.aload 9, 2) := by decide +kernel
theorem dX5_barOf_56 : decode cX5_barOf 56 = .ok (.getfield 109, 3) := by decide +kernel
theorem dX5_barOf_59 : decode cX5_barOf 59 = .ok (.aload 9, 2) := by decide +kernel
theorem dX5_barOf_61 : decode cX5_barOf 61 = .ok (.getfield 113, 3) := by decide +kernel
theorem dX5_barOf_64 : decode cX5_barOf 64 = .ok (.lor, 1) := by decide +kernel
theorem dX5_barOf_65 : decode cX5_barOf 65 = .ok (.lor, 1) := by decide +kernel
theorem dX5_barOf_66 : decode cX5_barOf 66 = .ok (.lstore 4, 2) := by decide +kernel
theorem dX5_barOf_68 : decode cX5_barOf 68 = .ok (.aload 9, 2) := by decide +kernel
theorem dX5_barOf_70 : decode cX5_barOf 70 = .ok (.getfield 106, 3) := by decide +kernel
theorem dX5_barOf_73 : decode cX5_barOf 73 = .ok (.iconst 1, 1) := by decide +kernel
theorem dX5_barOf_74 : decode cX5_barOf 74 = .ok (.if_icmp .ne 13, 3) := by decide +kernel
theorem dX5_barOf_77 : decode cX5_barOf 77 = .ok (.lload 6, 2) := by decide +kernel
theorem dX5_barOf_79 : decode cX5_barOf 79 = .ok (.aload 9, 2) := by decide +kernel
theorem dX5_barOf_81 : decode cX5_barOf 81 = .ok (.getfield 113, 3) := by decide +kernel
theorem dX5_barOf_84 : decode cX5_barOf 84 = .ok (.lor, 1) := by decide +kernel
theorem dX5_barOf_85 : decode cX5_barOf 85 = .ok (.lstore 6, 2) := by decide +kernel
theorem dX5_barOf_87 : decode cX5_barOf 87 = .ok (.iinc 8 1, 3) := by decide +kernel
theorem dX5_barOf_90 : decode cX5_barOf 90 = .ok (.goto (-64), 3) := by decide +kernel
theorem dX5_barOf_93 : decode cX5_barOf 93 = .ok (.lload 4, 2) := by decide +kernel
theorem dX5_barOf_95 : decode cX5_barOf 95 = .ok (.lload_n 2, 1) := by decide +kernel
theorem dX5_barOf_96 : decode cX5_barOf 96 = .ok (.land, 1) := by decide +kernel
theorem dX5_barOf_97 : decode cX5_barOf 97 = .ok (.lconst 0, 1) := by decide +kernel
theorem dX5_barOf_98 : decode cX5_barOf 98 = .ok (.lcmp, 1) := by decide +kernel
theorem dX5_barOf_99 : decode cX5_barOf 99 = .ok (.ifCond .eq 5, 3) := by decide +kernel
theorem dX5_barOf_102 : decode cX5_barOf 102 = .ok (.iconst 2, 1) := by decide +kernel
theorem dX5_barOf_103 : decode cX5_barOf 103 = .ok (.ireturn, 1) := by decide +kernel
theorem dX5_barOf_104 : decode cX5_barOf 104 = .ok (.lload 6, 2) := by decide +kernel
theorem dX5_barOf_106 : decode cX5_barOf 106 = .ok (.lload_n 2, 1) := by decide +kernel
theorem dX5_barOf_107 : decode cX5_barOf 107 = .ok (.land, 1) := by decide +kernel
theorem dX5_barOf_108 : decode cX5_barOf 108 = .ok (.lconst 0, 1) := by decide +kernel
theorem dX5_barOf_109 : decode cX5_barOf 109 = .ok (.lcmp, 1) := by decide +kernel
theorem dX5_barOf_110 : decode cX5_barOf 110 = .ok (.ifCond .eq 7, 3) := by decide +kernel
theorem dX5_barOf_113 : decode cX5_barOf 113 = .ok (.iconst 3, 1) := by decide +kernel
theorem dX5_barOf_114 : decode cX5_barOf 114 = .ok (.goto 4, 3) := by decide +kernel
theorem dX5_barOf_117 : decode cX5_barOf 117 = .ok (.iconst 0, 1) := by decide +kernel
theorem dX5_barOf_118 : decode cX5_barOf 118 = .ok (.ireturn, 1) := by decide +kernel
set_option maxRecDepth 20000 in
theorem ggX5_moveRefusal_X5_hasRing : GoodIn wsX5_moveRefusal wsX5_hasRing := goodIn_r _ [12, 13, 17, 18, 19, 20, 21, 22, 23, 24, 25, 26, 27, 28] (by decide +kernel) (by decide +kernel)
set_option maxRecDepth 20000 in
theorem gX5_moveRefusal_X5_hasRing : GoodIn wsX5_moveRefusal (wsV RX5 95 RX5 yX5_hasRing wsX5_hasRing) := goodIn_app (goodIn_of _ (by decide +kernel)) ggX5_moveRefusal_X5_hasRing
set_option maxRecDepth 20000 in
theorem ggX5_moveRefusal_X7_isWithin : GoodIn wsX5_moveRefusal wsX7_isWithin := goodIn_r _ [16] (by decide +kernel) (by decide +kernel)
set_option maxRecDepth 20000 in
theorem gX5_moveRefusal_X7_isWithin_n74 : GoodIn wsX5_moveRefusal (wsX7_isWithin) := ggX5_moveRefusal_X7_isWithin
theorem dX5_moveRefusal_0 : decode cX5_moveRefusal 0 = .ok (.aload_n 0, 1) := by decide +kernel
theorem dX5_moveRefusal_1 : decode cX5_moveRefusal 1 = .ok (.iload_n 1, 1) := by decide +kernel
theorem dX5_moveRefusal_2 : decode cX5_moveRefusal 2 = .ok (.invokevirtual 95, 3) := by decide +kernel
theorem dX5_moveRefusal_5 : decode cX5_moveRefusal 5 = .ok (.ifCond .eq 11, 3) := by decide +kernel
theorem dX5_moveRefusal_8 : decode cX5_moveRefusal 8 = .ok (.aload_n 0, 1) := by decide +kernel
theorem dX5_moveRefusal_9 : decode cX5_moveRefusal 9 = .ok (.iload_n 3, 1) := by decide +kernel
theorem dX5_moveRefusal_10 : decode cX5_moveRefusal 10 = .ok (.invokevirtual 95, 3) := by decide +kernel
theorem dX5_moveRefusal_13 : decode cX5_moveRefusal 13 = .ok (.ifCond .ne 5, 3) := by decide +kernel
theorem dX5_moveRefusal_16 : decode cX5_moveRefusal 16 = .ok (.iconst 1, 1) := by decide +kernel
theorem dX5_moveRefusal_17 : decode cX5_moveRefusal 17 = .ok (.ireturn, 1) := by decide +kernel
theorem dX5_moveRefusal_18 : decode cX5_moveRefusal 18 = .ok (.iload_n 2, 1) := by decide +kernel
theorem dX5_moveRefusal_19 : decode cX5_moveRefusal 19 = .ok (.iconst 0, 1) := by decide +kernel
theorem dX5_moveRefusal_20 : decode cX5_moveRefusal 20 = .ok (.bipush 99, 2) := by decide +kernel
theorem dX5_moveRefusal_22 : decode cX5_moveRefusal 22 = .ok (.invokestatic 74, 3) := by decide +kernel
theorem dX5_moveRefusal_25 : decode cX5_moveRefusal 25 = .ok (.ifCond .eq 44, 3) := by decide +kernel
theorem dX5_moveRefusal_28 : decode cX5_moveRefusal 28 = .ok (.iload 4, 2) := by decide +kernel
theorem dX5_moveRefusal_30 : decode cX5_moveRefusal 30 = .ok (.iconst 0, 1) := by decide +kernel
theorem dX5_moveRefusal_31 : decode cX5_moveRefusal 31 = .ok (.bipush 99, 2) := by decide +kernel
theorem dX5_moveRefusal_33 : decode cX5_moveRefusal 33 = .ok (.invokestatic 74, 3) := by decide +kernel
theorem dX5_moveRefusal_36 : decode cX5_moveRefusal 36 = .ok (.ifCond .eq 33, 3) := by decide +kernel
theorem dX5_moveRefusal_39 : decode cX5_moveRefusal 39 = .ok (.iload 5, 2) := by decide +kernel
theorem dX5_moveRefusal_41 : decode cX5_moveRefusal 41 = .ok (.iconst 1, 1) := by decide +kernel
theorem dX5_moveRefusal_42 : decode cX5_moveRefusal 42 = .ok (.aload_n 0, 1) := by decide +kernel
theorem dX5_moveRefusal_43 : decode cX5_moveRefusal 43 = .ok (.getfield 17, 3) := by decide +kernel
theorem dX5_moveRefusal_46 : decode cX5_moveRefusal 46 = .ok (.iload_n 1, 1) := by decide +kernel
theorem dX5_moveRefusal_47 : decode cX5_moveRefusal 47 = .ok (.aaload, 1) := by decide +kernel
theorem dX5_moveRefusal_48 : decode cX5_moveRefusal 48 = .ok (.getfield 85, 3) := by decide +kernel
theorem dX5_moveRefusal_51 : decode cX5_moveRefusal 51 = .ok (.aload_n 0, 1) := by decide +kernel
theorem dX5_moveRefusal_52 : decode cX5_moveRefusal 52 = .ok (.getfield 17, 3) := by decide +kernel
theorem dX5_moveRefusal_55 : decode cX5_moveRefusal 55 = .ok (.iload_n 3, 1) := by decide +kernel
theorem dX5_moveRefusal_56 : decode cX5_moveRefusal 56 = .ok (.aaload, 1) := by decide +kernel
theorem dX5_moveRefusal_57 : decode cX5_moveRefusal 57 = .ok (.getfield 85, 3) := by decide +kernel
theorem dX5_moveRefusal_60 : decode cX5_moveRefusal 60 = .ok (.invokestatic 116, 3) := by decide +kernel
theorem dX5_moveRefusal_63 : decode cX5_moveRefusal 63 = .ok (.invokestatic 74, 3) := by decide +kernel
theorem dX5_moveRefusal_66 : decode cX5_moveRefusal 66 = .ok (.ifCond .ne 5, 3) := by decide +kernel
theorem dX5_moveRefusal_69 : decode cX5_moveRefusal 69 = .ok (.iconst 2, 1) := by decide +kernel
theorem dX5_moveRefusal_70 : decode cX5_moveRefusal 70 = .ok (.ireturn, 1) := by decide +kernel
theorem dX5_moveRefusal_71 : decode cX5_moveRefusal 71 = .ok (.aload_n 0, 1) := by decide +kernel
theorem dX5_moveRefusal_72 : decode cX5_moveRefusal 72 = .ok (.getfield 52, 3) := by decide +kernel
theorem dX5_moveRefusal_75 : decode cX5_moveRefusal 75 = .ok (.bipush 24, 2) := by decide +kernel
theorem dX5_moveRefusal_77 : decode cX5_moveRefusal 77 = .ok (.if_icmp .lt 7, 3) := by decide +kernel
theorem dX5_moveRefusal_80 : decode cX5_moveRefusal 80 = .ok (.iconst 3, 1) := by decide +kernel
theorem dX5_moveRefusal_81 : decode cX5_moveRefusal 81 = .ok (.goto 4, 3) := by decide +kernel
theorem dX5_moveRefusal_84 : decode cX5_moveRefusal 84 = .ok (.iconst 0, 1) := by decide +kernel
theorem dX5_moveRefusal_85 : decode cX5_moveRefusal 85 = .ok (.ireturn, 1) := by decide +kernel
set_option maxRecDepth 20000 in
theorem ggX5_putMove_X4_cellsFrom : GoodIn wsX5_putMove wsX4_cellsFrom := goodIn_r _ [20, 21, 22, 23, 19, 24, 25, 26, 52, 53, 54, 55] (by decide +kernel) (by decide +kernel)
set_option maxRecDepth 20000 in
theorem gX5_putMove_X4_cellsFrom : GoodIn wsX5_putMove (wsV RX5 137 RX4 yX4_cellsFrom wsX4_cellsFrom) := goodIn_app (goodIn_of _ (by decide +kernel)) ggX5_putMove_X4_cellsFrom
theorem dX5_putMove_0 : decode cX5_putMove 0 = .ok (.aload_n 0, 1) := by decide +kernel
theorem dX5_putMove_1 : decode cX5_putMove 1 = .ok (.getfield 23, 3) := by decide +kernel
theorem dX5_putMove_4 : decode cX5_putMove 4 = .ok (.aload_n 0, 1) := by decide +kernel
theorem dX5_putMove_5 : decode cX5_putMove 5 = .ok (.getfield 52, 3) := by decide +kernel
theorem dX5_putMove_8 : decode cX5_putMove 8 = .ok (.aaload, 1) := by decide +kernel
theorem dX5_putMove_9 : decode cX5_putMove 9 = .ok (.astore 6, 2) := by decide +kernel
theorem dX5_putMove_11 : decode cX5_putMove 11 = .ok (.aload 6, 2) := by decide +kernel
theorem dX5_putMove_13 : decode cX5_putMove 13 = .ok (.iload_n 1, 1) := by decide +kernel
theorem dX5_putMove_14 : decode cX5_putMove 14 = .ok (.putfield 122, 3) := by decide +kernel
theorem dX5_putMove_17 : decode cX5_putMove 17 = .ok (.aload 6, 2) := by decide +kernel
theorem dX5_putMove_19 : decode cX5_putMove 19 = .ok (.iload_n 2, 1) := by decide +kernel
theorem dX5_putMove_20 : decode cX5_putMove 20 = .ok (.putfield 125, 3) := by decide +kernel
theorem dX5_putMove_23 : decode cX5_putMove 23 = .ok (.aload 6, 2) := by decide +kernel
theorem dX5_putMove_25 : decode cX5_putMove 25 = .ok (.iload_n 3, 1) := by decide +kernel
theorem dX5_putMove_26 : decode cX5_putMove 26 = .ok (.putfield 128, 3) := by decide +kernel
theorem dX5_putMove_29 : decode cX5_putMove 29 = .ok (.aload 6, 2) := by decide +kernel
theorem dX5_putMove_31 : decode cX5_putMove 31 = .ok (.iload 4, 2) := by decide +kernel
theorem dX5_putMove_33 : decode cX5_putMove 33 = .ok (.putfield 131, 3) := by decide +kernel
theorem dX5_putMove_36 : decode cX5_putMove 36 = .ok (.aload 6, 2) := by decide +kernel
theorem dX5_putMove_38 : decode cX5_putMove 38 = .ok (.iload 5, 2) := by decide +kernel
theorem dX5_putMove_40 : decode cX5_putMove 40 = .ok (.putfield 134, 3) := by decide +kernel
theorem dX5_putMove_43 : decode cX5_putMove 43 = .ok (.aload 6, 2) := by decide +kernel
theorem dX5_putMove_45 : decode cX5_putMove 45 = .ok (.aload_n 0, 1) := by decide +kernel
theorem dX5_putMove_46 : decode cX5_putMove 46 = .ok (.getfield 17, 3) := by decide +kernel
theorem dX5_putMove_49 : decode cX5_putMove 49 = .ok (.iload_n 1, 1) := by decide +kernel
theorem dX5_putMove_50 : decode cX5_putMove 50 = .ok (.aaload, 1) := by decide +kernel
theorem dX5_putMove_51 : decode cX5_putMove 51 = .ok (.iload_n 2, 1) := by decide +kernel
theorem dX5_putMove_52 : decode cX5_putMove 52 = .ok (.iload 5, 2) := by decide +kernel
theorem dX5_putMove_54 : decode cX5_putMove 54 = .ok (.invokevirtual 137, 3) := by decide +kernel
theorem dX5_putMove_57 : decode cX5_putMove 57 = .ok (.putfield 109, 3) := by decide +kernel
theorem dX5_putMove_60 : decode cX5_putMove 60 = .ok (.aload 6, 2) := by decide +kernel
theorem dX5_putMove_62 : decode cX5_putMove 62 = .ok (.aload_n 0, 1) := by decide +kernel
theorem dX5_putMove_63 : decode cX5_putMove 63 = .ok (.getfield 17, 3) := by decide +kernel
theorem dX5_putMove_66 : decode cX5_putMove 66 = .ok (.iload_n 3, 1) := by decide +kernel
theorem dX5_putMove_67 : decode cX5_putMove 67 = .ok (.aaload, 1) := by decide +kernel
theorem dX5_putMove_68 : decode cX5_putMove 68 = .ok (.iload 4, 2) := by decide +kernel
theorem dX5_putMove_70 : decode cX5_putMove 70 = .ok (.iload 5, 2) := by decide +kernel
theorem dX5_putMove_72 : decode cX5_putMove 72 = .ok (.invokevirtual 137, 3) := by decide +kernel
theorem dX5_putMove_75 : decode cX5_putMove 75 = .ok (.putfield 113, 3) := by decide +kernel
theorem dX5_putMove_78 : decode cX5_putMove 78 = .ok (.aload 6, 2) := by decide +kernel
theorem dX5_putMove_80 : decode cX5_putMove 80 = .ok (.iconst 0, 1) := by decide +kernel
theorem dX5_putMove_81 : decode cX5_putMove 81 = .ok (.putfield 106, 3) := by decide +kernel
theorem dX5_putMove_84 : decode cX5_putMove 84 = .ok (.aload 6, 2) := by decide +kernel
theorem dX5_putMove_86 : decode cX5_putMove 86 = .ok (.iconst 0, 1) := by decide +kernel
theorem dX5_putMove_87 : decode cX5_putMove 87 = .ok (.putfield 141, 3) := by decide +kernel
theorem dX5_putMove_90 : decode cX5_putMove 90 = .ok (.aload 6, 2) := by decide +kernel
theorem dX5_putMove_92 : decode cX5_putMove 92 = .ok (.sipush (-1000), 3) := by decide +kernel
theorem dX5_putMove_95 : decode cX5_putMove 95 = .ok (.putfield 144, 3) := by decide +kernel
theorem dX5_putMove_98 : decode cX5_putMove 98 = .ok (.aload 6, 2) := by decide +kernel
theorem dX5_putMove_100 : decode cX5_putMove 100 = .ok (.sipush (-1000), 3) := by decide +kernel
theorem dX5_putMove_103 : decode cX5_putMove 103 = .ok (.putfield 147, 3) := by decide +kernel
theorem dX5_putMove_106 : decode cX5_putMove 106 = .ok (.aload 6, 2) := by decide +kernel
theorem dX5_putMove_108 : decode cX5_putMove 108 = .ok (.sipush (-1000), 3) := by decide +kernel
theorem dX5_putMove_111 : decode cX5_putMove 111 = .ok (.putfield 150, 3) := by decide +kernel
theorem dX5_putMove_114 : decode cX5_putMove 114 = .ok (.aload_n 0, 1) := by decide +kernel
theorem dX5_putMove_115 : decode cX5_putMove 115 = .ok (.dup, 1) := by decide +kernel
theorem dX5_putMove_116 : decode cX5_putMove 116 = .ok (.getfield 52, 3) := by decide +kernel
theorem dX5_putMove_119 : decode cX5_putMove 119 = .ok (.iconst 1, 1) := by decide +kernel
theorem dX5_putMove_120 : decode cX5_putMove 120 = .ok (.iadd, 1) := by decide +kernel
theorem dX5_putMove_121 : decode cX5_putMove 121 = .ok (.putfield 52, 3) := by decide +kernel
theorem dX5_putMove_124 : decode cX5_putMove 124 = .ok (.aload_n 0, 1) := by decide +kernel
theorem dX5_putMove_125 : decode cX5_putMove 125 = .ok (.getfield 52, 3) := by decide +kernel
theorem dX5_putMove_128 : decode cX5_putMove 128 = .ok (.iconst 1, 1) := by decide +kernel
theorem dX5_putMove_129 : decode cX5_putMove 129 = .ok (.isub, 1) := by decide +kernel
theorem dX5_putMove_130 : decode cX5_putMove 130 = .ok (.ireturn, 1) := by decide +kernel
set_option maxRecDepth 20000 in
theorem ggX5_signRefusal_X5_hasRing : GoodIn wsX5_signRefusal wsX5_hasRing := goodIn_r _ [7, 8, 20, 21, 22, 23, 24, 25, 26, 27, 28, 29, 30, 31] (by decide +kernel) (by decide +kernel)
set_option maxRecDepth 20000 in
theorem gX5_signRefusal_X5_hasRing : GoodIn wsX5_signRefusal (wsV RX5 95 RX5 yX5_hasRing wsX5_hasRing) := goodIn_app (goodIn_of _ (by decide +kernel)) ggX5_signRefusal_X5_hasRing
set_option maxRecDepth 20000 in
theorem ggX5_signRefusal_X5_countCopiedTo : GoodIn wsX5_signRefusal wsX5_countCopiedTo := goodIn_r _ [12, 13, 14, 15, 16, 6, 17, 18, 19, 20, 21, 22, 23, 24, 25, 26, 27, 28, 29, 30, 31, 36, 37, 38, 39, 40, 41, 42, 43, 44, 45, 46, 47, 48] (by decide +kernel) (by decide +kernel)
set_option maxRecDepth 20000 in
theorem gX5_signRefusal_X5_countCopiedTo : GoodIn wsX5_signRefusal (wsV RX5 153 RX5 yX5_countCopiedTo wsX5_countCopiedTo) := goodIn_app (goodIn_of _ (by decide +kernel)) ggX5_signRefusal_X5_countCopiedTo
theorem dX5_signRefusal_0 : decode cX5_signRefusal 0 = .ok (.aload_n 0, 1) := by decide +kernel
theorem dX5_signRefusal_1 : decode cX5_signRefusal 1 = .ok (.iload_n 1, 1) := by decide +kernel
theorem dX5_signRefusal_2 : decode cX5_signRefusal 2 = .ok (.invokevirtual 95, 3) := by decide +kernel
theorem dX5_signRefusal_5 : decode cX5_signRefusal 5 = .ok (.ifCond .ne 5, 3) := by decide +kernel
theorem dX5_signRefusal_8 : decode cX5_signRefusal 8 = .ok (.iconst 1, 1) := by decide +kernel
theorem dX5_signRefusal_9 : decode cX5_signRefusal 9 = .ok (.ireturn, 1) := by decide +kernel
theorem dX5_signRefusal_10 : decode cX5_signRefusal 10 = .ok (.aload_n 0, 1) := by decide +kernel
theorem dX5_signRefusal_11 : decode cX5_signRefusal 11 = .ok (.getfield 17, 3) := by decide +kernel
theorem dX5_signRefusal_14 : decode cX5_signRefusal 14 = .ok (.iload_n 1, 1) := by decide +kernel
theorem dX5_signRefusal_15 : decode cX5_signRefusal 15 = .ok (.aaload, 1) := by decide +kernel
theorem dX5_signRefusal_16 : decode cX5_signRefusal 16 = .ok (.getfield 91, 3) := by decide +kernel
theorem dX5_signRefusal_19 : decode cX5_signRefusal 19 = .ok (.ifCond .ne 11, 3) := by decide +kernel
theorem dX5_signRefusal_22 : decode cX5_signRefusal 22 = .ok (.aload_n 0, 1) := by decide +kernel
theorem dX5_signRefusal_23 : decode cX5_signRefusal 23 = .ok (.iload_n 1, 1) := by decide +kernel
theorem dX5_signRefusal_24 : decode cX5_signRefusal 24 = .ok (.invokevirtual 153, 3) := by decide +kernel
theorem dX5_signRefusal_27 : decode cX5_signRefusal 27 = .ok (.ifCond .ne 7, 3) := by decide +kernel
theorem dX5_signRefusal_30 : decode cX5_signRefusal 30 = .ok (.iconst 3, 1) := by decide +kernel
theorem dX5_signRefusal_31 : decode cX5_signRefusal 31 = .ok (.goto 4, 3) := by decide +kernel
theorem dX5_signRefusal_34 : decode cX5_signRefusal 34 = .ok (.iconst 0, 1) := by decide +kernel
theorem dX5_signRefusal_35 : decode cX5_signRefusal 35 = .ok (.ireturn, 1) := by decide +kernel
set_option maxRecDepth 20000 in
theorem ggX5_signFirst_X5_isCopiedTo : GoodIn wsX5_signFirst wsX5_isCopiedTo := goodIn_r _ [6, 7, 8, 28, 29, 30, 31, 32, 33, 34, 35, 36, 37, 38, 39, 40] (by decide +kernel) (by decide +kernel)
set_option maxRecDepth 20000 in
theorem gX5_signFirst_X5_isCopiedTo : GoodIn wsX5_signFirst (va_wsS RX5 156 yX5_isCopiedTo wsX5_isCopiedTo) := goodIn_app (goodIn_of _ (by decide +kernel)) ggX5_signFirst_X5_isCopiedTo
set_option maxRecDepth 20000 in
theorem ggX5_signFirst_X5_markSigned : GoodIn wsX5_signFirst wsX5_markSigned := goodIn_r _ [12, 7, 13, 14, 15, 28, 29, 30, 31, 32, 33, 34, 35, 36, 37, 38, 39, 40, 16, 17, 18, 19, 20, 21, 22, 23, 24, 25, 26, 27] (by decide +kernel) (by decide +kernel)
set_option maxRecDepth 20000 in
theorem gX5_signFirst_X5_markSigned : GoodIn wsX5_signFirst (wsV RX5 160 RX5 yX5_markSigned wsX5_markSigned) := goodIn_app (goodIn_of _ (by decide +kernel)) ggX5_signFirst_X5_markSigned
theorem dX5_signFirst_0 : decode cX5_signFirst 0 = .ok (.iconst 0, 1) := by decide +kernel
theorem dX5_signFirst_1 : decode cX5_signFirst 1 = .ok (.istore_n 2, 1) := by decide +kernel
theorem dX5_signFirst_2 : decode cX5_signFirst 2 = .ok (.iload_n 2, 1) := by decide +kernel
theorem dX5_signFirst_3 : decode cX5_signFirst 3 = .ok (.aload_n 0, 1) := by decide +kernel
theorem dX5_signFirst_4 : decode cX5_signFirst 4 = .ok (.getfield 52, 3) := by decide +kernel
theorem dX5_signFirst_7 : decode cX5_signFirst 7 = .ok (.if_icmp .ge 34, 3) := by decide +kernel
theorem dX5_signFirst_10 : decode cX5_signFirst 10 = .ok (.aload_n 0, 1) := by decide +kernel
theorem dX5_signFirst_11 : decode cX5_signFirst 11 = .ok (.getfield 23, 3) := by decide +kernel
theorem dX5_signFirst_14 : decode cX5_signFirst 14 = .ok (.iload_n 2, 1) := by decide +kernel
theorem dX5_signFirst_15 : decode cX5_signFirst 15 = .ok (.aaload, 1) := by decide +kernel
theorem dX5_signFirst_16 : decode cX5_signFirst 16 = .ok (.iload_n 1, 1) := by decide +kernel
theorem dX5_signFirst_17 : decode cX5_signFirst 17 = .ok (.invokestatic 156, 3) := by decide +kernel
theorem dX5_signFirst_20 : decode cX5_signFirst 20 = .ok (.ifCond .eq 15, 3) := by decide +kernel
theorem dX5_signFirst_23 : decode cX5_signFirst 23 = .ok (.aload_n 0, 1) := by decide +kernel
theorem dX5_signFirst_24 : decode cX5_signFirst 24 = .ok (.aload_n 0, 1) := by decide +kernel
theorem dX5_signFirst_25 : decode cX5_signFirst 25 = .ok (.getfield 23, 3) := by decide +kernel
theorem dX5_signFirst_28 : decode cX5_signFirst 28 = .ok (.iload_n 2, 1) := by decide +kernel
theorem dX5_signFirst_29 : decode cX5_signFirst 29 = .ok (.aaload, 1) := by decide +kernel
theorem dX5_signFirst_30 : decode cX5_signFirst 30 = .ok (.invokevirtual 160, 3) := by decide +kernel
theorem dX5_signFirst_33 : decode cX5_signFirst 33 = .ok (.iload_n 2, 1) := by decide +kernel
theorem dX5_signFirst_34 : decode cX5_signFirst 34 = .ok (.ireturn, 1) := by decide +kernel
theorem dX5_signFirst_35 : decode cX5_signFirst 35 = .ok (.iinc 2 1, 3) := by decide +kernel
theorem dX5_signFirst_38 : decode cX5_signFirst 38 = .ok (.goto (-36), 3) := by decide +kernel
theorem dX5_signFirst_41 : decode cX5_signFirst 41 = .ok (.sipush (-1000), 3) := by decide +kernel
theorem dX5_signFirst_44 : decode cX5_signFirst 44 = .ok (.ireturn, 1) := by decide +kernel
set_option maxRecDepth 20000 in
theorem ggX5_strikeRefusal_X5_hasRing : GoodIn wsX5_strikeRefusal wsX5_hasRing := goodIn_r _ [7, 8, 9, 10, 11, 12, 13, 14, 15, 16, 17, 18, 19, 20] (by decide +kernel) (by decide +kernel)
set_option maxRecDepth 20000 in
theorem gX5_strikeRefusal_X5_hasRing : GoodIn wsX5_strikeRefusal (wsV RX5 95 RX5 yX5_hasRing wsX5_hasRing) := goodIn_app (goodIn_of _ (by decide +kernel)) ggX5_strikeRefusal_X5_hasRing
theorem dX5_strikeRefusal_0 : decode cX5_strikeRefusal 0 = .ok (.aload_n 0, 1) := by decide +kernel
theorem dX5_strikeRefusal_1 : decode cX5_strikeRefusal 1 = .ok (.iload_n 1, 1) := by decide +kernel
theorem dX5_strikeRefusal_2 : decode cX5_strikeRefusal 2 = .ok (.invokevirtual 95, 3) := by decide +kernel
theorem dX5_strikeRefusal_5 : decode cX5_strikeRefusal 5 = .ok (.ifCond .ne 5, 3) := by decide +kernel
theorem dX5_strikeRefusal_8 : decode cX5_strikeRefusal 8 = .ok (.iconst 1, 1) := by decide +kernel
theorem dX5_strikeRefusal_9 : decode cX5_strikeRefusal 9 = .ok (.ireturn, 1) := by decide +kernel
theorem dX5_strikeRefusal_10 : decode cX5_strikeRefusal 10 = .ok (.aload_n 0, 1) := by decide +kernel
theorem dX5_strikeRefusal_11 : decode cX5_strikeRefusal 11 = .ok (.getfield 17, 3) := by decide +kernel
theorem dX5_strikeRefusal_14 : decode cX5_strikeRefusal 14 = .ok (.iload_n 1, 1) := by decide +kernel
theorem dX5_strikeRefusal_15 : decode cX5_strikeRefusal 15 = .ok (.aaload, 1) := by decide +kernel
theorem dX5_strikeRefusal_16 : decode cX5_strikeRefusal 16 = .ok (.getfield 91, 3) := by decide +kernel
theorem dX5_strikeRefusal_19 : decode cX5_strikeRefusal 19 = .ok (.iload_n 2, 1) := by decide +kernel
theorem dX5_strikeRefusal_20 : decode cX5_strikeRefusal 20 = .ok (.if_icmp .ne 7, 3) := by decide +kernel
theorem dX5_strikeRefusal_23 : decode cX5_strikeRefusal 23 = .ok (.iconst 3, 1) := by decide +kernel
theorem dX5_strikeRefusal_24 : decode cX5_strikeRefusal 24 = .ok (.goto 4, 3) := by decide +kernel
theorem dX5_strikeRefusal_27 : decode cX5_strikeRefusal 27 = .ok (.iconst 0, 1) := by decide +kernel
theorem dX5_strikeRefusal_28 : decode cX5_strikeRefusal 28 = .ok (.ireturn, 1) := by decide +kernel
set_option maxRecDepth 20000 in
theorem ggX5_putStrike_X5_countCopiedTo : GoodIn wsX5_putStrike wsX5_countCopiedTo := goodIn_r _ [7, 8, 9, 10, 11, 6, 12, 13, 14, 15, 16, 17, 18, 19, 20, 21, 22, 23, 24, 25, 26, 31, 32, 33, 34, 35, 36, 37, 38, 39, 40, 41, 42, 43] (by decide +kernel) (by decide +kernel)
set_option maxRecDepth 20000 in
theorem gX5_putStrike_X5_countCopiedTo : GoodIn wsX5_putStrike (wsV RX5 153 RX5 yX5_countCopiedTo wsX5_countCopiedTo) := goodIn_app (goodIn_of _ (by decide +kernel)) ggX5_putStrike_X5_countCopiedTo
theorem dX5_putStrike_0 : decode cX5_putStrike 0 = .ok (.aload_n 0, 1) := by decide +kernel
theorem dX5_putStrike_1 : decode cX5_putStrike 1 = .ok (.getfield 17, 3) := by decide +kernel
theorem dX5_putStrike_4 : decode cX5_putStrike 4 = .ok (.iload_n 1, 1) := by decide +kernel
theorem dX5_putStrike_5 : decode cX5_putStrike 5 = .ok (.aaload, 1) := by decide +kernel
theorem dX5_putStrike_6 : decode cX5_putStrike 6 = .ok (.iload_n 2, 1) := by decide +kernel
theorem dX5_putStrike_7 : decode cX5_putStrike 7 = .ok (.putfield 91, 3) := by decide +kernel
theorem dX5_putStrike_10 : decode cX5_putStrike 10 = .ok (.aload_n 0, 1) := by decide +kernel
theorem dX5_putStrike_11 : decode cX5_putStrike 11 = .ok (.iload_n 1, 1) := by decide +kernel
theorem dX5_putStrike_12 : decode cX5_putStrike 12 = .ok (.invokevirtual 153, 3) := by decide +kernel
theorem dX5_putStrike_15 : decode cX5_putStrike 15 = .ok (.ireturn, 1) := by decide +kernel
set_option maxRecDepth 20000 in
theorem ggX5_passRefusal_X7_isWithin : GoodIn wsX5_passRefusal wsX7_isWithin := goodIn_r _ [4] (by decide +kernel) (by decide +kernel)
set_option maxRecDepth 20000 in
theorem gX5_passRefusal_X7_isWithin_n74 : GoodIn wsX5_passRefusal (wsX7_isWithin) := ggX5_passRefusal_X7_isWithin
theorem dX5_passRefusal_0 : decode cX5_passRefusal 0 = .ok (.iload_n 1, 1) := by decide +kernel
theorem dX5_passRefusal_1 : decode cX5_passRefusal 1 = .ok (.iconst 1, 1) := by decide +kernel
theorem dX5_passRefusal_2 : decode cX5_passRefusal 2 = .ok (.bipush 50, 2) := by decide +kernel
theorem dX5_passRefusal_4 : decode cX5_passRefusal 4 = .ok (.invokestatic 74, 3) := by decide +kernel
theorem dX5_passRefusal_7 : decode cX5_passRefusal 7 = .ok (.ifCond .ne 5, 3) := by decide +kernel
theorem dX5_passRefusal_10 : decode cX5_passRefusal 10 = .ok (.iconst 2, 1) := by decide +kernel
theorem dX5_passRefusal_11 : decode cX5_passRefusal 11 = .ok (.ireturn, 1) := by decide +kernel
theorem dX5_passRefusal_12 : decode cX5_passRefusal 12 = .ok (.aload_n 0, 1) := by decide +kernel
theorem dX5_passRefusal_13 : decode cX5_passRefusal 13 = .ok (.getfield 58, 3) := by decide +kernel
theorem dX5_passRefusal_16 : decode cX5_passRefusal 16 = .ok (.iload_n 1, 1) := by decide +kernel
theorem dX5_passRefusal_17 : decode cX5_passRefusal 17 = .ok (.iadd, 1) := by decide +kernel
theorem dX5_passRefusal_18 : decode cX5_passRefusal 18 = .ok (.sipush 9999, 3) := by decide +kernel
theorem dX5_passRefusal_21 : decode cX5_passRefusal 21 = .ok (.if_icmp .le 7, 3) := by decide +kernel
theorem dX5_passRefusal_24 : decode cX5_passRefusal 24 = .ok (.iconst 3, 1) := by decide +kernel
theorem dX5_passRefusal_25 : decode cX5_passRefusal 25 = .ok (.goto 4, 3) := by decide +kernel
theorem dX5_passRefusal_28 : decode cX5_passRefusal 28 = .ok (.iconst 0, 1) := by decide +kernel
theorem dX5_passRefusal_29 : decode cX5_passRefusal 29 = .ok (.ireturn, 1) := by decide +kernel
set_option maxRecDepth 20000 in
theorem ggX5_letPass_X5_passTick : GoodIn wsX5_letPass wsX5_passTick := goodIn_r _ [6, 7, 8, 9, 10, 11, 12, 13, 14, 15, 16, 17, 5, 18, 19, 20, 21, 22, 23, 24, 25, 26, 27, 28, 29, 30, 31, 32, 33, 34, 35, 36, 37, 38, 39, 40, 41, 42, 43, 44, 45, 46, 47, 48, 49, 50, 51, 52, 53, 54, 55, 56, 57, 58, 59, 60, 61, 62, 63, 64, 65, 66, 67, 68, 69, 70, 71, 72, 73, 74, 75, 76, 77, 78, 1, 79, 80, 81, 82, 83, 84, 85, 86, 87, 88, 89, 90, 91, 92, 93, 94, 95, 96, 97, 98, 99, 100, 101, 102, 103, 104, 105, 106, 107] (by decide +kernel) (by decide +kernel)
set_option maxRecDepth 20000 in
theorem gX5_letPass_X5_passTick : GoodIn wsX5_letPass (wsV RX5 163 RX5 yX5_passTick wsX5_passTick) := goodIn_app (goodIn_of _ (by decide +kernel)) ggX5_letPass_X5_passTick
theorem dX5_letPass_0 : decode cX5_letPass 0 = .ok (.aload_n 0, 1) := by decide +kernel
theorem dX5_letPass_1 : decode cX5_letPass 1 = .ok (.getfield 61, 3) := by decide +kernel
theorem dX5_letPass_4 : decode cX5_letPass 4 = .ok (.istore_n 2, 1) := by decide +kernel
theorem dX5_letPass_5 : decode cX5_letPass 5 = .ok (.iconst 0, 1) := by decide +kernel
theorem dX5_letPass_6 : decode cX5_letPass 6 = .ok (.istore_n 3, 1) := by decide +kernel
theorem dX5_letPass_7 : decode cX5_letPass 7 = .ok (.iload_n 3, 1) := by decide +kernel
theorem dX5_letPass_8 : decode cX5_letPass 8 = .ok (.iload_n 1, 1) := by decide +kernel
theorem dX5_letPass_9 : decode cX5_letPass 9 = .ok (.if_icmp .ge 13, 3) := by decide +kernel
theorem dX5_letPass_12 : decode cX5_letPass 12 = .ok (.aload_n 0, 1) := by decide +kernel
theorem dX5_letPass_13 : decode cX5_letPass 13 = .ok (.invokevirtual 163, 3) := by decide +kernel
theorem dX5_letPass_16 : decode cX5_letPass 16 = .ok (.iinc 3 1, 3) := by decide +kernel
theorem dX5_letPass_19 : decode cX5_letPass 19 = .ok (.goto (-12), 3) := by decide +kernel
theorem dX5_letPass_22 : decode cX5_letPass 22 = .ok (.aload_n 0, 1) := by decide +kernel
theorem dX5_letPass_23 : decode cX5_letPass 23 = .ok (.getfield 61, 3) := by decide +kernel
theorem dX5_letPass_26 : decode cX5_letPass 26 = .ok (.iload_n 2, 1) := by decide +kernel
theorem dX5_letPass_27 : decode cX5_letPass 27 = .ok (.isub, 1) := by decide +kernel
theorem dX5_letPass_28 : decode cX5_letPass 28 = .ok (.ireturn, 1) := by decide +kernel
set_option maxRecDepth 20000 in
theorem ggX5_passTick_X5_signPatiently : GoodIn wsX5_passTick wsX5_signPatiently := goodIn_r _ [13, 5, 6, 8, 14, 15, 16, 12, 17, 18, 19, 20, 21, 22, 23, 24, 25, 75, 76, 77, 78, 79, 80, 81, 82, 83, 84, 85, 86, 91, 92, 93, 94, 95, 96, 97, 98, 99, 100, 101, 102, 103] (by decide +kernel) (by decide +kernel)
set_option maxRecDepth 20000 in
theorem gX5_passTick_X5_signPatiently : GoodIn wsX5_passTick (wsV RX5 166 RX5 yX5_signPatiently wsX5_signPatiently) := goodIn_app (goodIn_of _ (by decide +kernel)) ggX5_passTick_X5_signPatiently
set_option maxRecDepth 20000 in
theorem ggX5_passTick_X5_startMoves : GoodIn wsX5_passTick wsX5_startMoves := goodIn_r _ [29, 5, 6, 30, 18, 31, 32, 33, 12, 34, 35, 36, 37, 38, 39, 40, 41, 42, 43, 44, 45, 46, 47, 48, 49, 50, 2, 51, 52, 53, 54, 55, 8, 56, 57, 58, 59, 60, 61, 62, 63, 75, 76, 77, 78, 79, 80, 81, 82, 83, 84, 85, 86, 91, 92, 93, 94, 95, 96, 97, 98, 99, 100, 101, 102, 103, 87, 88, 89, 90] (by decide +kernel) (by decide +kernel)
set_option maxRecDepth 20000 in
theorem gX5_passTick_X5_startMoves : GoodIn wsX5_passTick (wsV RX5 170 RX5 yX5_startMoves wsX5_startMoves) := goodIn_app (goodIn_of _ (by decide +kernel)) ggX5_passTick_X5_startMoves
set_option maxRecDepth 20000 in
theorem ggX5_passTick_X5_copyOn : GoodIn wsX5_passTick wsX5_copyOn := goodIn_r _ [67, 18, 2, 19, 52, 68, 69, 70, 71, 72, 54, 73, 53, 8, 14, 74, 57, 58, 59, 60, 61, 62, 63, 91, 92, 93, 94, 95, 96, 97, 98, 99, 100, 101, 102, 103, 75, 76, 77, 78, 79, 80, 81, 82, 83, 84, 85, 86, 87, 88, 89, 90] (by decide +kernel) (by decide +kernel)
set_option maxRecDepth 20000 in
theorem gX5_passTick_X5_copyOn : GoodIn wsX5_passTick (wsV RX5 173 RX5 yX5_copyOn wsX5_copyOn) := goodIn_app (goodIn_of _ (by decide +kernel)) ggX5_passTick_X5_copyOn
theorem dX5_passTick_0 : decode cX5_passTick 0 = .ok (.iconst 0, 1) := by decide +kernel
theorem dX5_passTick_1 : decode cX5_passTick 1 = .ok (.istore_n 1, 1) := by decide +kernel
theorem dX5_passTick_2 : decode cX5_passTick 2 = .ok (.iload_n 1, 1) := by decide +kernel
theorem dX5_passTick_3 : decode cX5_passTick 3 = .ok (.aload_n 0, 1) := by decide +kernel
theorem dX5_passTick_4 : decode cX5_passTick 4 = .ok (.getfield 45, 3) := by decide +kernel
theorem dX5_passTick_7 : decode cX5_passTick 7 = .ok (.if_icmp .ge 47, 3) := by decide +kernel
theorem dX5_passTick_10 : decode cX5_passTick 10 = .ok (.aload_n 0, 1) := by decide +kernel
theorem dX5_passTick_11 : decode cX5_passTick 11 = .ok (.getfield 17, 3) := by decide +kernel
theorem dX5_passTick_14 : decode cX5_passTick 14 = .ok (.iload_n 1, 1) := by decide +kernel
theorem dX5_passTick_15 : decode cX5_passTick 15 = .ok (.aaload, 1) := by decide +kernel
theorem dX5_passTick_16 : decode cX5_passTick 16 = .ok (.getfield 91, 3) := by decide +kernel
theorem dX5_passTick_19 : decode cX5_passTick 19 = .ok (.ifCond .ne 29, 3) := by decide +kernel
theorem dX5_passTick_22 : decode cX5_passTick 22 = .ok (.aload_n 0, 1) := by decide +kernel
theorem dX5_passTick_23 : decode cX5_passTick 23 = .ok (.getfield 17, 3) := by decide +kernel
theorem dX5_passTick_26 : decode cX5_passTick 26 = .ok (.iload_n 1, 1) := by decide +kernel
theorem dX5_passTick_27 : decode cX5_passTick 27 = .ok (.aaload, 1) := by decide +kernel
theorem dX5_passTick_28 : decode cX5_passTick 28 = .ok (.getfield 88, 3) := by decide +kernel
theorem dX5_passTick_31 : decode cX5_passTick 31 = .ok (.ifCond .le 17, 3) := by decide +kernel
theorem dX5_passTick_34 : decode cX5_passTick 34 = .ok (.aload_n 0, 1) := by decide +kernel
theorem dX5_passTick_35 : decode cX5_passTick 35 = .ok (.iload_n 1, 1) := by decide +kernel
theorem dX5_passTick_36 : decode cX5_passTick 36 = .ok (.aload_n 0, 1) := by decide +kernel
theorem dX5_passTick_37 : decode cX5_passTick 37 = .ok (.getfield 17, 3) := by decide +kernel
theorem dX5_passTick_40 : decode cX5_passTick 40 = .ok (.iload_n 1, 1) := by decide +kernel
theorem dX5_passTick_41 : decode cX5_passTick 41 = .ok (.aaload, 1) := by decide +kernel
theorem dX5_passTick_42 : decode cX5_passTick 42 = .ok (.getfield 88, 3) := by decide +kernel
theorem dX5_passTick_45 : decode cX5_passTick 45 = .ok (.invokevirtual 166, 3) := by decide +kernel
theorem dX5_passTick_48 : decode cX5_passTick 48 = .ok (.iinc 1 1, 3) := by decide +kernel
theorem dX5_passTick_51 : decode cX5_passTick 51 = .ok (.goto (-49), 3) := by decide +kernel
theorem dX5_passTick_54 : decode cX5_passTick 54 = .ok (.aload_n 0, 1) := by decide +kernel
theorem dX5_passTick_55 : decode cX5_passTick 55 = .ok (.invokevirtual 170, 3) := by decide +kernel
theorem dX5_passTick_58 : decode cX5_passTick 58 = .ok (.iconst 0, 1) := by decide +kernel
theorem dX5_passTick_59 : decode cX5_passTick 59 = .ok (.istore_n 1, 1) := by decide +kernel
theorem dX5_passTick_60 : decode cX5_passTick 60 = .ok (.iload_n 1, 1) := by decide +kernel
theorem dX5_passTick_61 : decode cX5_passTick 61 = .ok (.aload_n 0, 1) := by decide +kernel
theorem dX5_passTick_62 : decode cX5_passTick 62 = .ok (.getfield 52, 3) := by decide +kernel
theorem dX5_passTick_65 : decode cX5_passTick 65 = .ok (.if_icmp .ge 23, 3) := by decide +kernel
theorem dX5_passTick_68 : decode cX5_passTick 68 = .ok (.aload_n 0, 1) := by decide +kernel
theorem dX5_passTick_69 : decode cX5_passTick 69 = .ok (.aload_n 0, 1) := by decide +kernel
theorem dX5_passTick_70 : decode cX5_passTick 70 = .ok (.getfield 23, 3) := by decide +kernel
theorem dX5_passTick_73 : decode cX5_passTick 73 = .ok (.iload_n 1, 1) := by decide +kernel
theorem dX5_passTick_74 : decode cX5_passTick 74 = .ok (.aaload, 1) := by decide +kernel
theorem dX5_passTick_75 : decode cX5_passTick 75 = .ok (.aload_n 0, 1) := by decide +kernel
theorem dX5_passTick_76 : decode cX5_passTick 76 = .ok (.getfield 30, 3) := by decide +kernel
theorem dX5_passTick_79 : decode cX5_passTick 79 = .ok (.invokevirtual 173, 3) := by decide +kernel
theorem dX5_passTick_82 : decode cX5_passTick 82 = .ok (.iinc 1 1, 3) := by decide +kernel
theorem dX5_passTick_85 : decode cX5_passTick 85 = .ok (.goto (-25), 3) := by decide +kernel
theorem dX5_passTick_88 : decode cX5_passTick 88 = .ok (.aload_n 0, 1) := by decide +kernel
theorem dX5_passTick_89 : decode cX5_passTick 89 = .ok (.dup, 1) := by decide +kernel
theorem dX5_passTick_90 : decode cX5_passTick 90 = .ok (.getfield 58, 3) := by decide +kernel
theorem dX5_passTick_93 : decode cX5_passTick 93 = .ok (.iconst 1, 1) := by decide +kernel
theorem dX5_passTick_94 : decode cX5_passTick 94 = .ok (.iadd, 1) := by decide +kernel
theorem dX5_passTick_95 : decode cX5_passTick 95 = .ok (.putfield 58, 3) := by decide +kernel
theorem dX5_passTick_98 : decode cX5_passTick 98 = .ok (.return_, 1) := by decide +kernel
set_option maxRecDepth 20000 in
theorem ggX5_signPatiently_X5_isCopiedTo : GoodIn wsX5_signPatiently wsX5_isCopiedTo := goodIn_r _ [8, 9, 10, 29, 30, 31, 32, 33, 34, 35, 36, 37, 38, 39, 40, 41] (by decide +kernel) (by decide +kernel)
set_option maxRecDepth 20000 in
theorem gX5_signPatiently_X5_isCopiedTo : GoodIn wsX5_signPatiently (va_wsS RX5 156 yX5_isCopiedTo wsX5_isCopiedTo) := goodIn_app (goodIn_of _ (by decide +kernel)) ggX5_signPatiently_X5_isCopiedTo
set_option maxRecDepth 20000 in
theorem ggX5_signPatiently_X5_markSigned : GoodIn wsX5_signPatiently wsX5_markSigned := goodIn_r _ [14, 9, 3, 15, 16, 29, 30, 31, 32, 33, 34, 35, 36, 37, 38, 39, 40, 41, 17, 18, 19, 20, 21, 22, 23, 24, 25, 26, 27, 28] (by decide +kernel) (by decide +kernel)
set_option maxRecDepth 20000 in
theorem gX5_signPatiently_X5_markSigned : GoodIn wsX5_signPatiently (wsV RX5 160 RX5 yX5_markSigned wsX5_markSigned) := goodIn_app (goodIn_of _ (by decide +kernel)) ggX5_signPatiently_X5_markSigned
theorem dX5_signPatiently_0 : decode cX5_signPatiently 0 = .ok (.iconst 0, 1) := by decide +kernel
theorem dX5_signPatiently_1 : decode cX5_signPatiently 1 = .ok (.istore_n 3, 1) := by decide +kernel
theorem dX5_signPatiently_2 : decode cX5_signPatiently 2 = .ok (.iload_n 3, 1) := by decide +kernel
theorem dX5_signPatiently_3 : decode cX5_signPatiently 3 = .ok (.aload_n 0, 1) := by decide +kernel
theorem dX5_signPatiently_4 : decode cX5_signPatiently 4 = .ok (.getfield 52, 3) := by decide +kernel
theorem dX5_signPatiently_7 : decode cX5_signPatiently 7 = .ok (.if_icmp .ge 46, 3) := by decide +kernel
theorem dX5_signPatiently_10 : decode cX5_signPatiently 10 = .ok (.aload_n 0, 1) := by decide +kernel
theorem dX5_signPatiently_11 : decode cX5_signPatiently 11 = .ok (.getfield 23, 3) := by decide +kernel
theorem dX5_signPatiently_14 : decode cX5_signPatiently 14 = .ok (.iload_n 3, 1) := by decide +kernel
theorem dX5_signPatiently_15 : decode cX5_signPatiently 15 = .ok (.aaload, 1) := by decide +kernel
theorem dX5_signPatiently_16 : decode cX5_signPatiently 16 = .ok (.astore 4, 2) := by decide +kernel
theorem dX5_signPatiently_18 : decode cX5_signPatiently 18 = .ok (.aload 4, 2) := by decide +kernel
theorem dX5_signPatiently_20 : decode cX5_signPatiently 20 = .ok (.iload_n 1, 1) := by decide +kernel
theorem dX5_signPatiently_21 : decode cX5_signPatiently 21 = .ok (.invokestatic 156, 3) := by decide +kernel
theorem dX5_signPatiently_24 : decode cX5_signPatiently 24 = .ok (.ifCond .eq 23, 3) := by decide +kernel
theorem dX5_signPatiently_27 : decode cX5_signPatiently 27 = .ok (.aload_n 0, 1) := by decide +kernel
theorem dX5_signPatiently_28 : decode cX5_signPatiently 28 = .ok (.getfield 58, 3) := by decide +kernel
theorem dX5_signPatiently_31 : decode cX5_signPatiently 31 = .ok (.aload 4, 2) := by decide +kernel
theorem dX5_signPatiently_33 : decode cX5_signPatiently 33 = .ok (.getfield 147, 3) := by decide +kernel
theorem dX5_signPatiently_36 : decode cX5_signPatiently 36 = .ok (.isub, 1) := by decide +kernel
theorem dX5_signPatiently_37 : decode cX5_signPatiently 37 = .ok (.iload_n 2, 1) := by decide +kernel
theorem dX5_signPatiently_38 : decode cX5_signPatiently 38 = .ok (.if_icmp .lt 9, 3) := by decide +kernel
theorem dX5_signPatiently_41 : decode cX5_signPatiently 41 = .ok (.aload_n 0, 1) := by decide +kernel
theorem dX5_signPatiently_42 : decode cX5_signPatiently 42 = .ok (.aload 4, 2) := by decide +kernel
theorem dX5_signPatiently_44 : decode cX5_signPatiently 44 = .ok (.invokevirtual 160, 3) := by decide +kernel
theorem dX5_signPatiently_47 : decode cX5_signPatiently 47 = .ok (.iinc 3 1, 3) := by decide +kernel
theorem dX5_signPatiently_50 : decode cX5_signPatiently 50 = .ok (.goto (-48), 3) := by decide +kernel
theorem dX5_signPatiently_53 : decode cX5_signPatiently 53 = .ok (.return_, 1) := by decide +kernel
set_option maxRecDepth 20000 in
theorem ggX5_startMoves_X5_countIn : GoodIn wsX5_startMoves wsX5_countIn := goodIn_r _ [9, 1, 2, 4, 41, 42, 43, 44, 45, 46, 47, 48, 49, 50, 51, 52, 53, 54, 55, 56, 57, 58, 59, 60, 61, 62, 63, 64, 65] (by decide +kernel) (by decide +kernel)
set_option maxRecDepth 20000 in
theorem gX5_startMoves_X5_countIn : GoodIn wsX5_startMoves (wsV RX5 177 RX5 yX5_countIn wsX5_countIn) := goodIn_app (goodIn_of _ (by decide +kernel)) ggX5_startMoves_X5_countIn
set_option maxRecDepth 20000 in
theorem ggX5_startMoves_X5_waitedFor : GoodIn wsX5_startMoves wsX5_waitedFor := goodIn_r _ [13, 2, 4, 14, 15, 16, 17, 18, 19, 20, 21, 41, 42, 43, 44, 45, 46, 47, 48, 49, 50, 51, 52, 53, 54, 55, 56, 57, 58, 59, 60, 61, 62, 63, 64, 65] (by decide +kernel) (by decide +kernel)
set_option maxRecDepth 20000 in
theorem gX5_startMoves_X5_waitedFor : GoodIn wsX5_startMoves (wsV RX5 180 RX5 yX5_waitedFor wsX5_waitedFor) := goodIn_app (goodIn_of _ (by decide +kernel)) ggX5_startMoves_X5_waitedFor
set_option maxRecDepth 20000 in
theorem ggX5_startMoves_X5_start : GoodIn wsX5_startMoves wsX5_start := goodIn_r _ [25, 26, 27, 28, 29, 30, 31, 4, 32, 33, 34, 35, 36, 37, 38, 39, 40, 41, 42, 43, 44, 45, 46, 47, 48, 49, 50, 51, 52, 53, 54, 55, 56, 57, 58, 59, 60, 61, 62, 63, 64, 65, 66, 67, 68, 69] (by decide +kernel) (by decide +kernel)
set_option maxRecDepth 20000 in
theorem gX5_startMoves_X5_start : GoodIn wsX5_startMoves (wsV RX5 183 RX5 yX5_start wsX5_start) := goodIn_app (goodIn_of _ (by decide +kernel)) ggX5_startMoves_X5_start
theorem dX5_startMoves_0 : decode cX5_startMoves 0 = .ok (.aload_n 0, 1) := by decide +kernel
theorem dX5_startMoves_1 : decode cX5_startMoves 1 = .ok (.iconst 1, 1) := by decide +kernel
theorem dX5_startMoves_2 : decode cX5_startMoves 2 = .ok (.invokevirtual 177, 3) := by decide +kernel
theorem dX5_startMoves_5 : decode cX5_startMoves 5 = .ok (.istore_n 1, 1) := by decide +kernel
theorem dX5_startMoves_6 : decode cX5_startMoves 6 = .ok (.iconst 0, 1) := by decide +kernel
theorem dX5_startMoves_7 : decode cX5_startMoves 7 = .ok (.istore_n 2, 1) := by decide +kernel
theorem dX5_startMoves_8 : decode cX5_startMoves 8 = .ok (.iload_n 2, 1) := by decide +kernel
theorem dX5_startMoves_9 : decode cX5_startMoves 9 = .ok (.aload_n 0, 1) := by decide +kernel
theorem dX5_startMoves_10 : decode cX5_startMoves 10 = .ok (.getfield 52, 3) := by decide +kernel
theorem dX5_startMoves_13 : decode cX5_startMoves 13 = .ok (.if_icmp .ge 47, 3) := by decide +kernel
theorem dX5_startMoves_16 : decode cX5_startMoves 16 = .ok (.aload_n 0, 1) := by decide +kernel
theorem dX5_startMoves_17 : decode cX5_startMoves 17 = .ok (.getfield 23, 3) := by decide +kernel
theorem dX5_startMoves_20 : decode cX5_startMoves 20 = .ok (.iload_n 2, 1) := by decide +kernel
theorem dX5_startMoves_21 : decode cX5_startMoves 21 = .ok (.aaload, 1) := by decide +kernel
theorem dX5_startMoves_22 : decode cX5_startMoves 22 = .ok (.astore_n 3, 1) := by decide +kernel
theorem dX5_startMoves_23 : decode cX5_startMoves 23 = .ok (.iload_n 1, 1) := by decide +kernel
theorem dX5_startMoves_24 : decode cX5_startMoves 24 = .ok (.aload_n 0, 1) := by decide +kernel
theorem dX5_startMoves_25 : decode cX5_startMoves 25 = .ok (.getfield 34, 3) := by decide +kernel
theorem dX5_startMoves_28 : decode cX5_startMoves 28 = .ok (.if_icmp .ge 26, 3) := by decide +kernel
theorem dX5_startMoves_31 : decode cX5_startMoves 31 = .ok (.aload_n 3, 1) := by decide +kernel
theorem dX5_startMoves_32 : decode cX5_startMoves 32 = .ok (.getfield 106, 3) := by decide +kernel
theorem dX5_startMoves_35 : decode cX5_startMoves 35 = .ok (.ifCond .ne 19, 3) := by decide +kernel
theorem dX5_startMoves_38 : decode cX5_startMoves 38 = .ok (.aload_n 0, 1) := by decide +kernel
theorem dX5_startMoves_39 : decode cX5_startMoves 39 = .ok (.iload_n 2, 1) := by decide +kernel
theorem dX5_startMoves_40 : decode cX5_startMoves 40 = .ok (.invokevirtual 180, 3) := by decide +kernel
theorem dX5_startMoves_43 : decode cX5_startMoves 43 = .ok (.ifCond .ne 11, 3) := by decide +kernel
theorem dX5_startMoves_46 : decode cX5_startMoves 46 = .ok (.aload_n 0, 1) := by decide +kernel
theorem dX5_startMoves_47 : decode cX5_startMoves 47 = .ok (.aload_n 3, 1) := by decide +kernel
theorem dX5_startMoves_48 : decode cX5_startMoves 48 = .ok (.invokevirtual 183, 3) := by decide +kernel
theorem dX5_startMoves_51 : decode cX5_startMoves 51 = .ok (.iinc 1 1, 3) := by decide +kernel
theorem dX5_startMoves_54 : decode cX5_startMoves 54 = .ok (.iinc 2 1, 3) := by decide +kernel
theorem dX5_startMoves_57 : decode cX5_startMoves 57 = .ok (.goto (-49), 3) := by decide +kernel
theorem dX5_startMoves_60 : decode cX5_startMoves 60 = .ok (.return_, 1) := by decide +kernel
set_option maxRecDepth 20000 in
theorem ggX5_start_X4_cellAt : GoodIn wsX5_start wsX4_cellAt := goodIn_r _ [14, 15, 16, 42, 43, 44, 45] (by decide +kernel) (by decide +kernel)
set_option maxRecDepth 20000 in
theorem gX5_start_X4_cellAt : GoodIn wsX5_start (wsV RX5 189 RX4 yX4_cellAt wsX4_cellAt) := goodIn_app (goodIn_of _ (by decide +kernel)) ggX5_start_X4_cellAt
theorem dX5_start_0 : decode cX5_start 0 = .ok (.aload_n 0, 1) := by decide +kernel
theorem dX5_start_1 : decode cX5_start 1 = .ok (.getfield 17, 3) := by decide +kernel
theorem dX5_start_4 : decode cX5_start 4 = .ok (.aload_n 1, 1) := by decide +kernel
theorem dX5_start_5 : decode cX5_start 5 = .ok (.getfield 122, 3) := by decide +kernel
theorem dX5_start_8 : decode cX5_start 8 = .ok (.aaload, 1) := by decide +kernel
theorem dX5_start_9 : decode cX5_start 9 = .ok (.astore_n 2, 1) := by decide +kernel
theorem dX5_start_10 : decode cX5_start 10 = .ok (.iconst 0, 1) := by decide +kernel
theorem dX5_start_11 : decode cX5_start 11 = .ok (.istore_n 3, 1) := by decide +kernel
theorem dX5_start_12 : decode cX5_start 12 = .ok (.iload_n 3, 1) := by decide +kernel
theorem dX5_start_13 : decode cX5_start 13 = .ok (.aload_n 1, 1) := by decide +kernel
theorem dX5_start_14 : decode cX5_start 14 = .ok (.getfield 134, 3) := by decide +kernel
theorem dX5_start_17 : decode cX5_start 17 = .ok (.if_icmp .ge 30, 3) := by decide +kernel
theorem dX5_start_20 : decode cX5_start 20 = .ok (.aload_n 1, 1) := by decide +kernel
theorem dX5_start_21 : decode cX5_start 21 = .ok (.getfield 186, 3) := by decide +kernel
theorem dX5_start_24 : decode cX5_start 24 = .ok (.iload_n 3, 1) := by decide +kernel
theorem dX5_start_25 : decode cX5_start 25 = .ok (.aload_n 0, 1) := by decide +kernel
theorem dX5_start_26 : decode cX5_start 26 = .ok (.getfield 9, 3) := by decide +kernel
theorem dX5_start_29 : decode cX5_start 29 = .ok (.aload_n 2, 1) := by decide +kernel
theorem dX5_start_30 : decode cX5_start 30 = .ok (.aload_n 1, 1) := by decide +kernel
theorem dX5_start_31 : decode cX5_start 31 = .ok (.getfield 125, 3) := by decide +kernel
theorem dX5_start_34 : decode cX5_start 34 = .ok (.iload_n 3, 1) := by decide +kernel
theorem dX5_start_35 : decode cX5_start 35 = .ok (.iadd, 1) := by decide +kernel
theorem dX5_start_36 : decode cX5_start 36 = .ok (.invokevirtual 189, 3) := by decide +kernel
theorem dX5_start_39 : decode cX5_start 39 = .ok (.iaload, 1) := by decide +kernel
theorem dX5_start_40 : decode cX5_start 40 = .ok (.iastore, 1) := by decide +kernel
theorem dX5_start_41 : decode cX5_start 41 = .ok (.iinc 3 1, 3) := by decide +kernel
theorem dX5_start_44 : decode cX5_start 44 = .ok (.goto (-32), 3) := by decide +kernel
theorem dX5_start_47 : decode cX5_start 47 = .ok (.aload_n 1, 1) := by decide +kernel
theorem dX5_start_48 : decode cX5_start 48 = .ok (.iconst 1, 1) := by decide +kernel
theorem dX5_start_49 : decode cX5_start 49 = .ok (.putfield 106, 3) := by decide +kernel
theorem dX5_start_52 : decode cX5_start 52 = .ok (.aload_n 1, 1) := by decide +kernel
theorem dX5_start_53 : decode cX5_start 53 = .ok (.aload_n 0, 1) := by decide +kernel
theorem dX5_start_54 : decode cX5_start 54 = .ok (.getfield 58, 3) := by decide +kernel
theorem dX5_start_57 : decode cX5_start 57 = .ok (.putfield 144, 3) := by decide +kernel
theorem dX5_start_60 : decode cX5_start 60 = .ok (.return_, 1) := by decide +kernel
set_option maxRecDepth 20000 in
theorem ggX5_copyOn_X4_cellAt : GoodIn wsX5_copyOn wsX4_cellAt := goodIn_r _ [20, 21, 22, 48, 49, 50, 51] (by decide +kernel) (by decide +kernel)
set_option maxRecDepth 20000 in
theorem gX5_copyOn_X4_cellAt : GoodIn wsX5_copyOn (wsV RX5 189 RX4 yX4_cellAt wsX4_cellAt) := goodIn_app (goodIn_of _ (by decide +kernel)) ggX5_copyOn_X4_cellAt
theorem dX5_copyOn_0 : decode cX5_copyOn 0 = .ok (.aload_n 1, 1) := by decide +kernel
theorem dX5_copyOn_1 : decode cX5_copyOn 1 = .ok (.getfield 106, 3) := by decide +kernel
theorem dX5_copyOn_4 : decode cX5_copyOn 4 = .ok (.iconst 1, 1) := by decide +kernel
theorem dX5_copyOn_5 : decode cX5_copyOn 5 = .ok (.if_icmp .eq 4, 3) := by decide +kernel
theorem dX5_copyOn_8 : decode cX5_copyOn 8 = .ok (.return_, 1) := by decide +kernel
theorem dX5_copyOn_9 : decode cX5_copyOn 9 = .ok (.aload_n 0, 1) := by decide +kernel
theorem dX5_copyOn_10 : decode cX5_copyOn 10 = .ok (.getfield 17, 3) := by decide +kernel
theorem dX5_copyOn_13 : decode cX5_copyOn 13 = .ok (.aload_n 1, 1) := by decide +kernel
theorem dX5_copyOn_14 : decode cX5_copyOn 14 = .ok (.getfield 128, 3) := by decide +kernel
theorem dX5_copyOn_17 : decode cX5_copyOn 17 = .ok (.aaload, 1) := by decide +kernel
theorem dX5_copyOn_18 : decode cX5_copyOn 18 = .ok (.astore_n 3, 1) := by decide +kernel
theorem dX5_copyOn_19 : decode cX5_copyOn 19 = .ok (.aload_n 1, 1) := by decide +kernel
theorem dX5_copyOn_20 : decode cX5_copyOn 20 = .ok (.getfield 134, 3) := by decide +kernel
theorem dX5_copyOn_23 : decode cX5_copyOn 23 = .ok (.aload_n 1, 1) := by decide +kernel
theorem dX5_copyOn_24 : decode cX5_copyOn 24 = .ok (.getfield 141, 3) := by decide +kernel
theorem dX5_copyOn_27 : decode cX5_copyOn 27 = .ok (.iload_n 2, 1) := by decide +kernel
theorem dX5_copyOn_28 : decode cX5_copyOn 28 = .ok (.iadd, 1) := by decide +kernel
theorem dX5_copyOn_29 : decode cX5_copyOn 29 = .ok (.invokestatic 116, 3) := by decide +kernel
theorem dX5_copyOn_32 : decode cX5_copyOn 32 = .ok (.istore 4, 2) := by decide +kernel
theorem dX5_copyOn_34 : decode cX5_copyOn 34 = .ok (.aload_n 1, 1) := by decide +kernel
theorem dX5_copyOn_35 : decode cX5_copyOn 35 = .ok (.getfield 141, 3) := by decide +kernel
theorem dX5_copyOn_38 : decode cX5_copyOn 38 = .ok (.istore 5, 2) := by decide +kernel
theorem dX5_copyOn_40 : decode cX5_copyOn 40 = .ok (.iload 5, 2) := by decide +kernel
theorem dX5_copyOn_42 : decode cX5_copyOn 42 = .ok (.iload 4, 2) := by decide +kernel
theorem dX5_copyOn_44 : decode cX5_copyOn 44 = .ok (.if_icmp .ge 32, 3) := by decide +kernel
theorem dX5_copyOn_47 : decode cX5_copyOn 47 = .ok (.aload_n 0, 1) := by decide +kernel
theorem dX5_copyOn_48 : decode cX5_copyOn 48 = .ok (.getfield 9, 3) := by decide +kernel
theorem dX5_copyOn_51 : decode cX5_copyOn 51 = .ok (.aload_n 3, 1) := by decide +kernel
theorem dX5_copyOn_52 : decode cX5_copyOn 52 = .ok (.aload_n 1, 1) := by decide +kernel
theorem dX5_copyOn_53 : decode cX5_copyOn 53 = .ok (.getfield 131, 3) := by decide +kernel
theorem dX5_copyOn_56 : decode cX5_copyOn 56 = .ok (.iload 5, 2) := by decide +kernel
theorem dX5_copyOn_58 : decode cX5_copyOn 58 = .ok (.iadd, 1) := by decide +kernel
theorem dX5_copyOn_59 : decode cX5_copyOn 59 = .ok (.invokevirtual 189, 3) := by decide +kernel
theorem dX5_copyOn_62 : decode cX5_copyOn 62 = .ok (.aload_n 1, 1) := by decide +kernel
theorem dX5_copyOn_63 : decode cX5_copyOn 63 = .ok (.getfield 186, 3) := by decide +kernel
theorem dX5_copyOn_66 : decode cX5_copyOn 66 = .ok (.iload 5, 2) := by decide +kernel
theorem dX5_copyOn_68 : decode cX5_copyOn 68 = .ok (.iaload, 1) := by decide +kernel
theorem dX5_copyOn_69 : decode cX5_copyOn 69 = .ok (.iastore, 1) := by decide +kernel
theorem dX5_copyOn_70 : decode cX5_copyOn 70 = .ok (.iinc 5 1, 3) := by decide +kernel
theorem dX5_copyOn_73 : decode cX5_copyOn 73 = .ok (.goto (-33), 3) := by decide +kernel
theorem dX5_copyOn_76 : decode cX5_copyOn 76 = .ok (.aload_n 1, 1) := by decide +kernel
theorem dX5_copyOn_77 : decode cX5_copyOn 77 = .ok (.iload 4, 2) := by decide +kernel
theorem dX5_copyOn_79 : decode cX5_copyOn 79 = .ok (.putfield 141, 3) := by decide +kernel
theorem dX5_copyOn_82 : decode cX5_copyOn 82 = .ok (.iload 4, 2) := by decide +kernel
theorem dX5_copyOn_84 : decode cX5_copyOn 84 = .ok (.aload_n 1, 1) := by decide +kernel
theorem dX5_copyOn_85 : decode cX5_copyOn 85 = .ok (.getfield 134, 3) := by decide +kernel
theorem dX5_copyOn_88 : decode cX5_copyOn 88 = .ok (.if_icmp .ne 26, 3) := by decide +kernel
theorem dX5_copyOn_91 : decode cX5_copyOn 91 = .ok (.aload_n 1, 1) := by decide +kernel
theorem dX5_copyOn_92 : decode cX5_copyOn 92 = .ok (.iconst 2, 1) := by decide +kernel
theorem dX5_copyOn_93 : decode cX5_copyOn 93 = .ok (.putfield 106, 3) := by decide +kernel
theorem dX5_copyOn_96 : decode cX5_copyOn 96 = .ok (.aload_n 1, 1) := by decide +kernel
theorem dX5_copyOn_97 : decode cX5_copyOn 97 = .ok (.aload_n 0, 1) := by decide +kernel
theorem dX5_copyOn_98 : decode cX5_copyOn 98 = .ok (.getfield 58, 3) := by decide +kernel
theorem dX5_copyOn_101 : decode cX5_copyOn 101 = .ok (.putfield 147, 3) := by decide +kernel
theorem dX5_copyOn_104 : decode cX5_copyOn 104 = .ok (.aload_n 0, 1) := by decide +kernel
theorem dX5_copyOn_105 : decode cX5_copyOn 105 = .ok (.dup, 1) := by decide +kernel
theorem dX5_copyOn_106 : decode cX5_copyOn 106 = .ok (.getfield 61, 3) := by decide +kernel
theorem dX5_copyOn_109 : decode cX5_copyOn 109 = .ok (.iconst 1, 1) := by decide +kernel
theorem dX5_copyOn_110 : decode cX5_copyOn 110 = .ok (.iadd, 1) := by decide +kernel
theorem dX5_copyOn_111 : decode cX5_copyOn 111 = .ok (.putfield 61, 3) := by decide +kernel
theorem dX5_copyOn_114 : decode cX5_copyOn 114 = .ok (.return_, 1) := by decide +kernel
theorem dX5_markSigned_0 : decode cX5_markSigned 0 = .ok (.aload_n 1, 1) := by decide +kernel
theorem dX5_markSigned_1 : decode cX5_markSigned 1 = .ok (.iconst 3, 1) := by decide +kernel
theorem dX5_markSigned_2 : decode cX5_markSigned 2 = .ok (.putfield 106, 3) := by decide +kernel
theorem dX5_markSigned_5 : decode cX5_markSigned 5 = .ok (.aload_n 1, 1) := by decide +kernel
theorem dX5_markSigned_6 : decode cX5_markSigned 6 = .ok (.aload_n 0, 1) := by decide +kernel
theorem dX5_markSigned_7 : decode cX5_markSigned 7 = .ok (.getfield 58, 3) := by decide +kernel
theorem dX5_markSigned_10 : decode cX5_markSigned 10 = .ok (.putfield 150, 3) := by decide +kernel
theorem dX5_markSigned_13 : decode cX5_markSigned 13 = .ok (.aload_n 0, 1) := by decide +kernel
theorem dX5_markSigned_14 : decode cX5_markSigned 14 = .ok (.dup, 1) := by decide +kernel
theorem dX5_markSigned_15 : decode cX5_markSigned 15 = .ok (.getfield 64, 3) := by decide +kernel
theorem dX5_markSigned_18 : decode cX5_markSigned 18 = .ok (.iconst 1, 1) := by decide +kernel
theorem dX5_markSigned_19 : decode cX5_markSigned 19 = .ok (.iadd, 1) := by decide +kernel
theorem dX5_markSigned_20 : decode cX5_markSigned 20 = .ok (.putfield 64, 3) := by decide +kernel
theorem dX5_markSigned_23 : decode cX5_markSigned 23 = .ok (.return_, 1) := by decide +kernel
set_option maxRecDepth 20000 in
theorem ggX5_wholePart_X5_countIn : GoodIn wsX5_wholePart wsX5_countIn := goodIn_r _ [13, 2, 14, 15, 39, 40, 41, 42, 43, 44, 45, 46, 47, 48, 49, 50, 51, 52, 53, 54, 55, 56, 57, 58, 59, 60, 61, 62, 63] (by decide +kernel) (by decide +kernel)
set_option maxRecDepth 20000 in
theorem gX5_wholePart_X5_countIn : GoodIn wsX5_wholePart (wsV RX5 177 RX5 yX5_countIn wsX5_countIn) := goodIn_app (goodIn_of _ (by decide +kernel)) ggX5_wholePart_X5_countIn
set_option maxRecDepth 20000 in
theorem ggX5_wholePart_X5_heldCells : GoodIn wsX5_wholePart wsX5_heldCells := goodIn_r _ [19, 2, 14, 20, 21, 22, 23, 24, 25, 26, 39, 40, 41, 42, 43, 44, 45, 46, 47, 48, 49, 50, 51, 52, 53, 54, 55, 56, 57, 58, 59, 60, 61, 62, 63] (by decide +kernel) (by decide +kernel)
set_option maxRecDepth 20000 in
theorem gX5_wholePart_X5_heldCells : GoodIn wsX5_wholePart (wsV RX5 102 RX5 yX5_heldCells wsX5_heldCells) := goodIn_app (goodIn_of _ (by decide +kernel)) ggX5_wholePart_X5_heldCells
set_option maxRecDepth 20000 in
theorem ggX5_wholePart_J13_bitCount_95d88 : GoodIn wsX5_wholePart wsJ13_bitCount_95d88 := goodIn_r _ [30, 31, 32, 33] (by decide +kernel) (by decide +kernel)
set_option maxRecDepth 20000 in
theorem gX5_wholePart_J13_bitCount_95d88 : GoodIn wsX5_wholePart (va_wsS RX5 199 yJ13_bitCount_95d88 wsJ13_bitCount_95d88) := goodIn_app (goodIn_of _ (by decide +kernel)) ggX5_wholePart_J13_bitCount_95d88
set_option maxRecDepth 20000 in
theorem ggX5_wholePart_X5_sumOf : GoodIn wsX5_wholePart wsX5_sumOf := goodIn_r _ [37, 38, 39, 40, 41, 42, 43, 44, 45, 46, 47, 48, 49, 50] (by decide +kernel) (by decide +kernel)
set_option maxRecDepth 20000 in
theorem gX5_wholePart_X5_sumOf : GoodIn wsX5_wholePart (wsV RX5 196 RX5 yX5_sumOf wsX5_sumOf) := goodIn_app (goodIn_of _ (by decide +kernel)) ggX5_wholePart_X5_sumOf
theorem dX5_wholePart_0 : decode cX5_wholePart 0 = .ok (.iload_n 1, 1) := by decide +kernel
theorem dX5_wholePart_1 : decode cX5_wholePart 1 = .ok (.tableswitch 123 0 12 #[67, 72, 77, 77, 77, 77, 85, 90, 95, 100, 108, 113, 118], 67) := by decide +kernel
theorem dX5_wholePart_68 : decode cX5_wholePart 68 = .ok (.aload_n 0, 1) := by decide +kernel
theorem dX5_wholePart_69 : decode cX5_wholePart 69 = .ok (.getfield 45, 3) := by decide +kernel
theorem dX5_wholePart_72 : decode cX5_wholePart 72 = .ok (.ireturn, 1) := by decide +kernel
theorem dX5_wholePart_73 : decode cX5_wholePart 73 = .ok (.aload_n 0, 1) := by decide +kernel
theorem dX5_wholePart_74 : decode cX5_wholePart 74 = .ok (.getfield 52, 3) := by decide +kernel
theorem dX5_wholePart_77 : decode cX5_wholePart 77 = .ok (.ireturn, 1) := by decide +kernel
theorem dX5_wholePart_78 : decode cX5_wholePart 78 = .ok (.aload_n 0, 1) := by decide +kernel
theorem dX5_wholePart_79 : decode cX5_wholePart 79 = .ok (.iload_n 1, 1) := by decide +kernel
theorem dX5_wholePart_80 : decode cX5_wholePart 80 = .ok (.iconst 2, 1) := by decide +kernel
theorem dX5_wholePart_81 : decode cX5_wholePart 81 = .ok (.isub, 1) := by decide +kernel
theorem dX5_wholePart_82 : decode cX5_wholePart 82 = .ok (.invokevirtual 177, 3) := by decide +kernel
theorem dX5_wholePart_85 : decode cX5_wholePart 85 = .ok (.ireturn, 1) := by decide +kernel
theorem dX5_wholePart_86 : decode cX5_wholePart 86 = .ok (.aload_n 0, 1) := by decide +kernel
theorem dX5_wholePart_87 : decode cX5_wholePart 87 = .ok (.getfield 30, 3) := by decide +kernel
theorem dX5_wholePart_90 : decode cX5_wholePart 90 = .ok (.ireturn, 1) := by decide +kernel
theorem dX5_wholePart_91 : decode cX5_wholePart 91 = .ok (.aload_n 0, 1) := by decide +kernel
theorem dX5_wholePart_92 : decode cX5_wholePart 92 = .ok (.getfield 34, 3) := by decide +kernel
theorem dX5_wholePart_95 : decode cX5_wholePart 95 = .ok (.ireturn, 1) := by decide +kernel
theorem dX5_wholePart_96 : decode cX5_wholePart 96 = .ok (.aload_n 0, 1) := by decide +kernel
theorem dX5_wholePart_97 : decode cX5_wholePart 97 = .ok (.getfield 58, 3) := by decide +kernel
theorem dX5_wholePart_100 : decode cX5_wholePart 100 = .ok (.ireturn, 1) := by decide +kernel
theorem dX5_wholePart_101 : decode cX5_wholePart 101 = .ok (.aload_n 0, 1) := by decide +kernel
theorem dX5_wholePart_102 : decode cX5_wholePart 102 = .ok (.invokevirtual 102, 3) := by decide +kernel
theorem dX5_wholePart_105 : decode cX5_wholePart 105 = .ok (.invokestatic 199, 3) := by decide +kernel
theorem dX5_wholePart_108 : decode cX5_wholePart 108 = .ok (.ireturn, 1) := by decide +kernel
theorem dX5_wholePart_109 : decode cX5_wholePart 109 = .ok (.aload_n 0, 1) := by decide +kernel
theorem dX5_wholePart_110 : decode cX5_wholePart 110 = .ok (.getfield 61, 3) := by decide +kernel
theorem dX5_wholePart_113 : decode cX5_wholePart 113 = .ok (.ireturn, 1) := by decide +kernel
theorem dX5_wholePart_114 : decode cX5_wholePart 114 = .ok (.aload_n 0, 1) := by decide +kernel
theorem dX5_wholePart_115 : decode cX5_wholePart 115 = .ok (.getfield 64, 3) := by decide +kernel
theorem dX5_wholePart_118 : decode cX5_wholePart 118 = .ok (.ireturn, 1) := by decide +kernel
theorem dX5_wholePart_119 : decode cX5_wholePart 119 = .ok (.aload_n 0, 1) := by decide +kernel
theorem dX5_wholePart_120 : decode cX5_wholePart 120 = .ok (.getfield 67, 3) := by decide +kernel
theorem dX5_wholePart_123 : decode cX5_wholePart 123 = .ok (.ireturn, 1) := by decide +kernel
theorem dX5_wholePart_124 : decode cX5_wholePart 124 = .ok (.aload_n 0, 1) := by decide +kernel
theorem dX5_wholePart_125 : decode cX5_wholePart 125 = .ok (.iconst 0, 1) := by decide +kernel
theorem dX5_wholePart_126 : decode cX5_wholePart 126 = .ok (.bipush 48, 2) := by decide +kernel
theorem dX5_wholePart_128 : decode cX5_wholePart 128 = .ok (.invokevirtual 196, 3) := by decide +kernel
theorem dX5_wholePart_131 : decode cX5_wholePart 131 = .ok (.ireturn, 1) := by decide +kernel
theorem dX5_sumOf_0 : decode cX5_sumOf 0 = .ok (.iconst 0, 1) := by decide +kernel
theorem dX5_sumOf_1 : decode cX5_sumOf 1 = .ok (.istore_n 3, 1) := by decide +kernel
theorem dX5_sumOf_2 : decode cX5_sumOf 2 = .ok (.iload_n 1, 1) := by decide +kernel
theorem dX5_sumOf_3 : decode cX5_sumOf 3 = .ok (.istore 4, 2) := by decide +kernel
theorem dX5_sumOf_5 : decode cX5_sumOf 5 = .ok (.iload 4, 2) := by decide +kernel
theorem dX5_sumOf_7 : decode cX5_sumOf 7 = .ok (.iload_n 1, 1) := by decide +kernel
theorem dX5_sumOf_8 : decode cX5_sumOf 8 = .ok (.iload_n 2, 1) := by decide +kernel
theorem dX5_sumOf_9 : decode cX5_sumOf 9 = .ok (.iadd, 1) := by decide +kernel
theorem dX5_sumOf_10 : decode cX5_sumOf 10 = .ok (.if_icmp .ge 26, 3) := by decide +kernel
theorem dX5_sumOf_13 : decode cX5_sumOf 13 = .ok (.iload 4, 2) := by decide +kernel
theorem dX5_sumOf_15 : decode cX5_sumOf 15 = .ok (.bipush 48, 2) := by decide +kernel
theorem dX5_sumOf_17 : decode cX5_sumOf 17 = .ok (.if_icmp .ge 19, 3) := by decide +kernel
theorem dX5_sumOf_20 : decode cX5_sumOf 20 = .ok (.iload_n 3, 1) := by decide +kernel
theorem dX5_sumOf_21 : decode cX5_sumOf 21 = .ok (.aload_n 0, 1) := by decide +kernel
theorem dX5_sumOf_22 : decode cX5_sumOf 22 = .ok (.getfield 9, 3) := by decide +kernel
theorem dX5_sumOf_25 : decode cX5_sumOf 25 = .ok (.iload 4, 2) := by decide +kernel
theorem dX5_sumOf_27 : decode cX5_sumOf 27 = .ok (.iaload, 1) := by decide +kernel
theorem dX5_sumOf_28 : decode cX5_sumOf 28 = .ok (.iadd, 1) := by decide +kernel
theorem dX5_sumOf_29 : decode cX5_sumOf 29 = .ok (.istore_n 3, 1) := by decide +kernel
theorem dX5_sumOf_30 : decode cX5_sumOf 30 = .ok (.iinc 4 1, 3) := by decide +kernel
theorem dX5_sumOf_33 : decode cX5_sumOf 33 = .ok (.goto (-28), 3) := by decide +kernel
theorem dX5_sumOf_36 : decode cX5_sumOf 36 = .ok (.iload_n 3, 1) := by decide +kernel
theorem dX5_sumOf_37 : decode cX5_sumOf 37 = .ok (.ireturn, 1) := by decide +kernel
set_option maxRecDepth 20000 in
theorem ggX5_heldCells_X3_holds : GoodIn wsX5_heldCells wsX3_holds := goodIn_r _ [8, 9, 22, 23, 24, 25, 26, 27, 28, 29, 30, 31, 32, 33, 34] (by decide +kernel) (by decide +kernel)
set_option maxRecDepth 20000 in
theorem gX5_heldCells_X3_holds : GoodIn wsX5_heldCells (wsV RX5 205 RX3 yX3_holds wsX3_holds) := goodIn_app (goodIn_of _ (by decide +kernel)) ggX5_heldCells_X3_holds
theorem dX5_heldCells_0 : decode cX5_heldCells 0 = .ok (.lconst 0, 1) := by decide +kernel
theorem dX5_heldCells_1 : decode cX5_heldCells 1 = .ok (.lstore_n 1, 1) := by decide +kernel
theorem dX5_heldCells_2 : decode cX5_heldCells 2 = .ok (.iconst 0, 1) := by decide +kernel
theorem dX5_heldCells_3 : decode cX5_heldCells 3 = .ok (.istore_n 3, 1) := by decide +kernel
theorem dX5_heldCells_4 : decode cX5_heldCells 4 = .ok (.iload_n 3, 1) := by decide +kernel
theorem dX5_heldCells_5 : decode cX5_heldCells 5 = .ok (.aload_n 0, 1) := by decide +kernel
theorem dX5_heldCells_6 : decode cX5_heldCells 6 = .ok (.getfield 52, 3) := by decide +kernel
theorem dX5_heldCells_9 : decode cX5_heldCells 9 = .ok (.if_icmp .ge 33, 3) := by decide +kernel
theorem dX5_heldCells_12 : decode cX5_heldCells 12 = .ok (.aload_n 0, 1) := by decide +kernel
theorem dX5_heldCells_13 : decode cX5_heldCells 13 = .ok (.getfield 23, 3) := by decide +kernel
theorem dX5_heldCells_16 : decode cX5_heldCells 16 = .ok (.iload_n 3, 1) := by decide +kernel
theorem dX5_heldCells_17 : decode cX5_heldCells 17 = .ok (.aaload, 1) := by decide +kernel
theorem dX5_heldCells_18 : decode cX5_heldCells 18 = .ok (.invokevirtual 205, 3) := by decide +kernel
theorem dX5_heldCells_21 : decode cX5_heldCells 21 = .ok (.ifCond .eq 15, 3) := by decide +kernel
theorem dX5_heldCells_24 : decode cX5_heldCells 24 = .ok (.lload_n 1, 1) := by decide +kernel
theorem dX5_heldCells_25 : decode cX5_heldCells 25 = .ok (.aload_n 0, 1) := by decide +kernel
theorem dX5_heldCells_26 : decode cX5_heldCells 26 = .ok (.getfield 23, 3) := by decide +kernel
theorem dX5_heldCells_29 : decode cX5_heldCells 29 = .ok (.iload_n 3, 1) := by decide +kernel
theorem dX5_heldCells_30 : decode cX5_heldCells 30 = .ok (.aaload, 1) := by decide +kernel
theorem dX5_heldCells_31 : decode cX5_heldCells 31 = .ok (.getfield 109, 3) := by decide +kernel
theorem dX5_heldCells_34 : decode cX5_heldCells 34 = .ok (.lor, 1) := by decide +kernel
theorem dX5_heldCells_35 : decode cX5_heldCells 35 = .ok (.lstore_n 1, 1) := by decide +kernel
theorem dX5_heldCells_36 : decode cX5_heldCells 36 = .ok (.iinc 3 1, 3) := by decide +kernel
theorem dX5_heldCells_39 : decode cX5_heldCells 39 = .ok (.goto (-35), 3) := by decide +kernel
theorem dX5_heldCells_42 : decode cX5_heldCells 42 = .ok (.lload_n 1, 1) := by decide +kernel
theorem dX5_heldCells_43 : decode cX5_heldCells 43 = .ok (.lreturn, 1) := by decide +kernel
theorem dX5_countIn_0 : decode cX5_countIn 0 = .ok (.iconst 0, 1) := by decide +kernel
theorem dX5_countIn_1 : decode cX5_countIn 1 = .ok (.istore_n 2, 1) := by decide +kernel
theorem dX5_countIn_2 : decode cX5_countIn 2 = .ok (.iconst 0, 1) := by decide +kernel
theorem dX5_countIn_3 : decode cX5_countIn 3 = .ok (.istore_n 3, 1) := by decide +kernel
theorem dX5_countIn_4 : decode cX5_countIn 4 = .ok (.iload_n 3, 1) := by decide +kernel
theorem dX5_countIn_5 : decode cX5_countIn 5 = .ok (.aload_n 0, 1) := by decide +kernel
theorem dX5_countIn_6 : decode cX5_countIn 6 = .ok (.getfield 52, 3) := by decide +kernel
theorem dX5_countIn_9 : decode cX5_countIn 9 = .ok (.if_icmp .ge 25, 3) := by decide +kernel
theorem dX5_countIn_12 : decode cX5_countIn 12 = .ok (.aload_n 0, 1) := by decide +kernel
theorem dX5_countIn_13 : decode cX5_countIn 13 = .ok (.getfield 23, 3) := by decide +kernel
theorem dX5_countIn_16 : decode cX5_countIn 16 = .ok (.iload_n 3, 1) := by decide +kernel
theorem dX5_countIn_17 : decode cX5_countIn 17 = .ok (.aaload, 1) := by decide +kernel
theorem dX5_countIn_18 : decode cX5_countIn 18 = .ok (.getfield 106, 3) := by decide +kernel
theorem dX5_countIn_21 : decode cX5_countIn 21 = .ok (.iload_n 1, 1) := by decide +kernel
theorem dX5_countIn_22 : decode cX5_countIn 22 = .ok (.if_icmp .ne 6, 3) := by decide +kernel
theorem dX5_countIn_25 : decode cX5_countIn 25 = .ok (.iinc 2 1, 3) := by decide +kernel
theorem dX5_countIn_28 : decode cX5_countIn 28 = .ok (.iinc 3 1, 3) := by decide +kernel
theorem dX5_countIn_31 : decode cX5_countIn 31 = .ok (.goto (-27), 3) := by decide +kernel
theorem dX5_countIn_34 : decode cX5_countIn 34 = .ok (.iload_n 2, 1) := by decide +kernel
theorem dX5_countIn_35 : decode cX5_countIn 35 = .ok (.ireturn, 1) := by decide +kernel
set_option maxRecDepth 20000 in
theorem ggX5_countCopiedTo_X5_isCopiedTo : GoodIn wsX5_countCopiedTo wsX5_isCopiedTo := goodIn_r _ [6, 7, 8, 21, 22, 23, 24, 25, 26, 27, 28, 29, 30, 31, 32, 33] (by decide +kernel) (by decide +kernel)
set_option maxRecDepth 20000 in
theorem gX5_countCopiedTo_X5_isCopiedTo : GoodIn wsX5_countCopiedTo (va_wsS RX5 156 yX5_isCopiedTo wsX5_isCopiedTo) := goodIn_app (goodIn_of _ (by decide +kernel)) ggX5_countCopiedTo_X5_isCopiedTo
theorem dX5_countCopiedTo_0 : decode cX5_countCopiedTo 0 = .ok (.iconst 0, 1) := by decide +kernel
theorem dX5_countCopiedTo_1 : decode cX5_countCopiedTo 1 = .ok (.istore_n 2, 1) := by decide +kernel
theorem dX5_countCopiedTo_2 : decode cX5_countCopiedTo 2 = .ok (.iconst 0, 1) := by decide +kernel
theorem dX5_countCopiedTo_3 : decode cX5_countCopiedTo 3 = .ok (.istore_n 3, 1) := by decide +kernel
theorem dX5_countCopiedTo_4 : decode cX5_countCopiedTo 4 = .ok (.iload_n 3, 1) := by decide +kernel
theorem dX5_countCopiedTo_5 : decode cX5_countCopiedTo 5 = .ok (.aload_n 0, 1) := by decide +kernel
theorem dX5_countCopiedTo_6 : decode cX5_countCopiedTo 6 = .ok (.getfield 52, 3) := by decide +kernel
theorem dX5_countCopiedTo_9 : decode cX5_countCopiedTo 9 = .ok (.if_icmp .ge 25, 3) := by decide +kernel
theorem dX5_countCopiedTo_12 : decode cX5_countCopiedTo 12 = .ok (.aload_n 0, 1) := by decide +kernel
theorem dX5_countCopiedTo_13 : decode cX5_countCopiedTo 13 = .ok (.getfield 23, 3) := by decide +kernel
theorem dX5_countCopiedTo_16 : decode cX5_countCopiedTo 16 = .ok (.iload_n 3, 1) := by decide +kernel
theorem dX5_countCopiedTo_17 : decode cX5_countCopiedTo 17 = .ok (.aaload, 1) := by decide +kernel
theorem dX5_countCopiedTo_18 : decode cX5_countCopiedTo 18 = .ok (.iload_n 1, 1) := by decide +kernel
theorem dX5_countCopiedTo_19 : decode cX5_countCopiedTo 19 = .ok (.invokestatic 156, 3) := by decide +kernel
theorem dX5_countCopiedTo_22 : decode cX5_countCopiedTo 22 = .ok (.ifCond .eq 6, 3) := by decide +kernel
theorem dX5_countCopiedTo_25 : decode cX5_countCopiedTo 25 = .ok (.iinc 2 1, 3) := by decide +kernel
theorem dX5_countCopiedTo_28 : decode cX5_countCopiedTo 28 = .ok (.iinc 3 1, 3) := by decide +kernel
theorem dX5_countCopiedTo_31 : decode cX5_countCopiedTo 31 = .ok (.goto (-27), 3) := by decide +kernel
theorem dX5_countCopiedTo_34 : decode cX5_countCopiedTo 34 = .ok (.iload_n 2, 1) := by decide +kernel
theorem dX5_countCopiedTo_35 : decode cX5_countCopiedTo 35 = .ok (.ireturn, 1) := by decide +kernel
theorem dX5_isCopiedTo_0 : decode cX5_isCopiedTo 0 = .ok (.aload_n 0, 1) := by decide +kernel
theorem dX5_isCopiedTo_1 : decode cX5_isCopiedTo 1 = .ok (.getfield 106, 3) := by decide +kernel
theorem dX5_isCopiedTo_4 : decode cX5_isCopiedTo 4 = .ok (.iconst 2, 1) := by decide +kernel
theorem dX5_isCopiedTo_5 : decode cX5_isCopiedTo 5 = .ok (.if_icmp .ne 15, 3) := by decide +kernel
theorem dX5_isCopiedTo_8 : decode cX5_isCopiedTo 8 = .ok (.aload_n 0, 1) := by decide +kernel
theorem dX5_isCopiedTo_9 : decode cX5_isCopiedTo 9 = .ok (.getfield 128, 3) := by decide +kernel
theorem dX5_isCopiedTo_12 : decode cX5_isCopiedTo 12 = .ok (.iload_n 1, 1) := by decide +kernel
theorem dX5_isCopiedTo_13 : decode cX5_isCopiedTo 13 = .ok (.if_icmp .ne 7, 3) := by decide +kernel
theorem dX5_isCopiedTo_16 : decode cX5_isCopiedTo 16 = .ok (.iconst 1, 1) := by decide +kernel
theorem dX5_isCopiedTo_17 : decode cX5_isCopiedTo 17 = .ok (.goto 4, 3) := by decide +kernel
theorem dX5_isCopiedTo_20 : decode cX5_isCopiedTo 20 = .ok (.iconst 0, 1) := by decide +kernel
theorem dX5_isCopiedTo_21 : decode cX5_isCopiedTo 21 = .ok (.ireturn, 1) := by decide +kernel
set_option maxRecDepth 20000 in
theorem ggX5_waitedFor_X3_waitsBehind : GoodIn wsX5_waitedFor wsX3_waitsBehind := goodIn_r _ [7, 8, 9, 10, 23, 24, 25, 26, 27, 28, 29, 30, 31, 32, 33, 34, 35] (by decide +kernel) (by decide +kernel)
set_option maxRecDepth 20000 in
theorem gX5_waitedFor_X3_waitsBehind : GoodIn wsX5_waitedFor (wsV RX5 209 RX3 yX3_waitsBehind wsX3_waitsBehind) := goodIn_app (goodIn_of _ (by decide +kernel)) ggX5_waitedFor_X3_waitsBehind
theorem dX5_waitedFor_0 : decode cX5_waitedFor 0 = .ok (.aload_n 0, 1) := by decide +kernel
theorem dX5_waitedFor_1 : decode cX5_waitedFor 1 = .ok (.getfield 23, 3) := by decide +kernel
theorem dX5_waitedFor_4 : decode cX5_waitedFor 4 = .ok (.iload_n 1, 1) := by decide +kernel
theorem dX5_waitedFor_5 : decode cX5_waitedFor 5 = .ok (.aaload, 1) := by decide +kernel
theorem dX5_waitedFor_6 : decode cX5_waitedFor 6 = .ok (.astore_n 2, 1) := by decide +kernel
theorem dX5_waitedFor_7 : decode cX5_waitedFor 7 = .ok (.aload_n 2, 1) := by decide +kernel
theorem dX5_waitedFor_8 : decode cX5_waitedFor 8 = .ok (.getfield 106, 3) := by decide +kernel
theorem dX5_waitedFor_11 : decode cX5_waitedFor 11 = .ok (.ifCond .eq 5, 3) := by decide +kernel
theorem dX5_waitedFor_14 : decode cX5_waitedFor 14 = .ok (.iconst 0, 1) := by decide +kernel
theorem dX5_waitedFor_15 : decode cX5_waitedFor 15 = .ok (.ireturn, 1) := by decide +kernel
theorem dX5_waitedFor_16 : decode cX5_waitedFor 16 = .ok (.iconst 0, 1) := by decide +kernel
theorem dX5_waitedFor_17 : decode cX5_waitedFor 17 = .ok (.istore_n 3, 1) := by decide +kernel
theorem dX5_waitedFor_18 : decode cX5_waitedFor 18 = .ok (.iconst 0, 1) := by decide +kernel
theorem dX5_waitedFor_19 : decode cX5_waitedFor 19 = .ok (.istore 4, 2) := by decide +kernel
theorem dX5_waitedFor_21 : decode cX5_waitedFor 21 = .ok (.iload 4, 2) := by decide +kernel
theorem dX5_waitedFor_23 : decode cX5_waitedFor 23 = .ok (.iload_n 1, 1) := by decide +kernel
theorem dX5_waitedFor_24 : decode cX5_waitedFor 24 = .ok (.if_icmp .ge 30, 3) := by decide +kernel
theorem dX5_waitedFor_27 : decode cX5_waitedFor 27 = .ok (.aload_n 2, 1) := by decide +kernel
theorem dX5_waitedFor_28 : decode cX5_waitedFor 28 = .ok (.aload_n 0, 1) := by decide +kernel
theorem dX5_waitedFor_29 : decode cX5_waitedFor 29 = .ok (.getfield 23, 3) := by decide +kernel
theorem dX5_waitedFor_32 : decode cX5_waitedFor 32 = .ok (.iload 4, 2) := by decide +kernel
theorem dX5_waitedFor_34 : decode cX5_waitedFor 34 = .ok (.aaload, 1) := by decide +kernel
theorem dX5_waitedFor_35 : decode cX5_waitedFor 35 = .ok (.invokevirtual 209, 3) := by decide +kernel
theorem dX5_waitedFor_38 : decode cX5_waitedFor 38 = .ok (.ifCond .eq 10, 3) := by decide +kernel
theorem dX5_waitedFor_41 : decode cX5_waitedFor 41 = .ok (.iload_n 3, 1) := by decide +kernel
theorem dX5_waitedFor_42 : decode cX5_waitedFor 42 = .ok (.iconst 1, 1) := by decide +kernel
theorem dX5_waitedFor_43 : decode cX5_waitedFor 43 = .ok (.iload 4, 2) := by decide +kernel
theorem dX5_waitedFor_45 : decode cX5_waitedFor 45 = .ok (.ishl, 1) := by decide +kernel
theorem dX5_waitedFor_46 : decode cX5_waitedFor 46 = .ok (.ior, 1) := by decide +kernel
theorem dX5_waitedFor_47 : decode cX5_waitedFor 47 = .ok (.istore_n 3, 1) := by decide +kernel
theorem dX5_waitedFor_48 : decode cX5_waitedFor 48 = .ok (.iinc 4 1, 3) := by decide +kernel
theorem dX5_waitedFor_51 : decode cX5_waitedFor 51 = .ok (.goto (-30), 3) := by decide +kernel
theorem dX5_waitedFor_54 : decode cX5_waitedFor 54 = .ok (.iload_n 3, 1) := by decide +kernel
theorem dX5_waitedFor_55 : decode cX5_waitedFor 55 = .ok (.ireturn, 1) := by decide +kernel
set_option maxRecDepth 20000 in
theorem ggX5_depthOf_X5_waitedFor : GoodIn wsX5_depthOf wsX5_waitedFor := goodIn_r _ [10, 11, 12, 13, 14, 15, 16, 17, 18, 19, 20, 21, 22, 23, 24, 25, 26, 27, 28, 29, 30, 31, 32, 33, 34, 35, 36, 37, 38, 39, 40, 41, 42, 43, 44, 45] (by decide +kernel) (by decide +kernel)
set_option maxRecDepth 20000 in
theorem gX5_depthOf_X5_waitedFor : GoodIn wsX5_depthOf (wsV RX5 180 RX5 yX5_waitedFor wsX5_waitedFor) := goodIn_app (goodIn_of _ (by decide +kernel)) ggX5_depthOf_X5_waitedFor
theorem dX5_depthOf_0 : decode cX5_depthOf 0 = .ok (.iconst 0, 1) := by decide +kernel
theorem dX5_depthOf_1 : decode cX5_depthOf 1 = .ok (.istore_n 2, 1) := by decide +kernel
theorem dX5_depthOf_2 : decode cX5_depthOf 2 = .ok (.iload_n 2, 1) := by decide +kernel
theorem dX5_depthOf_3 : decode cX5_depthOf 3 = .ok (.iload_n 1, 1) := by decide +kernel
theorem dX5_depthOf_4 : decode cX5_depthOf 4 = .ok (.if_icmp .gt 66, 3) := by decide +kernel
theorem dX5_depthOf_7 : decode cX5_depthOf 7 = .ok (.aload_n 0, 1) := by decide +kernel
theorem dX5_depthOf_8 : decode cX5_depthOf 8 = .ok (.iload_n 2, 1) := by decide +kernel
theorem dX5_depthOf_9 : decode cX5_depthOf 9 = .ok (.invokevirtual 180, 3) := by decide +kernel
theorem dX5_depthOf_12 : decode cX5_depthOf 12 = .ok (.istore_n 3, 1) := by decide +kernel
theorem dX5_depthOf_13 : decode cX5_depthOf 13 = .ok (.iconst 0, 1) := by decide +kernel
theorem dX5_depthOf_14 : decode cX5_depthOf 14 = .ok (.istore 4, 2) := by decide +kernel
theorem dX5_depthOf_16 : decode cX5_depthOf 16 = .ok (.iconst 0, 1) := by decide +kernel
theorem dX5_depthOf_17 : decode cX5_depthOf 17 = .ok (.istore 5, 2) := by decide +kernel
theorem dX5_depthOf_19 : decode cX5_depthOf 19 = .ok (.iload 5, 2) := by decide +kernel
theorem dX5_depthOf_21 : decode cX5_depthOf 21 = .ok (.iload_n 2, 1) := by decide +kernel
theorem dX5_depthOf_22 : decode cX5_depthOf 22 = .ok (.if_icmp .ge 34, 3) := by decide +kernel
theorem dX5_depthOf_25 : decode cX5_depthOf 25 = .ok (.iload_n 3, 1) := by decide +kernel
theorem dX5_depthOf_26 : decode cX5_depthOf 26 = .ok (.iconst 1, 1) := by decide +kernel
theorem dX5_depthOf_27 : decode cX5_depthOf 27 = .ok (.iload 5, 2) := by decide +kernel
theorem dX5_depthOf_29 : decode cX5_depthOf 29 = .ok (.ishl, 1) := by decide +kernel
theorem dX5_depthOf_30 : decode cX5_depthOf 30 = .ok (.iand, 1) := by decide +kernel
theorem dX5_depthOf_31 : decode cX5_depthOf 31 = .ok (.ifCond .eq 19, 3) := by decide +kernel
theorem dX5_depthOf_34 : decode cX5_depthOf 34 = .ok (.iload 4, 2) := by decide +kernel
theorem dX5_depthOf_36 : decode cX5_depthOf 36 = .ok (.iconst 1, 1) := by decide +kernel
theorem dX5_depthOf_37 : decode cX5_depthOf 37 = .ok (.aload_n 0, 1) := by decide +kernel
theorem dX5_depthOf_38 : decode cX5_depthOf 38 = .ok (.getfield 27, 3) := by decide +kernel
theorem dX5_depthOf_41 : decode cX5_depthOf 41 = .ok (.iload 5, 2) := by decide +kernel
theorem dX5_depthOf_43 : decode cX5_depthOf 43 = .ok (.iaload, 1) := by decide +kernel
theorem dX5_depthOf_44 : decode cX5_depthOf 44 = .ok (.iadd, 1) := by decide +kernel
theorem dX5_depthOf_45 : decode cX5_depthOf 45 = .ok (.invokestatic 213, 3) := by decide +kernel
theorem dX5_depthOf_48 : decode cX5_depthOf 48 = .ok (.istore 4, 2) := by decide +kernel
theorem dX5_depthOf_50 : decode cX5_depthOf 50 = .ok (.iinc 5 1, 3) := by decide +kernel
theorem dX5_depthOf_53 : decode cX5_depthOf 53 = .ok (.goto (-34), 3) := by decide +kernel
theorem dX5_depthOf_56 : decode cX5_depthOf 56 = .ok (.aload_n 0, 1) := by decide +kernel
theorem dX5_depthOf_57 : decode cX5_depthOf 57 = .ok (.getfield 27, 3) := by decide +kernel
theorem dX5_depthOf_60 : decode cX5_depthOf 60 = .ok (.iload_n 2, 1) := by decide +kernel
theorem dX5_depthOf_61 : decode cX5_depthOf 61 = .ok (.iload 4, 2) := by decide +kernel
theorem dX5_depthOf_63 : decode cX5_depthOf 63 = .ok (.iastore, 1) := by decide +kernel
theorem dX5_depthOf_64 : decode cX5_depthOf 64 = .ok (.iinc 2 1, 3) := by decide +kernel
theorem dX5_depthOf_67 : decode cX5_depthOf 67 = .ok (.goto (-65), 3) := by decide +kernel
theorem dX5_depthOf_70 : decode cX5_depthOf 70 = .ok (.aload_n 0, 1) := by decide +kernel
theorem dX5_depthOf_71 : decode cX5_depthOf 71 = .ok (.getfield 27, 3) := by decide +kernel
theorem dX5_depthOf_74 : decode cX5_depthOf 74 = .ok (.iload_n 1, 1) := by decide +kernel
theorem dX5_depthOf_75 : decode cX5_depthOf 75 = .ok (.iaload, 1) := by decide +kernel
theorem dX5_depthOf_76 : decode cX5_depthOf 76 = .ok (.ireturn, 1) := by decide +kernel
theorem dJ13_bitCount_95d88_0 : decode cJ13_bitCount_95d88 0 = .ok (.lload_n 0, 1) := by decide +kernel
theorem dJ13_bitCount_95d88_1 : decode cJ13_bitCount_95d88 1 = .ok (.lload_n 0, 1) := by decide +kernel
theorem dJ13_bitCount_95d88_2 : decode cJ13_bitCount_95d88 2 = .ok (.iconst 1, 1) := by decide +kernel
theorem dJ13_bitCount_95d88_3 : decode cJ13_bitCount_95d88 3 = .ok (.lushr, 1) := by decide +kernel
theorem dJ13_bitCount_95d88_4 : decode cJ13_bitCount_95d88 4 = .ok (.ldc2_w 314, 3) := by decide +kernel
theorem dJ13_bitCount_95d88_7 : decode cJ13_bitCount_95d88 7 = .ok (.land, 1) := by decide +kernel
theorem dJ13_bitCount_95d88_8 : decode cJ13_bitCount_95d88 8 = .ok (.lsub, 1) := by decide +kernel
theorem dJ13_bitCount_95d88_9 : decode cJ13_bitCount_95d88 9 = .ok (.lstore_n 0, 1) := by decide +kernel
theorem dJ13_bitCount_95d88_10 : decode cJ13_bitCount_95d88 10 = .ok (.lload_n 0, 1) := by decide +kernel
theorem dJ13_bitCount_95d88_11 : decode cJ13_bitCount_95d88 11 = .ok (.ldc2_w 316, 3) := by decide +kernel
theorem dJ13_bitCount_95d88_14 : decode cJ13_bitCount_95d88 14 = .ok (.land, 1) := by decide +kernel
theorem dJ13_bitCount_95d88_15 : decode cJ13_bitCount_95d88 15 = .ok (.lload_n 0, 1) := by decide +kernel
theorem dJ13_bitCount_95d88_16 : decode cJ13_bitCount_95d88 16 = .ok (.iconst 2, 1) := by decide +kernel
theorem dJ13_bitCount_95d88_17 : decode cJ13_bitCount_95d88 17 = .ok (.lushr, 1) := by decide +kernel
theorem dJ13_bitCount_95d88_18 : decode cJ13_bitCount_95d88 18 = .ok (.ldc2_w 316, 3) := by decide +kernel
theorem dJ13_bitCount_95d88_21 : decode cJ13_bitCount_95d88 21 = .ok (.land, 1) := by decide +kernel
theorem dJ13_bitCount_95d88_22 : decode cJ13_bitCount_95d88 22 = .ok (.ladd, 1) := by decide +kernel
theorem dJ13_bitCount_95d88_23 : decode cJ13_bitCount_95d88 23 = .ok (.lstore_n 0, 1) := by decide +kernel
theorem dJ13_bitCount_95d88_24 : decode cJ13_bitCount_95d88 24 = .ok (.lload_n 0, 1) := by decide +kernel
theorem dJ13_bitCount_95d88_25 : decode cJ13_bitCount_95d88 25 = .ok (.lload_n 0, 1) := by decide +kernel
theorem dJ13_bitCount_95d88_26 : decode cJ13_bitCount_95d88 26 = .ok (.iconst 4, 1) := by decide +kernel
theorem dJ13_bitCount_95d88_27 : decode cJ13_bitCount_95d88 27 = .ok (.lushr, 1) := by decide +kernel
theorem dJ13_bitCount_95d88_28 : decode cJ13_bitCount_95d88 28 = .ok (.ladd, 1) := by decide +kernel
theorem dJ13_bitCount_95d88_29 : decode cJ13_bitCount_95d88 29 = .ok (.ldc2_w 318, 3) := by decide +kernel
theorem dJ13_bitCount_95d88_32 : decode cJ13_bitCount_95d88 32 = .ok (.land, 1) := by decide +kernel
theorem dJ13_bitCount_95d88_33 : decode cJ13_bitCount_95d88 33 = .ok (.lstore_n 0, 1) := by decide +kernel
theorem dJ13_bitCount_95d88_34 : decode cJ13_bitCount_95d88 34 = .ok (.lload_n 0, 1) := by decide +kernel
theorem dJ13_bitCount_95d88_35 : decode cJ13_bitCount_95d88 35 = .ok (.lload_n 0, 1) := by decide +kernel
theorem dJ13_bitCount_95d88_36 : decode cJ13_bitCount_95d88 36 = .ok (.bipush 8, 2) := by decide +kernel
theorem dJ13_bitCount_95d88_38 : decode cJ13_bitCount_95d88 38 = .ok (.lushr, 1) := by decide +kernel
theorem dJ13_bitCount_95d88_39 : decode cJ13_bitCount_95d88 39 = .ok (.ladd, 1) := by decide +kernel
theorem dJ13_bitCount_95d88_40 : decode cJ13_bitCount_95d88 40 = .ok (.lstore_n 0, 1) := by decide +kernel
theorem dJ13_bitCount_95d88_41 : decode cJ13_bitCount_95d88 41 = .ok (.lload_n 0, 1) := by decide +kernel
theorem dJ13_bitCount_95d88_42 : decode cJ13_bitCount_95d88 42 = .ok (.lload_n 0, 1) := by decide +kernel
theorem dJ13_bitCount_95d88_43 : decode cJ13_bitCount_95d88 43 = .ok (.bipush 16, 2) := by decide +kernel
theorem dJ13_bitCount_95d88_45 : decode cJ13_bitCount_95d88 45 = .ok (.lushr, 1) := by decide +kernel
theorem dJ13_bitCount_95d88_46 : decode cJ13_bitCount_95d88 46 = .ok (.ladd, 1) := by decide +kernel
theorem dJ13_bitCount_95d88_47 : decode cJ13_bitCount_95d88 47 = .ok (.lstore_n 0, 1) := by decide +kernel
theorem dJ13_bitCount_95d88_48 : decode cJ13_bitCount_95d88 48 = .ok (.lload_n 0, 1) := by decide +kernel
theorem dJ13_bitCount_95d88_49 : decode cJ13_bitCount_95d88 49 = .ok (.lload_n 0, 1) := by decide +kernel
theorem dJ13_bitCount_95d88_50 : decode cJ13_bitCount_95d88 50 = .ok (.bipush 32, 2) := by decide +kernel
theorem dJ13_bitCount_95d88_52 : decode cJ13_bitCount_95d88 52 = .ok (.lushr, 1) := by decide +kernel
theorem dJ13_bitCount_95d88_53 : decode cJ13_bitCount_95d88 53 = .ok (.ladd, 1) := by decide +kernel
theorem dJ13_bitCount_95d88_54 : decode cJ13_bitCount_95d88 54 = .ok (.lstore_n 0, 1) := by decide +kernel
theorem dJ13_bitCount_95d88_55 : decode cJ13_bitCount_95d88 55 = .ok (.lload_n 0, 1) := by decide +kernel
theorem dJ13_bitCount_95d88_56 : decode cJ13_bitCount_95d88 56 = .ok (.l2i, 1) := by decide +kernel
theorem dJ13_bitCount_95d88_57 : decode cJ13_bitCount_95d88 57 = .ok (.bipush 127, 2) := by decide +kernel
theorem dJ13_bitCount_95d88_59 : decode cJ13_bitCount_95d88 59 = .ok (.iand, 1) := by decide +kernel
theorem dJ13_bitCount_95d88_60 : decode cJ13_bitCount_95d88 60 = .ok (.ireturn, 1) := by decide +kernel
theorem dJ9_max_7cf53_0 : decode cJ9_max_7cf53 0 = .ok (.iload_n 0, 1) := by decide +kernel
theorem dJ9_max_7cf53_1 : decode cJ9_max_7cf53 1 = .ok (.iload_n 1, 1) := by decide +kernel
theorem dJ9_max_7cf53_2 : decode cJ9_max_7cf53 2 = .ok (.if_icmp .lt 7, 3) := by decide +kernel
theorem dJ9_max_7cf53_5 : decode cJ9_max_7cf53 5 = .ok (.iload_n 0, 1) := by decide +kernel
theorem dJ9_max_7cf53_6 : decode cJ9_max_7cf53 6 = .ok (.goto 4, 3) := by decide +kernel
theorem dJ9_max_7cf53_9 : decode cJ9_max_7cf53 9 = .ok (.iload_n 1, 1) := by decide +kernel
theorem dJ9_max_7cf53_10 : decode cJ9_max_7cf53 10 = .ok (.ireturn, 1) := by decide +kernel
theorem dJ9_min_7cf53_0 : decode cJ9_min_7cf53 0 = .ok (.iload_n 0, 1) := by decide +kernel
theorem dJ9_min_7cf53_1 : decode cJ9_min_7cf53 1 = .ok (.iload_n 1, 1) := by decide +kernel
theorem dJ9_min_7cf53_2 : decode cJ9_min_7cf53 2 = .ok (.if_icmp .gt 7, 3) := by decide +kernel
theorem dJ9_min_7cf53_5 : decode cJ9_min_7cf53 5 = .ok (.iload_n 0, 1) := by decide +kernel
theorem dJ9_min_7cf53_6 : decode cJ9_min_7cf53 6 = .ok (.goto 4, 3) := by decide +kernel
theorem dJ9_min_7cf53_9 : decode cJ9_min_7cf53 9 = .ok (.iload_n 1, 1) := by decide +kernel
theorem dJ9_min_7cf53_10 : decode cJ9_min_7cf53 10 = .ok (.ireturn, 1) := by decide +kernel
