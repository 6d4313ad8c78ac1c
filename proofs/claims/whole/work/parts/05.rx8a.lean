theorem dX8_init_0 : decode cX8_init 0 = .ok (.aload_n 0, 1) := by decide +kernel
theorem dX8_init_1 : decode cX8_init 1 = .ok (.invokespecial 1, 3) := by decide +kernel
theorem dX8_init_4 : decode cX8_init 4 = .ok (.aload_n 0, 1) := by decide +kernel
theorem dX8_init_5 : decode cX8_init 5 = .ok (.sipush 704, 3) := by decide +kernel
theorem dX8_init_8 : decode cX8_init 8 = .ok (.newarray .int, 2) := by decide +kernel
theorem dX8_init_10 : decode cX8_init 10 = .ok (.putfield 7, 3) := by decide +kernel
theorem dX8_init_13 : decode cX8_init 13 = .ok (.aload_n 0, 1) := by decide +kernel
theorem dX8_init_14 : decode cX8_init 14 = .ok (.sipush 704, 3) := by decide +kernel
theorem dX8_init_17 : decode cX8_init 17 = .ok (.newarray .int, 2) := by decide +kernel
theorem dX8_init_19 : decode cX8_init 19 = .ok (.putfield 13, 3) := by decide +kernel
theorem dX8_init_22 : decode cX8_init 22 = .ok (.aload_n 0, 1) := by decide +kernel
theorem dX8_init_23 : decode cX8_init 23 = .ok (.sipush 2816, 3) := by decide +kernel
theorem dX8_init_26 : decode cX8_init 26 = .ok (.newarray .int, 2) := by decide +kernel
theorem dX8_init_28 : decode cX8_init 28 = .ok (.putfield 16, 3) := by decide +kernel
theorem dX8_init_31 : decode cX8_init 31 = .ok (.aload_n 0, 1) := by decide +kernel
theorem dX8_init_32 : decode cX8_init 32 = .ok (.sipush 150, 3) := by decide +kernel
theorem dX8_init_35 : decode cX8_init 35 = .ok (.newarray .int, 2) := by decide +kernel
theorem dX8_init_37 : decode cX8_init 37 = .ok (.putfield 19, 3) := by decide +kernel
theorem dX8_init_40 : decode cX8_init 40 = .ok (.aload_n 0, 1) := by decide +kernel
theorem dX8_init_41 : decode cX8_init 41 = .ok (.iconst 5, 1) := by decide +kernel
theorem dX8_init_42 : decode cX8_init 42 = .ok (.newarray .int, 2) := by decide +kernel
theorem dX8_init_44 : decode cX8_init 44 = .ok (.putfield 22, 3) := by decide +kernel
theorem dX8_init_47 : decode cX8_init 47 = .ok (.aload_n 0, 1) := by decide +kernel
theorem dX8_init_48 : decode cX8_init 48 = .ok (.bipush 24, 2) := by decide +kernel
theorem dX8_init_50 : decode cX8_init 50 = .ok (.newarray .int, 2) := by decide +kernel
theorem dX8_init_52 : decode cX8_init 52 = .ok (.putfield 25, 3) := by decide +kernel
theorem dX8_init_55 : decode cX8_init 55 = .ok (.aload_n 0, 1) := by decide +kernel
theorem dX8_init_56 : decode cX8_init 56 = .ok (.getfield 7, 3) := by decide +kernel
theorem dX8_init_59 : decode cX8_init 59 = .ok (.iconst 1, 1) := by decide +kernel
theorem dX8_init_60 : decode cX8_init 60 = .ok (.iconst 2, 1) := by decide +kernel
theorem dX8_init_61 : decode cX8_init 61 = .ok (.iastore, 1) := by decide +kernel
theorem dX8_init_62 : decode cX8_init 62 = .ok (.aload_n 0, 1) := by decide +kernel
theorem dX8_init_63 : decode cX8_init 63 = .ok (.getfield 7, 3) := by decide +kernel
theorem dX8_init_66 : decode cX8_init 66 = .ok (.iconst 2, 1) := by decide +kernel
theorem dX8_init_67 : decode cX8_init 67 = .ok (.iconst 2, 1) := by decide +kernel
theorem dX8_init_68 : decode cX8_init 68 = .ok (.iastore, 1) := by decide +kernel
theorem dX8_init_69 : decode cX8_init 69 = .ok (.return_, 1) := by decide +kernel
theorem dX8_thrown_0 : decode cX8_thrown 0 = .ok (.aload_n 0, 1) := by decide +kernel
theorem dX8_thrown_1 : decode cX8_thrown 1 = .ok (.getfield 28, 3) := by decide +kernel
theorem dX8_thrown_4 : decode cX8_thrown 4 = .ok (.ireturn, 1) := by decide +kernel
theorem dX8_copy_0 : decode cX8_copy 0 = .ok (.iconst 0, 1) := by decide +kernel
theorem dX8_copy_1 : decode cX8_copy 1 = .ok (.istore 4, 2) := by decide +kernel
theorem dX8_copy_3 : decode cX8_copy 3 = .ok (.iload 4, 2) := by decide +kernel
theorem dX8_copy_5 : decode cX8_copy 5 = .ok (.sipush 704, 3) := by decide +kernel
theorem dX8_copy_8 : decode cX8_copy 8 = .ok (.if_icmp .ge 21, 3) := by decide +kernel
theorem dX8_copy_11 : decode cX8_copy 11 = .ok (.aload_n 2, 1) := by decide +kernel
theorem dX8_copy_12 : decode cX8_copy 12 = .ok (.iload_n 3, 1) := by decide +kernel
theorem dX8_copy_13 : decode cX8_copy 13 = .ok (.iload 4, 2) := by decide +kernel
theorem dX8_copy_15 : decode cX8_copy 15 = .ok (.iadd, 1) := by decide +kernel
theorem dX8_copy_16 : decode cX8_copy 16 = .ok (.aload_n 0, 1) := by decide +kernel
theorem dX8_copy_17 : decode cX8_copy 17 = .ok (.iload_n 1, 1) := by decide +kernel
theorem dX8_copy_18 : decode cX8_copy 18 = .ok (.iload 4, 2) := by decide +kernel
theorem dX8_copy_20 : decode cX8_copy 20 = .ok (.iadd, 1) := by decide +kernel
theorem dX8_copy_21 : decode cX8_copy 21 = .ok (.iaload, 1) := by decide +kernel
theorem dX8_copy_22 : decode cX8_copy 22 = .ok (.iastore, 1) := by decide +kernel
theorem dX8_copy_23 : decode cX8_copy 23 = .ok (.iinc 4 1, 3) := by decide +kernel
theorem dX8_copy_26 : decode cX8_copy 26 = .ok (.goto (-23), 3) := by decide +kernel
theorem dX8_copy_29 : decode cX8_copy 29 = .ok (.return_, 1) := by decide +kernel
theorem dX8_within_0 : decode cX8_within 0 = .ok (.iload_n 0, 1) := by decide +kernel
theorem dX8_within_1 : decode cX8_within 1 = .ok (.iload_n 1, 1) := by decide +kernel
theorem dX8_within_2 : decode cX8_within 2 = .ok (.if_icmp .lt 12, 3) := by decide +kernel
theorem dX8_within_5 : decode cX8_within 5 = .ok (.iload_n 0, 1) := by decide +kernel
theorem dX8_within_6 : decode cX8_within 6 = .ok (.iload_n 2, 1) := by decide +kernel
theorem dX8_within_7 : decode cX8_within 7 = .ok (.if_icmp .gt 7, 3) := by decide +kernel
theorem dX8_within_10 : decode cX8_within 10 = .ok (.iconst 1, 1) := by decide +kernel
theorem dX8_within_11 : decode cX8_within 11 = .ok (.goto 4, 3) := by decide +kernel
theorem dX8_within_14 : decode cX8_within 14 = .ok (.iconst 0, 1) := by decide +kernel
theorem dX8_within_15 : decode cX8_within 15 = .ok (.ireturn, 1) := by decide +kernel
set_option maxRecDepth 20000 in
theorem ggX8_save_X8_copy : GoodIn wsX8_save wsX8_copy := goodIn_r _ [7] (by decide +kernel) (by decide +kernel)
set_option maxRecDepth 20000 in
theorem gX8_save_X8_copy : GoodIn wsX8_save (va_wsS RX8 35 yX8_copy wsX8_copy) := goodIn_app (goodIn_of _ (by decide +kernel)) ggX8_save_X8_copy
theorem dX8_save_0 : decode cX8_save 0 = .ok (.aload_n 0, 1) := by decide +kernel
theorem dX8_save_1 : decode cX8_save 1 = .ok (.getfield 32, 3) := by decide +kernel
theorem dX8_save_4 : decode cX8_save 4 = .ok (.iconst 4, 1) := by decide +kernel
theorem dX8_save_5 : decode cX8_save 5 = .ok (.if_icmp .ne 44, 3) := by decide +kernel
theorem dX8_save_8 : decode cX8_save 8 = .ok (.iconst 0, 1) := by decide +kernel
theorem dX8_save_9 : decode cX8_save 9 = .ok (.istore_n 1, 1) := by decide +kernel
theorem dX8_save_10 : decode cX8_save 10 = .ok (.iload_n 1, 1) := by decide +kernel
theorem dX8_save_11 : decode cX8_save 11 = .ok (.sipush 2112, 3) := by decide +kernel
theorem dX8_save_14 : decode cX8_save 14 = .ok (.if_icmp .ge 25, 3) := by decide +kernel
theorem dX8_save_17 : decode cX8_save 17 = .ok (.aload_n 0, 1) := by decide +kernel
theorem dX8_save_18 : decode cX8_save 18 = .ok (.getfield 16, 3) := by decide +kernel
theorem dX8_save_21 : decode cX8_save 21 = .ok (.iload_n 1, 1) := by decide +kernel
theorem dX8_save_22 : decode cX8_save 22 = .ok (.aload_n 0, 1) := by decide +kernel
theorem dX8_save_23 : decode cX8_save 23 = .ok (.getfield 16, 3) := by decide +kernel
theorem dX8_save_26 : decode cX8_save 26 = .ok (.iload_n 1, 1) := by decide +kernel
theorem dX8_save_27 : decode cX8_save 27 = .ok (.sipush 704, 3) := by decide +kernel
theorem dX8_save_30 : decode cX8_save 30 = .ok (.iadd, 1) := by decide +kernel
theorem dX8_save_31 : decode cX8_save 31 = .ok (.iaload, 1) := by decide +kernel
theorem dX8_save_32 : decode cX8_save 32 = .ok (.iastore, 1) := by decide +kernel
theorem dX8_save_33 : decode cX8_save 33 = .ok (.iinc 1 1, 3) := by decide +kernel
theorem dX8_save_36 : decode cX8_save 36 = .ok (.goto (-26), 3) := by decide +kernel
theorem dX8_save_39 : decode cX8_save 39 = .ok (.aload_n 0, 1) := by decide +kernel
theorem dX8_save_40 : decode cX8_save 40 = .ok (.dup, 1) := by decide +kernel
theorem dX8_save_41 : decode cX8_save 41 = .ok (.getfield 32, 3) := by decide +kernel
theorem dX8_save_44 : decode cX8_save 44 = .ok (.iconst 1, 1) := by decide +kernel
theorem dX8_save_45 : decode cX8_save 45 = .ok (.isub, 1) := by decide +kernel
theorem dX8_save_46 : decode cX8_save 46 = .ok (.putfield 32, 3) := by decide +kernel
theorem dX8_save_49 : decode cX8_save 49 = .ok (.aload_n 0, 1) := by decide +kernel
theorem dX8_save_50 : decode cX8_save 50 = .ok (.getfield 7, 3) := by decide +kernel
theorem dX8_save_53 : decode cX8_save 53 = .ok (.iconst 0, 1) := by decide +kernel
theorem dX8_save_54 : decode cX8_save 54 = .ok (.aload_n 0, 1) := by decide +kernel
theorem dX8_save_55 : decode cX8_save 55 = .ok (.getfield 16, 3) := by decide +kernel
theorem dX8_save_58 : decode cX8_save 58 = .ok (.aload_n 0, 1) := by decide +kernel
theorem dX8_save_59 : decode cX8_save 59 = .ok (.getfield 32, 3) := by decide +kernel
theorem dX8_save_62 : decode cX8_save 62 = .ok (.sipush 704, 3) := by decide +kernel
theorem dX8_save_65 : decode cX8_save 65 = .ok (.imul, 1) := by decide +kernel
theorem dX8_save_66 : decode cX8_save 66 = .ok (.invokestatic 35, 3) := by decide +kernel
theorem dX8_save_69 : decode cX8_save 69 = .ok (.aload_n 0, 1) := by decide +kernel
theorem dX8_save_70 : decode cX8_save 70 = .ok (.dup, 1) := by decide +kernel
theorem dX8_save_71 : decode cX8_save 71 = .ok (.getfield 32, 3) := by decide +kernel
theorem dX8_save_74 : decode cX8_save 74 = .ok (.iconst 1, 1) := by decide +kernel
theorem dX8_save_75 : decode cX8_save 75 = .ok (.iadd, 1) := by decide +kernel
theorem dX8_save_76 : decode cX8_save 76 = .ok (.putfield 32, 3) := by decide +kernel
theorem dX8_save_79 : decode cX8_save 79 = .ok (.return_, 1) := by decide +kernel
set_option maxRecDepth 20000 in
theorem ggX8_isCell_X8_within : GoodIn wsX8_isCell wsX8_within := goodIn_r _ [4] (by decide +kernel) (by decide +kernel)
set_option maxRecDepth 20000 in
theorem gX8_isCell_X8_within : GoodIn wsX8_isCell (va_wsS RX8 39 yX8_within wsX8_within) := goodIn_app (goodIn_of _ (by decide +kernel)) ggX8_isCell_X8_within
theorem dX8_isCell_0 : decode cX8_isCell 0 = .ok (.iload_n 1, 1) := by decide +kernel
theorem dX8_isCell_1 : decode cX8_isCell 1 = .ok (.iconst 0, 1) := by decide +kernel
theorem dX8_isCell_2 : decode cX8_isCell 2 = .ok (.bipush 47, 2) := by decide +kernel
theorem dX8_isCell_4 : decode cX8_isCell 4 = .ok (.invokestatic 39, 3) := by decide +kernel
theorem dX8_isCell_7 : decode cX8_isCell 7 = .ok (.ireturn, 1) := by decide +kernel
set_option maxRecDepth 20000 in
theorem ggX8_isRing_X8_within : GoodIn wsX8_isRing wsX8_within := goodIn_r _ [5] (by decide +kernel) (by decide +kernel)
set_option maxRecDepth 20000 in
theorem gX8_isRing_X8_within : GoodIn wsX8_isRing (va_wsS RX8 39 yX8_within wsX8_within) := goodIn_app (goodIn_of _ (by decide +kernel)) ggX8_isRing_X8_within
theorem dX8_isRing_0 : decode cX8_isRing 0 = .ok (.iload_n 1, 1) := by decide +kernel
theorem dX8_isRing_1 : decode cX8_isRing 1 = .ok (.iconst 0, 1) := by decide +kernel
theorem dX8_isRing_2 : decode cX8_isRing 2 = .ok (.aload_n 0, 1) := by decide +kernel
theorem dX8_isRing_3 : decode cX8_isRing 3 = .ok (.getfield 7, 3) := by decide +kernel
theorem dX8_isRing_6 : decode cX8_isRing 6 = .ok (.iconst 3, 1) := by decide +kernel
theorem dX8_isRing_7 : decode cX8_isRing 7 = .ok (.iaload, 1) := by decide +kernel
theorem dX8_isRing_8 : decode cX8_isRing 8 = .ok (.iconst 1, 1) := by decide +kernel
theorem dX8_isRing_9 : decode cX8_isRing 9 = .ok (.isub, 1) := by decide +kernel
theorem dX8_isRing_10 : decode cX8_isRing 10 = .ok (.invokestatic 39, 3) := by decide +kernel
theorem dX8_isRing_13 : decode cX8_isRing 13 = .ok (.ireturn, 1) := by decide +kernel
set_option maxRecDepth 20000 in
theorem ggX8_isMove_X8_within : GoodIn wsX8_isMove wsX8_within := goodIn_r _ [5] (by decide +kernel) (by decide +kernel)
set_option maxRecDepth 20000 in
theorem gX8_isMove_X8_within : GoodIn wsX8_isMove (va_wsS RX8 39 yX8_within wsX8_within) := goodIn_app (goodIn_of _ (by decide +kernel)) ggX8_isMove_X8_within
theorem dX8_isMove_0 : decode cX8_isMove 0 = .ok (.iload_n 1, 1) := by decide +kernel
theorem dX8_isMove_1 : decode cX8_isMove 1 = .ok (.iconst 0, 1) := by decide +kernel
theorem dX8_isMove_2 : decode cX8_isMove 2 = .ok (.aload_n 0, 1) := by decide +kernel
theorem dX8_isMove_3 : decode cX8_isMove 3 = .ok (.getfield 7, 3) := by decide +kernel
theorem dX8_isMove_6 : decode cX8_isMove 6 = .ok (.iconst 4, 1) := by decide +kernel
theorem dX8_isMove_7 : decode cX8_isMove 7 = .ok (.iaload, 1) := by decide +kernel
theorem dX8_isMove_8 : decode cX8_isMove 8 = .ok (.iconst 1, 1) := by decide +kernel
theorem dX8_isMove_9 : decode cX8_isMove 9 = .ok (.isub, 1) := by decide +kernel
theorem dX8_isMove_10 : decode cX8_isMove 10 = .ok (.invokestatic 39, 3) := by decide +kernel
theorem dX8_isMove_13 : decode cX8_isMove 13 = .ok (.ireturn, 1) := by decide +kernel
theorem dX8_ringPart_0 : decode cX8_ringPart 0 = .ok (.aload_n 0, 1) := by decide +kernel
theorem dX8_ringPart_1 : decode cX8_ringPart 1 = .ok (.getfield 7, 3) := by decide +kernel
theorem dX8_ringPart_4 : decode cX8_ringPart 4 = .ok (.bipush 56, 2) := by decide +kernel
theorem dX8_ringPart_6 : decode cX8_ringPart 6 = .ok (.iconst 4, 1) := by decide +kernel
theorem dX8_ringPart_7 : decode cX8_ringPart 7 = .ok (.iload_n 1, 1) := by decide +kernel
theorem dX8_ringPart_8 : decode cX8_ringPart 8 = .ok (.imul, 1) := by decide +kernel
theorem dX8_ringPart_9 : decode cX8_ringPart 9 = .ok (.iadd, 1) := by decide +kernel
theorem dX8_ringPart_10 : decode cX8_ringPart 10 = .ok (.iload_n 2, 1) := by decide +kernel
theorem dX8_ringPart_11 : decode cX8_ringPart 11 = .ok (.iadd, 1) := by decide +kernel
theorem dX8_ringPart_12 : decode cX8_ringPart 12 = .ok (.iaload, 1) := by decide +kernel
theorem dX8_ringPart_13 : decode cX8_ringPart 13 = .ok (.ireturn, 1) := by decide +kernel
theorem dX8_movePart_0 : decode cX8_movePart 0 = .ok (.aload_n 0, 1) := by decide +kernel
theorem dX8_movePart_1 : decode cX8_movePart 1 = .ok (.getfield 7, 3) := by decide +kernel
theorem dX8_movePart_4 : decode cX8_movePart 4 = .ok (.bipush 80, 2) := by decide +kernel
theorem dX8_movePart_6 : decode cX8_movePart 6 = .ok (.bipush 10, 2) := by decide +kernel
theorem dX8_movePart_8 : decode cX8_movePart 8 = .ok (.iload_n 1, 1) := by decide +kernel
theorem dX8_movePart_9 : decode cX8_movePart 9 = .ok (.imul, 1) := by decide +kernel
theorem dX8_movePart_10 : decode cX8_movePart 10 = .ok (.iadd, 1) := by decide +kernel
theorem dX8_movePart_11 : decode cX8_movePart 11 = .ok (.iload_n 2, 1) := by decide +kernel
theorem dX8_movePart_12 : decode cX8_movePart 12 = .ok (.iadd, 1) := by decide +kernel
theorem dX8_movePart_13 : decode cX8_movePart 13 = .ok (.iaload, 1) := by decide +kernel
theorem dX8_movePart_14 : decode cX8_movePart 14 = .ok (.ireturn, 1) := by decide +kernel
theorem dX8_setMovePart_0 : decode cX8_setMovePart 0 = .ok (.aload_n 0, 1) := by decide +kernel
theorem dX8_setMovePart_1 : decode cX8_setMovePart 1 = .ok (.getfield 7, 3) := by decide +kernel
theorem dX8_setMovePart_4 : decode cX8_setMovePart 4 = .ok (.bipush 80, 2) := by decide +kernel
theorem dX8_setMovePart_6 : decode cX8_setMovePart 6 = .ok (.bipush 10, 2) := by decide +kernel
theorem dX8_setMovePart_8 : decode cX8_setMovePart 8 = .ok (.iload_n 1, 1) := by decide +kernel
theorem dX8_setMovePart_9 : decode cX8_setMovePart 9 = .ok (.imul, 1) := by decide +kernel
theorem dX8_setMovePart_10 : decode cX8_setMovePart 10 = .ok (.iadd, 1) := by decide +kernel
theorem dX8_setMovePart_11 : decode cX8_setMovePart 11 = .ok (.iload_n 2, 1) := by decide +kernel
theorem dX8_setMovePart_12 : decode cX8_setMovePart 12 = .ok (.iadd, 1) := by decide +kernel
theorem dX8_setMovePart_13 : decode cX8_setMovePart 13 = .ok (.iload_n 3, 1) := by decide +kernel
theorem dX8_setMovePart_14 : decode cX8_setMovePart 14 = .ok (.iastore, 1) := by decide +kernel
theorem dX8_setMovePart_15 : decode cX8_setMovePart 15 = .ok (.return_, 1) := by decide +kernel
set_option maxRecDepth 20000 in
theorem ggX8_whyNoRing_X8_isCell : GoodIn wsX8_whyNoRing wsX8_isCell := goodIn_r _ [6, 7, 8, 5, 9] (by decide +kernel) (by decide +kernel)
set_option maxRecDepth 20000 in
theorem gX8_whyNoRing_X8_isCell : GoodIn wsX8_whyNoRing (wsV RX8 43 RX8 yX8_isCell wsX8_isCell) := goodIn_app (goodIn_of _ (by decide +kernel)) ggX8_whyNoRing_X8_isCell
set_option maxRecDepth 20000 in
theorem ggX8_whyNoRing_X8_within : GoodIn wsX8_whyNoRing wsX8_within := goodIn_r _ [9] (by decide +kernel) (by decide +kernel)
set_option maxRecDepth 20000 in
theorem gX8_whyNoRing_X8_within : GoodIn wsX8_whyNoRing (va_wsS RX8 39 yX8_within wsX8_within) := goodIn_app (goodIn_of _ (by decide +kernel)) ggX8_whyNoRing_X8_within
set_option maxRecDepth 20000 in
theorem ggX8_whyNoRing_X8_ringPart : GoodIn wsX8_whyNoRing wsX8_ringPart := goodIn_r _ [13, 1, 14, 15, 16, 17, 18, 19, 20, 21, 22, 23, 24] (by decide +kernel) (by decide +kernel)
set_option maxRecDepth 20000 in
theorem gX8_whyNoRing_X8_ringPart : GoodIn wsX8_whyNoRing (wsV RX8 47 RX8 yX8_ringPart wsX8_ringPart) := goodIn_app (goodIn_of _ (by decide +kernel)) ggX8_whyNoRing_X8_ringPart
theorem dX8_whyNoRing_0 : decode cX8_whyNoRing 0 = .ok (.aload_n 0, 1) := by decide +kernel
theorem dX8_whyNoRing_1 : decode cX8_whyNoRing 1 = .ok (.iload_n 1, 1) := by decide +kernel
theorem dX8_whyNoRing_2 : decode cX8_whyNoRing 2 = .ok (.invokevirtual 43, 3) := by decide +kernel
theorem dX8_whyNoRing_5 : decode cX8_whyNoRing 5 = .ok (.ifCond .ne 5, 3) := by decide +kernel
theorem dX8_whyNoRing_8 : decode cX8_whyNoRing 8 = .ok (.iconst 1, 1) := by decide +kernel
theorem dX8_whyNoRing_9 : decode cX8_whyNoRing 9 = .ok (.ireturn, 1) := by decide +kernel
theorem dX8_whyNoRing_10 : decode cX8_whyNoRing 10 = .ok (.iload_n 2, 1) := by decide +kernel
theorem dX8_whyNoRing_11 : decode cX8_whyNoRing 11 = .ok (.iconst 2, 1) := by decide +kernel
theorem dX8_whyNoRing_12 : decode cX8_whyNoRing 12 = .ok (.bipush 16, 2) := by decide +kernel
theorem dX8_whyNoRing_14 : decode cX8_whyNoRing 14 = .ok (.invokestatic 39, 3) := by decide +kernel
theorem dX8_whyNoRing_17 : decode cX8_whyNoRing 17 = .ok (.ifCond .eq 21, 3) := by decide +kernel
theorem dX8_whyNoRing_20 : decode cX8_whyNoRing 20 = .ok (.iload_n 3, 1) := by decide +kernel
theorem dX8_whyNoRing_21 : decode cX8_whyNoRing 21 = .ok (.iconst 0, 1) := by decide +kernel
theorem dX8_whyNoRing_22 : decode cX8_whyNoRing 22 = .ok (.bipush 50, 2) := by decide +kernel
theorem dX8_whyNoRing_24 : decode cX8_whyNoRing 24 = .ok (.invokestatic 39, 3) := by decide +kernel
theorem dX8_whyNoRing_27 : decode cX8_whyNoRing 27 = .ok (.ifCond .eq 11, 3) := by decide +kernel
theorem dX8_whyNoRing_30 : decode cX8_whyNoRing 30 = .ok (.iload_n 1, 1) := by decide +kernel
theorem dX8_whyNoRing_31 : decode cX8_whyNoRing 31 = .ok (.iload_n 2, 1) := by decide +kernel
theorem dX8_whyNoRing_32 : decode cX8_whyNoRing 32 = .ok (.iadd, 1) := by decide +kernel
theorem dX8_whyNoRing_33 : decode cX8_whyNoRing 33 = .ok (.bipush 48, 2) := by decide +kernel
theorem dX8_whyNoRing_35 : decode cX8_whyNoRing 35 = .ok (.if_icmp .le 5, 3) := by decide +kernel
theorem dX8_whyNoRing_38 : decode cX8_whyNoRing 38 = .ok (.iconst 2, 1) := by decide +kernel
theorem dX8_whyNoRing_39 : decode cX8_whyNoRing 39 = .ok (.ireturn, 1) := by decide +kernel
theorem dX8_whyNoRing_40 : decode cX8_whyNoRing 40 = .ok (.aload_n 0, 1) := by decide +kernel
theorem dX8_whyNoRing_41 : decode cX8_whyNoRing 41 = .ok (.getfield 7, 3) := by decide +kernel
theorem dX8_whyNoRing_44 : decode cX8_whyNoRing 44 = .ok (.iconst 3, 1) := by decide +kernel
theorem dX8_whyNoRing_45 : decode cX8_whyNoRing 45 = .ok (.iaload, 1) := by decide +kernel
theorem dX8_whyNoRing_46 : decode cX8_whyNoRing 46 = .ok (.bipush 6, 2) := by decide +kernel
theorem dX8_whyNoRing_48 : decode cX8_whyNoRing 48 = .ok (.if_icmp .ne 7, 3) := by decide +kernel
theorem dX8_whyNoRing_51 : decode cX8_whyNoRing 51 = .ok (.iconst 3, 1) := by decide +kernel
theorem dX8_whyNoRing_52 : decode cX8_whyNoRing 52 = .ok (.goto 4, 3) := by decide +kernel
theorem dX8_whyNoRing_55 : decode cX8_whyNoRing 55 = .ok (.iconst 0, 1) := by decide +kernel
theorem dX8_whyNoRing_56 : decode cX8_whyNoRing 56 = .ok (.istore 4, 2) := by decide +kernel
theorem dX8_whyNoRing_58 : decode cX8_whyNoRing 58 = .ok (.iconst 0, 1) := by decide +kernel
theorem dX8_whyNoRing_59 : decode cX8_whyNoRing 59 = .ok (.istore 5, 2) := by decide +kernel
theorem dX8_whyNoRing_61 : decode cX8_whyNoRing 61 = .ok (.iload 5, 2) := by decide +kernel
theorem dX8_whyNoRing_63 : decode cX8_whyNoRing 63 = .ok (.aload_n 0, 1) := by decide +kernel
theorem dX8_whyNoRing_64 : decode cX8_whyNoRing 64 = .ok (.getfield 7, 3) := by decide +kernel
theorem dX8_whyNoRing_67 : decode cX8_whyNoRing 67 = .ok (.iconst 3, 1) := by decide +kernel
theorem dX8_whyNoRing_68 : decode cX8_whyNoRing 68 = .ok (.iaload, 1) := by decide +kernel
theorem dX8_whyNoRing_69 : decode cX8_whyNoRing 69 = .ok (.if_icmp .ge 48, 3) := by decide +kernel
theorem dX8_whyNoRing_72 : decode cX8_whyNoRing 72 = .ok (.aload_n 0, 1) := by decide +kernel
theorem dX8_whyNoRing_73 : decode cX8_whyNoRing 73 = .ok (.iload 5, 2) := by decide +kernel
theorem dX8_whyNoRing_75 : decode cX8_whyNoRing 75 = .ok (.iconst 0, 1) := by decide +kernel
theorem dX8_whyNoRing_76 : decode cX8_whyNoRing 76 = .ok (.invokevirtual 47, 3) := by decide +kernel
theorem dX8_whyNoRing_79 : decode cX8_whyNoRing 79 = .ok (.istore 6, 2) := by decide +kernel
theorem dX8_whyNoRing_81 : decode cX8_whyNoRing 81 = .ok (.iload_n 1, 1) := by decide +kernel
theorem dX8_whyNoRing_82 : decode cX8_whyNoRing 82 = .ok (.iload 6, 2) := by decide +kernel
theorem dX8_whyNoRing_84 : decode cX8_whyNoRing 84 = .ok (.aload_n 0, 1) := by decide +kernel
theorem dX8_whyNoRing_85 : decode cX8_whyNoRing 85 = .ok (.iload 5, 2) := by decide +kernel
theorem dX8_whyNoRing_87 : decode cX8_whyNoRing 87 = .ok (.iconst 1, 1) := by decide +kernel
theorem dX8_whyNoRing_88 : decode cX8_whyNoRing 88 = .ok (.invokevirtual 47, 3) := by decide +kernel
theorem dX8_whyNoRing_91 : decode cX8_whyNoRing 91 = .ok (.iadd, 1) := by decide +kernel
theorem dX8_whyNoRing_92 : decode cX8_whyNoRing 92 = .ok (.if_icmp .ge 15, 3) := by decide +kernel
theorem dX8_whyNoRing_95 : decode cX8_whyNoRing 95 = .ok (.iload 6, 2) := by decide +kernel
theorem dX8_whyNoRing_97 : decode cX8_whyNoRing 97 = .ok (.iload_n 1, 1) := by decide +kernel
theorem dX8_whyNoRing_98 : decode cX8_whyNoRing 98 = .ok (.iload_n 2, 1) := by decide +kernel
theorem dX8_whyNoRing_99 : decode cX8_whyNoRing 99 = .ok (.iadd, 1) := by decide +kernel
theorem dX8_whyNoRing_100 : decode cX8_whyNoRing 100 = .ok (.if_icmp .ge 7, 3) := by decide +kernel
theorem dX8_whyNoRing_103 : decode cX8_whyNoRing 103 = .ok (.iconst 3, 1) := by decide +kernel
theorem dX8_whyNoRing_104 : decode cX8_whyNoRing 104 = .ok (.goto 5, 3) := by decide +kernel
theorem dX8_whyNoRing_107 : decode cX8_whyNoRing 107 = .ok (.iload 4, 2) := by decide +kernel
theorem dX8_whyNoRing_109 : decode cX8_whyNoRing 109 = .ok (.istore 4, 2) := by decide +kernel
theorem dX8_whyNoRing_111 : decode cX8_whyNoRing 111 = .ok (.iinc 5 1, 3) := by decide +kernel
theorem dX8_whyNoRing_114 : decode cX8_whyNoRing 114 = .ok (.goto (-53), 3) := by decide +kernel
theorem dX8_whyNoRing_117 : decode cX8_whyNoRing 117 = .ok (.iload 4, 2) := by decide +kernel
theorem dX8_whyNoRing_119 : decode cX8_whyNoRing 119 = .ok (.ireturn, 1) := by decide +kernel
theorem dX8_putRing_0 : decode cX8_putRing 0 = .ok (.aload_n 0, 1) := by decide +kernel
theorem dX8_putRing_1 : decode cX8_putRing 1 = .ok (.getfield 7, 3) := by decide +kernel
theorem dX8_putRing_4 : decode cX8_putRing 4 = .ok (.iconst 3, 1) := by decide +kernel
theorem dX8_putRing_5 : decode cX8_putRing 5 = .ok (.iaload, 1) := by decide +kernel
theorem dX8_putRing_6 : decode cX8_putRing 6 = .ok (.istore 4, 2) := by decide +kernel
theorem dX8_putRing_8 : decode cX8_putRing 8 = .ok (.aload_n 0, 1) := by decide +kernel
theorem dX8_putRing_9 : decode cX8_putRing 9 = .ok (.getfield 7, 3) := by decide +kernel
theorem dX8_putRing_12 : decode cX8_putRing 12 = .ok (.bipush 56, 2) := by decide +kernel
theorem dX8_putRing_14 : decode cX8_putRing 14 = .ok (.iconst 4, 1) := by decide +kernel
theorem dX8_putRing_15 : decode cX8_putRing 15 = .ok (.iload 4, 2) := by decide +kernel
theorem dX8_putRing_17 : decode cX8_putRing 17 = .ok (.imul, 1) := by decide +kernel
theorem dX8_putRing_18 : decode cX8_putRing 18 = .ok (.iadd, 1) := by decide +kernel
theorem dX8_putRing_19 : decode cX8_putRing 19 = .ok (.iconst 0, 1) := by decide +kernel
theorem dX8_putRing_20 : decode cX8_putRing 20 = .ok (.iadd, 1) := by decide +kernel
theorem dX8_putRing_21 : decode cX8_putRing 21 = .ok (.iload_n 1, 1) := by decide +kernel
theorem dX8_putRing_22 : decode cX8_putRing 22 = .ok (.iastore, 1) := by decide +kernel
theorem dX8_putRing_23 : decode cX8_putRing 23 = .ok (.aload_n 0, 1) := by decide +kernel
theorem dX8_putRing_24 : decode cX8_putRing 24 = .ok (.getfield 7, 3) := by decide +kernel
theorem dX8_putRing_27 : decode cX8_putRing 27 = .ok (.bipush 56, 2) := by decide +kernel
theorem dX8_putRing_29 : decode cX8_putRing 29 = .ok (.iconst 4, 1) := by decide +kernel
theorem dX8_putRing_30 : decode cX8_putRing 30 = .ok (.iload 4, 2) := by decide +kernel
theorem dX8_putRing_32 : decode cX8_putRing 32 = .ok (.imul, 1) := by decide +kernel
theorem dX8_putRing_33 : decode cX8_putRing 33 = .ok (.iadd, 1) := by decide +kernel
theorem dX8_putRing_34 : decode cX8_putRing 34 = .ok (.iconst 1, 1) := by decide +kernel
theorem dX8_putRing_35 : decode cX8_putRing 35 = .ok (.iadd, 1) := by decide +kernel
theorem dX8_putRing_36 : decode cX8_putRing 36 = .ok (.iload_n 2, 1) := by decide +kernel
theorem dX8_putRing_37 : decode cX8_putRing 37 = .ok (.iastore, 1) := by decide +kernel
theorem dX8_putRing_38 : decode cX8_putRing 38 = .ok (.aload_n 0, 1) := by decide +kernel
theorem dX8_putRing_39 : decode cX8_putRing 39 = .ok (.getfield 7, 3) := by decide +kernel
theorem dX8_putRing_42 : decode cX8_putRing 42 = .ok (.bipush 56, 2) := by decide +kernel
theorem dX8_putRing_44 : decode cX8_putRing 44 = .ok (.iconst 4, 1) := by decide +kernel
theorem dX8_putRing_45 : decode cX8_putRing 45 = .ok (.iload 4, 2) := by decide +kernel
theorem dX8_putRing_47 : decode cX8_putRing 47 = .ok (.imul, 1) := by decide +kernel
theorem dX8_putRing_48 : decode cX8_putRing 48 = .ok (.iadd, 1) := by decide +kernel
theorem dX8_putRing_49 : decode cX8_putRing 49 = .ok (.iconst 2, 1) := by decide +kernel
theorem dX8_putRing_50 : decode cX8_putRing 50 = .ok (.iadd, 1) := by decide +kernel
theorem dX8_putRing_51 : decode cX8_putRing 51 = .ok (.iload_n 3, 1) := by decide +kernel
theorem dX8_putRing_52 : decode cX8_putRing 52 = .ok (.iastore, 1) := by decide +kernel
theorem dX8_putRing_53 : decode cX8_putRing 53 = .ok (.aload_n 0, 1) := by decide +kernel
theorem dX8_putRing_54 : decode cX8_putRing 54 = .ok (.getfield 7, 3) := by decide +kernel
theorem dX8_putRing_57 : decode cX8_putRing 57 = .ok (.bipush 56, 2) := by decide +kernel
theorem dX8_putRing_59 : decode cX8_putRing 59 = .ok (.iconst 4, 1) := by decide +kernel
theorem dX8_putRing_60 : decode cX8_putRing 60 = .ok (.iload 4, 2) := by decide +kernel
theorem dX8_putRing_62 : decode cX8_putRing 62 = .ok (.imul, 1) := by decide +kernel
theorem dX8_putRing_63 : decode cX8_putRing 63 = .ok (.iadd, 1) := by decide +kernel
theorem dX8_putRing_64 : decode cX8_putRing 64 = .ok (.iconst 3, 1) := by decide +kernel
theorem dX8_putRing_65 : decode cX8_putRing 65 = .ok (.iadd, 1) := by decide +kernel
theorem dX8_putRing_66 : decode cX8_putRing 66 = .ok (.iconst 0, 1) := by decide +kernel
theorem dX8_putRing_67 : decode cX8_putRing 67 = .ok (.iastore, 1) := by decide +kernel
theorem dX8_putRing_68 : decode cX8_putRing 68 = .ok (.aload_n 0, 1) := by decide +kernel
theorem dX8_putRing_69 : decode cX8_putRing 69 = .ok (.getfield 7, 3) := by decide +kernel
theorem dX8_putRing_72 : decode cX8_putRing 72 = .ok (.iconst 3, 1) := by decide +kernel
theorem dX8_putRing_73 : decode cX8_putRing 73 = .ok (.dup2, 1) := by decide +kernel
theorem dX8_putRing_74 : decode cX8_putRing 74 = .ok (.iaload, 1) := by decide +kernel
theorem dX8_putRing_75 : decode cX8_putRing 75 = .ok (.iconst 1, 1) := by decide +kernel
theorem dX8_putRing_76 : decode cX8_putRing 76 = .ok (.iadd, 1) := by decide +kernel
theorem dX8_putRing_77 : decode cX8_putRing 77 = .ok (.iastore, 1) := by decide +kernel
theorem dX8_putRing_78 : decode cX8_putRing 78 = .ok (.iload 4, 2) := by decide +kernel
theorem dX8_putRing_80 : decode cX8_putRing 80 = .ok (.ireturn, 1) := by decide +kernel
set_option maxRecDepth 20000 in
theorem ggX8_addRing_X8_whyNoRing : GoodIn wsX8_addRing wsX8_whyNoRing := goodIn_r _ [6, 7, 8, 9, 10, 5, 11, 12, 13, 14, 15, 16, 17, 18, 32, 33, 34, 35, 36, 37, 38, 39, 40, 41, 42] (by decide +kernel) (by decide +kernel)
set_option maxRecDepth 20000 in
theorem gX8_addRing_X8_whyNoRing : GoodIn wsX8_addRing (wsV RX8 51 RX8 yX8_whyNoRing wsX8_whyNoRing) := goodIn_app (goodIn_of _ (by decide +kernel)) ggX8_addRing_X8_whyNoRing
set_option maxRecDepth 20000 in
theorem ggX8_addRing_X8_save : GoodIn wsX8_addRing wsX8_save := goodIn_r _ [22, 23, 24, 7, 25, 26, 5, 27, 32, 33, 34, 35, 36, 37, 38, 39, 40, 41, 42] (by decide +kernel) (by decide +kernel)
set_option maxRecDepth 20000 in
theorem gX8_addRing_X8_save : GoodIn wsX8_addRing (wsV RX8 55 RX8 yX8_save wsX8_save) := goodIn_app (goodIn_of _ (by decide +kernel)) ggX8_addRing_X8_save
set_option maxRecDepth 20000 in
theorem ggX8_addRing_X8_putRing : GoodIn wsX8_addRing wsX8_putRing := goodIn_r _ [31, 7, 32, 33, 34, 35, 36, 37, 38, 39, 40, 41, 42] (by decide +kernel) (by decide +kernel)
set_option maxRecDepth 20000 in
theorem gX8_addRing_X8_putRing : GoodIn wsX8_addRing (wsV RX8 58 RX8 yX8_putRing wsX8_putRing) := goodIn_app (goodIn_of _ (by decide +kernel)) ggX8_addRing_X8_putRing
theorem dX8_addRing_0 : decode cX8_addRing 0 = .ok (.aload_n 0, 1) := by decide +kernel
theorem dX8_addRing_1 : decode cX8_addRing 1 = .ok (.aload_n 0, 1) := by decide +kernel
theorem dX8_addRing_2 : decode cX8_addRing 2 = .ok (.iload_n 1, 1) := by decide +kernel
theorem dX8_addRing_3 : decode cX8_addRing 3 = .ok (.iload_n 2, 1) := by decide +kernel
theorem dX8_addRing_4 : decode cX8_addRing 4 = .ok (.iload_n 3, 1) := by decide +kernel
theorem dX8_addRing_5 : decode cX8_addRing 5 = .ok (.invokevirtual 51, 3) := by decide +kernel
theorem dX8_addRing_8 : decode cX8_addRing 8 = .ok (.putfield 28, 3) := by decide +kernel
theorem dX8_addRing_11 : decode cX8_addRing 11 = .ok (.aload_n 0, 1) := by decide +kernel
theorem dX8_addRing_12 : decode cX8_addRing 12 = .ok (.getfield 28, 3) := by decide +kernel
theorem dX8_addRing_15 : decode cX8_addRing 15 = .ok (.ifCond .le 5, 3) := by decide +kernel
theorem dX8_addRing_18 : decode cX8_addRing 18 = .ok (.iconst 0, 1) := by decide +kernel
theorem dX8_addRing_19 : decode cX8_addRing 19 = .ok (.ireturn, 1) := by decide +kernel
theorem dX8_addRing_20 : decode cX8_addRing 20 = .ok (.aload_n 0, 1) := by decide +kernel
theorem dX8_addRing_21 : decode cX8_addRing 21 = .ok (.invokevirtual 55, 3) := by decide +kernel
theorem dX8_addRing_24 : decode cX8_addRing 24 = .ok (.aload_n 0, 1) := by decide +kernel
theorem dX8_addRing_25 : decode cX8_addRing 25 = .ok (.iload_n 1, 1) := by decide +kernel
theorem dX8_addRing_26 : decode cX8_addRing 26 = .ok (.iload_n 2, 1) := by decide +kernel
theorem dX8_addRing_27 : decode cX8_addRing 27 = .ok (.iload_n 3, 1) := by decide +kernel
theorem dX8_addRing_28 : decode cX8_addRing 28 = .ok (.invokevirtual 58, 3) := by decide +kernel
theorem dX8_addRing_31 : decode cX8_addRing 31 = .ok (.ireturn, 1) := by decide +kernel
set_option maxRecDepth 20000 in
theorem ggX8_setPatience_X8_isRing : GoodIn wsX8_setPatience wsX8_isRing := goodIn_r _ [7, 2, 8, 9, 6, 10, 24, 25, 26, 27, 28, 29, 30, 31, 32, 33, 34] (by decide +kernel) (by decide +kernel)
set_option maxRecDepth 20000 in
theorem gX8_setPatience_X8_isRing : GoodIn wsX8_setPatience (wsV RX8 61 RX8 yX8_isRing wsX8_isRing) := goodIn_app (goodIn_of _ (by decide +kernel)) ggX8_setPatience_X8_isRing
set_option maxRecDepth 20000 in
theorem ggX8_setPatience_X8_within : GoodIn wsX8_setPatience wsX8_within := goodIn_r _ [10] (by decide +kernel) (by decide +kernel)
set_option maxRecDepth 20000 in
theorem gX8_setPatience_X8_within : GoodIn wsX8_setPatience (va_wsS RX8 39 yX8_within wsX8_within) := goodIn_app (goodIn_of _ (by decide +kernel)) ggX8_setPatience_X8_within
set_option maxRecDepth 20000 in
theorem ggX8_setPatience_X8_save : GoodIn wsX8_setPatience wsX8_save := goodIn_r _ [14, 15, 16, 2, 17, 18, 6, 19, 24, 25, 26, 27, 28, 29, 30, 31, 32, 33, 34] (by decide +kernel) (by decide +kernel)
set_option maxRecDepth 20000 in
theorem gX8_setPatience_X8_save : GoodIn wsX8_setPatience (wsV RX8 55 RX8 yX8_save wsX8_save) := goodIn_app (goodIn_of _ (by decide +kernel)) ggX8_setPatience_X8_save
set_option maxRecDepth 20000 in
theorem ggX8_setPatience_X8_ringPart : GoodIn wsX8_setPatience wsX8_ringPart := goodIn_r _ [23, 2, 24, 25, 26, 27, 28, 29, 30, 31, 32, 33, 34] (by decide +kernel) (by decide +kernel)
set_option maxRecDepth 20000 in
theorem gX8_setPatience_X8_ringPart : GoodIn wsX8_setPatience (wsV RX8 47 RX8 yX8_ringPart wsX8_ringPart) := goodIn_app (goodIn_of _ (by decide +kernel)) ggX8_setPatience_X8_ringPart
theorem dX8_setPatience_0 : decode cX8_setPatience 0 = .ok (.aload_n 0, 1) := by decide +kernel
theorem dX8_setPatience_1 : decode cX8_setPatience 1 = .ok (.aload_n 0, 1) := by decide +kernel
theorem dX8_setPatience_2 : decode cX8_setPatience 2 = .ok (.iload_n 1, 1) := by decide +kernel
theorem dX8_setPatience_3 : decode cX8_setPatience 3 = .ok (.invokevirtual 61, 3) := by decide +kernel
theorem dX8_setPatience_6 : decode cX8_setPatience 6 = .ok (.ifCond .ne 7, 3) := by decide +kernel
theorem dX8_setPatience_9 : decode cX8_setPatience 9 = .ok (.iconst 1, 1) := by decide +kernel
theorem dX8_setPatience_10 : decode cX8_setPatience 10 = .ok (.goto 18, 3) := by decide +kernel
theorem dX8_setPatience_13 : decode cX8_setPatience 13 = .ok (.iload_n 2, 1) := by decide +kernel
theorem dX8_setPatience_14 : decode cX8_setPatience 14 = .ok (.iconst 0, 1) := by decide +kernel
theorem dX8_setPatience_15 : decode cX8_setPatience 15 = .ok (.bipush 50, 2) := by decide +kernel
theorem dX8_setPatience_17 : decode cX8_setPatience 17 = .ok (.invokestatic 39, 3) := by decide +kernel
theorem dX8_setPatience_20 : decode cX8_setPatience 20 = .ok (.ifCond .eq 7, 3) := by decide +kernel
theorem dX8_setPatience_23 : decode cX8_setPatience 23 = .ok (.iconst 0, 1) := by decide +kernel
theorem dX8_setPatience_24 : decode cX8_setPatience 24 = .ok (.goto 4, 3) := by decide +kernel
theorem dX8_setPatience_27 : decode cX8_setPatience 27 = .ok (.iconst 2, 1) := by decide +kernel
theorem dX8_setPatience_28 : decode cX8_setPatience 28 = .ok (.putfield 28, 3) := by decide +kernel
theorem dX8_setPatience_31 : decode cX8_setPatience 31 = .ok (.aload_n 0, 1) := by decide +kernel
theorem dX8_setPatience_32 : decode cX8_setPatience 32 = .ok (.getfield 28, 3) := by decide +kernel
theorem dX8_setPatience_35 : decode cX8_setPatience 35 = .ok (.ifCond .le 5, 3) := by decide +kernel
theorem dX8_setPatience_38 : decode cX8_setPatience 38 = .ok (.iconst 0, 1) := by decide +kernel
theorem dX8_setPatience_39 : decode cX8_setPatience 39 = .ok (.ireturn, 1) := by decide +kernel
theorem dX8_setPatience_40 : decode cX8_setPatience 40 = .ok (.aload_n 0, 1) := by decide +kernel
theorem dX8_setPatience_41 : decode cX8_setPatience 41 = .ok (.invokevirtual 55, 3) := by decide +kernel
theorem dX8_setPatience_44 : decode cX8_setPatience 44 = .ok (.aload_n 0, 1) := by decide +kernel
theorem dX8_setPatience_45 : decode cX8_setPatience 45 = .ok (.iload_n 1, 1) := by decide +kernel
theorem dX8_setPatience_46 : decode cX8_setPatience 46 = .ok (.iconst 2, 1) := by decide +kernel
theorem dX8_setPatience_47 : decode cX8_setPatience 47 = .ok (.invokevirtual 47, 3) := by decide +kernel
theorem dX8_setPatience_50 : decode cX8_setPatience 50 = .ok (.istore_n 3, 1) := by decide +kernel
theorem dX8_setPatience_51 : decode cX8_setPatience 51 = .ok (.aload_n 0, 1) := by decide +kernel
theorem dX8_setPatience_52 : decode cX8_setPatience 52 = .ok (.getfield 7, 3) := by decide +kernel
theorem dX8_setPatience_55 : decode cX8_setPatience 55 = .ok (.bipush 56, 2) := by decide +kernel
theorem dX8_setPatience_57 : decode cX8_setPatience 57 = .ok (.iconst 4, 1) := by decide +kernel
theorem dX8_setPatience_58 : decode cX8_setPatience 58 = .ok (.iload_n 1, 1) := by decide +kernel
theorem dX8_setPatience_59 : decode cX8_setPatience 59 = .ok (.imul, 1) := by decide +kernel
theorem dX8_setPatience_60 : decode cX8_setPatience 60 = .ok (.iadd, 1) := by decide +kernel
theorem dX8_setPatience_61 : decode cX8_setPatience 61 = .ok (.iconst 2, 1) := by decide +kernel
theorem dX8_setPatience_62 : decode cX8_setPatience 62 = .ok (.iadd, 1) := by decide +kernel
theorem dX8_setPatience_63 : decode cX8_setPatience 63 = .ok (.iload_n 2, 1) := by decide +kernel
theorem dX8_setPatience_64 : decode cX8_setPatience 64 = .ok (.iastore, 1) := by decide +kernel
theorem dX8_setPatience_65 : decode cX8_setPatience 65 = .ok (.iload_n 3, 1) := by decide +kernel
theorem dX8_setPatience_66 : decode cX8_setPatience 66 = .ok (.ireturn, 1) := by decide +kernel
set_option maxRecDepth 20000 in
theorem ggX8_whyNoSetting_X8_within : GoodIn wsX8_whyNoSetting wsX8_within := goodIn_r _ [4] (by decide +kernel) (by decide +kernel)
set_option maxRecDepth 20000 in
theorem gX8_whyNoSetting_X8_within : GoodIn wsX8_whyNoSetting (va_wsS RX8 39 yX8_within wsX8_within) := goodIn_app (goodIn_of _ (by decide +kernel)) ggX8_whyNoSetting_X8_within
theorem dX8_whyNoSetting_0 : decode cX8_whyNoSetting 0 = .ok (.iload_n 1, 1) := by decide +kernel
theorem dX8_whyNoSetting_1 : decode cX8_whyNoSetting 1 = .ok (.ifCond .ne 13, 3) := by decide +kernel
theorem dX8_whyNoSetting_4 : decode cX8_whyNoSetting 4 = .ok (.iload_n 2, 1) := by decide +kernel
theorem dX8_whyNoSetting_5 : decode cX8_whyNoSetting 5 = .ok (.iconst 1, 1) := by decide +kernel
theorem dX8_whyNoSetting_6 : decode cX8_whyNoSetting 6 = .ok (.bipush 8, 2) := by decide +kernel
theorem dX8_whyNoSetting_8 : decode cX8_whyNoSetting 8 = .ok (.invokestatic 39, 3) := by decide +kernel
theorem dX8_whyNoSetting_11 : decode cX8_whyNoSetting 11 = .ok (.goto 22, 3) := by decide +kernel
theorem dX8_whyNoSetting_14 : decode cX8_whyNoSetting 14 = .ok (.iload_n 1, 1) := by decide +kernel
theorem dX8_whyNoSetting_15 : decode cX8_whyNoSetting 15 = .ok (.iconst 1, 1) := by decide +kernel
theorem dX8_whyNoSetting_16 : decode cX8_whyNoSetting 16 = .ok (.if_icmp .ne 16, 3) := by decide +kernel
theorem dX8_whyNoSetting_19 : decode cX8_whyNoSetting 19 = .ok (.iload_n 2, 1) := by decide +kernel
theorem dX8_whyNoSetting_20 : decode cX8_whyNoSetting 20 = .ok (.iconst 1, 1) := by decide +kernel
theorem dX8_whyNoSetting_21 : decode cX8_whyNoSetting 21 = .ok (.iconst 4, 1) := by decide +kernel
theorem dX8_whyNoSetting_22 : decode cX8_whyNoSetting 22 = .ok (.invokestatic 39, 3) := by decide +kernel
theorem dX8_whyNoSetting_25 : decode cX8_whyNoSetting 25 = .ok (.ifCond .eq 7, 3) := by decide +kernel
theorem dX8_whyNoSetting_28 : decode cX8_whyNoSetting 28 = .ok (.iconst 1, 1) := by decide +kernel
theorem dX8_whyNoSetting_29 : decode cX8_whyNoSetting 29 = .ok (.goto 4, 3) := by decide +kernel
theorem dX8_whyNoSetting_32 : decode cX8_whyNoSetting 32 = .ok (.iconst 0, 1) := by decide +kernel
theorem dX8_whyNoSetting_33 : decode cX8_whyNoSetting 33 = .ok (.istore_n 3, 1) := by decide +kernel
theorem dX8_whyNoSetting_34 : decode cX8_whyNoSetting 34 = .ok (.iload_n 3, 1) := by decide +kernel
theorem dX8_whyNoSetting_35 : decode cX8_whyNoSetting 35 = .ok (.ifCond .eq 7, 3) := by decide +kernel
theorem dX8_whyNoSetting_38 : decode cX8_whyNoSetting 38 = .ok (.iconst 0, 1) := by decide +kernel
theorem dX8_whyNoSetting_39 : decode cX8_whyNoSetting 39 = .ok (.goto 4, 3) := by decide +kernel
theorem dX8_whyNoSetting_42 : decode cX8_whyNoSetting 42 = .ok (.iconst 1, 1) := by decide +kernel
theorem dX8_whyNoSetting_43 : decode cX8_whyNoSetting 43 = .ok (.ireturn, 1) := by decide +kernel
theorem dX8_putSetting_0 : decode cX8_putSetting 0 = .ok (.aload_n 0, 1) := by decide +kernel
theorem dX8_putSetting_1 : decode cX8_putSetting 1 = .ok (.getfield 7, 3) := by decide +kernel
theorem dX8_putSetting_4 : decode cX8_putSetting 4 = .ok (.iconst 1, 1) := by decide +kernel
theorem dX8_putSetting_5 : decode cX8_putSetting 5 = .ok (.iload_n 1, 1) := by decide +kernel
theorem dX8_putSetting_6 : decode cX8_putSetting 6 = .ok (.iadd, 1) := by decide +kernel
theorem dX8_putSetting_7 : decode cX8_putSetting 7 = .ok (.iaload, 1) := by decide +kernel
theorem dX8_putSetting_8 : decode cX8_putSetting 8 = .ok (.istore_n 3, 1) := by decide +kernel
theorem dX8_putSetting_9 : decode cX8_putSetting 9 = .ok (.aload_n 0, 1) := by decide +kernel
theorem dX8_putSetting_10 : decode cX8_putSetting 10 = .ok (.getfield 7, 3) := by decide +kernel
theorem dX8_putSetting_13 : decode cX8_putSetting 13 = .ok (.iconst 1, 1) := by decide +kernel
theorem dX8_putSetting_14 : decode cX8_putSetting 14 = .ok (.iload_n 1, 1) := by decide +kernel
theorem dX8_putSetting_15 : decode cX8_putSetting 15 = .ok (.iadd, 1) := by decide +kernel
theorem dX8_putSetting_16 : decode cX8_putSetting 16 = .ok (.iload_n 2, 1) := by decide +kernel
theorem dX8_putSetting_17 : decode cX8_putSetting 17 = .ok (.iastore, 1) := by decide +kernel
theorem dX8_putSetting_18 : decode cX8_putSetting 18 = .ok (.iload_n 3, 1) := by decide +kernel
theorem dX8_putSetting_19 : decode cX8_putSetting 19 = .ok (.ireturn, 1) := by decide +kernel
set_option maxRecDepth 20000 in
theorem ggX8_set_X8_whyNoSetting : GoodIn wsX8_set wsX8_whyNoSetting := goodIn_r _ [6, 7, 8, 5, 9] (by decide +kernel) (by decide +kernel)
set_option maxRecDepth 20000 in
theorem gX8_set_X8_whyNoSetting : GoodIn wsX8_set (wsV RX8 64 RX8 yX8_whyNoSetting wsX8_whyNoSetting) := goodIn_app (goodIn_of _ (by decide +kernel)) ggX8_set_X8_whyNoSetting
set_option maxRecDepth 20000 in
theorem ggX8_set_X8_save : GoodIn wsX8_set wsX8_save := goodIn_r _ [13, 14, 15, 16, 17, 18, 5, 19, 24, 25, 26, 27, 28, 29, 30, 31, 32, 33, 34] (by decide +kernel) (by decide +kernel)
set_option maxRecDepth 20000 in
theorem gX8_set_X8_save : GoodIn wsX8_set (wsV RX8 55 RX8 yX8_save wsX8_save) := goodIn_app (goodIn_of _ (by decide +kernel)) ggX8_set_X8_save
set_option maxRecDepth 20000 in
theorem ggX8_set_X8_putSetting : GoodIn wsX8_set wsX8_putSetting := goodIn_r _ [23, 16, 24, 25, 26, 27, 28, 29, 30, 31, 32, 33, 34] (by decide +kernel) (by decide +kernel)
set_option maxRecDepth 20000 in
theorem gX8_set_X8_putSetting : GoodIn wsX8_set (wsV RX8 67 RX8 yX8_putSetting wsX8_putSetting) := goodIn_app (goodIn_of _ (by decide +kernel)) ggX8_set_X8_putSetting
theorem dX8_set_0 : decode cX8_set 0 = .ok (.aload_n 0, 1) := by decide +kernel
theorem dX8_set_1 : decode cX8_set 1 = .ok (.aload_n 0, 1) := by decide +kernel
theorem dX8_set_2 : decode cX8_set 2 = .ok (.iload_n 1, 1) := by decide +kernel
theorem dX8_set_3 : decode cX8_set 3 = .ok (.iload_n 2, 1) := by decide +kernel
theorem dX8_set_4 : decode cX8_set 4 = .ok (.invokevirtual 64, 3) := by decide +kernel
theorem dX8_set_7 : decode cX8_set 7 = .ok (.putfield 28, 3) := by decide +kernel
theorem dX8_set_10 : decode cX8_set 10 = .ok (.aload_n 0, 1) := by decide +kernel
theorem dX8_set_11 : decode cX8_set 11 = .ok (.getfield 28, 3) := by decide +kernel
theorem dX8_set_14 : decode cX8_set 14 = .ok (.ifCond .le 5, 3) := by decide +kernel
theorem dX8_set_17 : decode cX8_set 17 = .ok (.iconst 0, 1) := by decide +kernel
theorem dX8_set_18 : decode cX8_set 18 = .ok (.ireturn, 1) := by decide +kernel
theorem dX8_set_19 : decode cX8_set 19 = .ok (.aload_n 0, 1) := by decide +kernel
theorem dX8_set_20 : decode cX8_set 20 = .ok (.invokevirtual 55, 3) := by decide +kernel
theorem dX8_set_23 : decode cX8_set 23 = .ok (.aload_n 0, 1) := by decide +kernel
theorem dX8_set_24 : decode cX8_set 24 = .ok (.iload_n 1, 1) := by decide +kernel
theorem dX8_set_25 : decode cX8_set 25 = .ok (.iload_n 2, 1) := by decide +kernel
theorem dX8_set_26 : decode cX8_set 26 = .ok (.invokevirtual 67, 3) := by decide +kernel
theorem dX8_set_29 : decode cX8_set 29 = .ok (.ireturn, 1) := by decide +kernel
set_option maxRecDepth 20000 in
theorem ggX8_sourceCell_X8_movePart : GoodIn wsX8_sourceCell wsX8_movePart := goodIn_r _ [5, 6, 11, 12, 13, 14, 15, 16, 17, 18, 19, 20, 21] (by decide +kernel) (by decide +kernel)
set_option maxRecDepth 20000 in
theorem gX8_sourceCell_X8_movePart : GoodIn wsX8_sourceCell (wsV RX8 70 RX8 yX8_movePart wsX8_movePart) := goodIn_app (goodIn_of _ (by decide +kernel)) ggX8_sourceCell_X8_movePart
set_option maxRecDepth 20000 in
theorem ggX8_sourceCell_X8_ringPart : GoodIn wsX8_sourceCell wsX8_ringPart := goodIn_r _ [10, 6, 11, 12, 13, 14, 15, 16, 17, 18, 19, 20, 21] (by decide +kernel) (by decide +kernel)
set_option maxRecDepth 20000 in
theorem gX8_sourceCell_X8_ringPart : GoodIn wsX8_sourceCell (wsV RX8 47 RX8 yX8_ringPart wsX8_ringPart) := goodIn_app (goodIn_of _ (by decide +kernel)) ggX8_sourceCell_X8_ringPart
theorem dX8_sourceCell_0 : decode cX8_sourceCell 0 = .ok (.aload_n 0, 1) := by decide +kernel
theorem dX8_sourceCell_1 : decode cX8_sourceCell 1 = .ok (.iload_n 1, 1) := by decide +kernel
theorem dX8_sourceCell_2 : decode cX8_sourceCell 2 = .ok (.iconst 0, 1) := by decide +kernel
theorem dX8_sourceCell_3 : decode cX8_sourceCell 3 = .ok (.invokevirtual 70, 3) := by decide +kernel
theorem dX8_sourceCell_6 : decode cX8_sourceCell 6 = .ok (.istore_n 3, 1) := by decide +kernel
theorem dX8_sourceCell_7 : decode cX8_sourceCell 7 = .ok (.aload_n 0, 1) := by decide +kernel
theorem dX8_sourceCell_8 : decode cX8_sourceCell 8 = .ok (.iload_n 3, 1) := by decide +kernel
theorem dX8_sourceCell_9 : decode cX8_sourceCell 9 = .ok (.iconst 0, 1) := by decide +kernel
theorem dX8_sourceCell_10 : decode cX8_sourceCell 10 = .ok (.invokevirtual 47, 3) := by decide +kernel
theorem dX8_sourceCell_13 : decode cX8_sourceCell 13 = .ok (.aload_n 0, 1) := by decide +kernel
theorem dX8_sourceCell_14 : decode cX8_sourceCell 14 = .ok (.iload_n 1, 1) := by decide +kernel
theorem dX8_sourceCell_15 : decode cX8_sourceCell 15 = .ok (.iconst 1, 1) := by decide +kernel
theorem dX8_sourceCell_16 : decode cX8_sourceCell 16 = .ok (.invokevirtual 70, 3) := by decide +kernel
theorem dX8_sourceCell_19 : decode cX8_sourceCell 19 = .ok (.iload_n 2, 1) := by decide +kernel
theorem dX8_sourceCell_20 : decode cX8_sourceCell 20 = .ok (.iadd, 1) := by decide +kernel
theorem dX8_sourceCell_21 : decode cX8_sourceCell 21 = .ok (.aload_n 0, 1) := by decide +kernel
theorem dX8_sourceCell_22 : decode cX8_sourceCell 22 = .ok (.iload_n 3, 1) := by decide +kernel
theorem dX8_sourceCell_23 : decode cX8_sourceCell 23 = .ok (.iconst 1, 1) := by decide +kernel
theorem dX8_sourceCell_24 : decode cX8_sourceCell 24 = .ok (.invokevirtual 47, 3) := by decide +kernel
theorem dX8_sourceCell_27 : decode cX8_sourceCell 27 = .ok (.irem, 1) := by decide +kernel
theorem dX8_sourceCell_28 : decode cX8_sourceCell 28 = .ok (.iadd, 1) := by decide +kernel
theorem dX8_sourceCell_29 : decode cX8_sourceCell 29 = .ok (.ireturn, 1) := by decide +kernel
set_option maxRecDepth 20000 in
theorem ggX8_targetCell_X8_movePart : GoodIn wsX8_targetCell wsX8_movePart := goodIn_r _ [5, 6, 11, 12, 13, 14, 15, 16, 17, 18, 19, 20, 21] (by decide +kernel) (by decide +kernel)
set_option maxRecDepth 20000 in
theorem gX8_targetCell_X8_movePart : GoodIn wsX8_targetCell (wsV RX8 70 RX8 yX8_movePart wsX8_movePart) := goodIn_app (goodIn_of _ (by decide +kernel)) ggX8_targetCell_X8_movePart
set_option maxRecDepth 20000 in
theorem ggX8_targetCell_X8_ringPart : GoodIn wsX8_targetCell wsX8_ringPart := goodIn_r _ [10, 6, 11, 12, 13, 14, 15, 16, 17, 18, 19, 20, 21] (by decide +kernel) (by decide +kernel)
set_option maxRecDepth 20000 in
theorem gX8_targetCell_X8_ringPart : GoodIn wsX8_targetCell (wsV RX8 47 RX8 yX8_ringPart wsX8_ringPart) := goodIn_app (goodIn_of _ (by decide +kernel)) ggX8_targetCell_X8_ringPart
theorem dX8_targetCell_0 : decode cX8_targetCell 0 = .ok (.aload_n 0, 1) := by decide +kernel
theorem dX8_targetCell_1 : decode cX8_targetCell 1 = .ok (.iload_n 1, 1) := by decide +kernel
theorem dX8_targetCell_2 : decode cX8_targetCell 2 = .ok (.iconst 2, 1) := by decide +kernel
theorem dX8_targetCell_3 : decode cX8_targetCell 3 = .ok (.invokevirtual 70, 3) := by decide +kernel
theorem dX8_targetCell_6 : decode cX8_targetCell 6 = .ok (.istore_n 3, 1) := by decide +kernel
theorem dX8_targetCell_7 : decode cX8_targetCell 7 = .ok (.aload_n 0, 1) := by decide +kernel
theorem dX8_targetCell_8 : decode cX8_targetCell 8 = .ok (.iload_n 3, 1) := by decide +kernel
theorem dX8_targetCell_9 : decode cX8_targetCell 9 = .ok (.iconst 0, 1) := by decide +kernel
theorem dX8_targetCell_10 : decode cX8_targetCell 10 = .ok (.invokevirtual 47, 3) := by decide +kernel
theorem dX8_targetCell_13 : decode cX8_targetCell 13 = .ok (.aload_n 0, 1) := by decide +kernel
theorem dX8_targetCell_14 : decode cX8_targetCell 14 = .ok (.iload_n 1, 1) := by decide +kernel
theorem dX8_targetCell_15 : decode cX8_targetCell 15 = .ok (.iconst 3, 1) := by decide +kernel
theorem dX8_targetCell_16 : decode cX8_targetCell 16 = .ok (.invokevirtual 70, 3) := by decide +kernel
theorem dX8_targetCell_19 : decode cX8_targetCell 19 = .ok (.iload_n 2, 1) := by decide +kernel
theorem dX8_targetCell_20 : decode cX8_targetCell 20 = .ok (.iadd, 1) := by decide +kernel
theorem dX8_targetCell_21 : decode cX8_targetCell 21 = .ok (.aload_n 0, 1) := by decide +kernel
theorem dX8_targetCell_22 : decode cX8_targetCell 22 = .ok (.iload_n 3, 1) := by decide +kernel
theorem dX8_targetCell_23 : decode cX8_targetCell 23 = .ok (.iconst 1, 1) := by decide +kernel
theorem dX8_targetCell_24 : decode cX8_targetCell 24 = .ok (.invokevirtual 47, 3) := by decide +kernel
theorem dX8_targetCell_27 : decode cX8_targetCell 27 = .ok (.irem, 1) := by decide +kernel
theorem dX8_targetCell_28 : decode cX8_targetCell 28 = .ok (.iadd, 1) := by decide +kernel
theorem dX8_targetCell_29 : decode cX8_targetCell 29 = .ok (.ireturn, 1) := by decide +kernel
set_option maxRecDepth 20000 in
theorem ggX8_reads_X8_movePart : GoodIn wsX8_reads wsX8_movePart := goodIn_r _ [5, 6, 15, 16, 17, 18, 19, 20, 21, 22, 23, 24, 25] (by decide +kernel) (by decide +kernel)
set_option maxRecDepth 20000 in
theorem gX8_reads_X8_movePart : GoodIn wsX8_reads (wsV RX8 70 RX8 yX8_movePart wsX8_movePart) := goodIn_app (goodIn_of _ (by decide +kernel)) ggX8_reads_X8_movePart
set_option maxRecDepth 20000 in
theorem ggX8_reads_X8_sourceCell : GoodIn wsX8_reads wsX8_sourceCell := goodIn_r _ [10, 1, 2, 3, 4, 5, 6, 11, 12, 13, 14, 15, 16, 17, 18, 19, 20, 21, 22, 23, 24, 25] (by decide +kernel) (by decide +kernel)
set_option maxRecDepth 20000 in
theorem gX8_reads_X8_sourceCell : GoodIn wsX8_reads (wsV RX8 73 RX8 yX8_sourceCell wsX8_sourceCell) := goodIn_app (goodIn_of _ (by decide +kernel)) ggX8_reads_X8_sourceCell
theorem dX8_reads_0 : decode cX8_reads 0 = .ok (.iconst 0, 1) := by decide +kernel
theorem dX8_reads_1 : decode cX8_reads 1 = .ok (.istore_n 3, 1) := by decide +kernel
theorem dX8_reads_2 : decode cX8_reads 2 = .ok (.iconst 0, 1) := by decide +kernel
theorem dX8_reads_3 : decode cX8_reads 3 = .ok (.istore 4, 2) := by decide +kernel
theorem dX8_reads_5 : decode cX8_reads 5 = .ok (.iload 4, 2) := by decide +kernel
theorem dX8_reads_7 : decode cX8_reads 7 = .ok (.aload_n 0, 1) := by decide +kernel
theorem dX8_reads_8 : decode cX8_reads 8 = .ok (.iload_n 1, 1) := by decide +kernel
theorem dX8_reads_9 : decode cX8_reads 9 = .ok (.iconst 4, 1) := by decide +kernel
theorem dX8_reads_10 : decode cX8_reads 10 = .ok (.invokevirtual 70, 3) := by decide +kernel
theorem dX8_reads_13 : decode cX8_reads 13 = .ok (.if_icmp .ge 30, 3) := by decide +kernel
theorem dX8_reads_16 : decode cX8_reads 16 = .ok (.iload_n 3, 1) := by decide +kernel
theorem dX8_reads_17 : decode cX8_reads 17 = .ok (.ifCond .ne 14, 3) := by decide +kernel
theorem dX8_reads_20 : decode cX8_reads 20 = .ok (.aload_n 0, 1) := by decide +kernel
theorem dX8_reads_21 : decode cX8_reads 21 = .ok (.iload_n 1, 1) := by decide +kernel
theorem dX8_reads_22 : decode cX8_reads 22 = .ok (.iload 4, 2) := by decide +kernel
theorem dX8_reads_24 : decode cX8_reads 24 = .ok (.invokevirtual 73, 3) := by decide +kernel
theorem dX8_reads_27 : decode cX8_reads 27 = .ok (.iload_n 2, 1) := by decide +kernel
theorem dX8_reads_28 : decode cX8_reads 28 = .ok (.if_icmp .ne 7, 3) := by decide +kernel
theorem dX8_reads_31 : decode cX8_reads 31 = .ok (.iconst 1, 1) := by decide +kernel
theorem dX8_reads_32 : decode cX8_reads 32 = .ok (.goto 4, 3) := by decide +kernel
theorem dX8_reads_35 : decode cX8_reads 35 = .ok (.iconst 0, 1) := by decide +kernel
theorem dX8_reads_36 : decode cX8_reads 36 = .ok (.istore_n 3, 1) := by decide +kernel
theorem dX8_reads_37 : decode cX8_reads 37 = .ok (.iinc 4 1, 3) := by decide +kernel
theorem dX8_reads_40 : decode cX8_reads 40 = .ok (.goto (-35), 3) := by decide +kernel
theorem dX8_reads_43 : decode cX8_reads 43 = .ok (.iload_n 3, 1) := by decide +kernel
theorem dX8_reads_44 : decode cX8_reads 44 = .ok (.ireturn, 1) := by decide +kernel
set_option maxRecDepth 20000 in
theorem ggX8_writes_X8_movePart : GoodIn wsX8_writes wsX8_movePart := goodIn_r _ [5, 6, 15, 16, 17, 18, 19, 20, 21, 22, 23, 24, 25] (by decide +kernel) (by decide +kernel)
set_option maxRecDepth 20000 in
theorem gX8_writes_X8_movePart : GoodIn wsX8_writes (wsV RX8 70 RX8 yX8_movePart wsX8_movePart) := goodIn_app (goodIn_of _ (by decide +kernel)) ggX8_writes_X8_movePart
set_option maxRecDepth 20000 in
theorem ggX8_writes_X8_targetCell : GoodIn wsX8_writes wsX8_targetCell := goodIn_r _ [10, 1, 2, 3, 4, 5, 6, 11, 12, 13, 14, 15, 16, 17, 18, 19, 20, 21, 22, 23, 24, 25] (by decide +kernel) (by decide +kernel)
set_option maxRecDepth 20000 in
theorem gX8_writes_X8_targetCell : GoodIn wsX8_writes (wsV RX8 76 RX8 yX8_targetCell wsX8_targetCell) := goodIn_app (goodIn_of _ (by decide +kernel)) ggX8_writes_X8_targetCell
theorem dX8_writes_0 : decode cX8_writes 0 = .ok (.iconst 0, 1) := by decide +kernel
theorem dX8_writes_1 : decode cX8_writes 1 = .ok (.istore_n 3, 1) := by decide +kernel
theorem dX8_writes_2 : decode cX8_writes 2 = .ok (.iconst 0, 1) := by decide +kernel
theorem dX8_writes_3 : decode cX8_writes 3 = .ok (.istore 4, 2) := by decide +kernel
theorem dX8_writes_5 : decode cX8_writes 5 = .ok (.iload 4, 2) := by decide +kernel
theorem dX8_writes_7 : decode cX8_writes 7 = .ok (.aload_n 0, 1) := by decide +kernel
theorem dX8_writes_8 : decode cX8_writes 8 = .ok (.iload_n 1, 1) := by decide +kernel
theorem dX8_writes_9 : decode cX8_writes 9 = .ok (.iconst 4, 1) := by decide +kernel
theorem dX8_writes_10 : decode cX8_writes 10 = .ok (.invokevirtual 70, 3) := by decide +kernel
theorem dX8_writes_13 : decode cX8_writes 13 = .ok (.if_icmp .ge 30, 3) := by decide +kernel
theorem dX8_writes_16 : decode cX8_writes 16 = .ok (.iload_n 3, 1) := by decide +kernel
theorem dX8_writes_17 : decode cX8_writes 17 = .ok (.ifCond .ne 14, 3) := by decide +kernel
theorem dX8_writes_20 : decode cX8_writes 20 = .ok (.aload_n 0, 1) := by decide +kernel
theorem dX8_writes_21 : decode cX8_writes 21 = .ok (.iload_n 1, 1) := by decide +kernel
theorem dX8_writes_22 : decode cX8_writes 22 = .ok (.iload 4, 2) := by decide +kernel
theorem dX8_writes_24 : decode cX8_writes 24 = .ok (.invokevirtual 76, 3) := by decide +kernel
theorem dX8_writes_27 : decode cX8_writes 27 = .ok (.iload_n 2, 1) := by decide +kernel
theorem dX8_writes_28 : decode cX8_writes 28 = .ok (.if_icmp .ne 7, 3) := by decide +kernel
theorem dX8_writes_31 : decode cX8_writes 31 = .ok (.iconst 1, 1) := by decide +kernel
theorem dX8_writes_32 : decode cX8_writes 32 = .ok (.goto 4, 3) := by decide +kernel
theorem dX8_writes_35 : decode cX8_writes 35 = .ok (.iconst 0, 1) := by decide +kernel
theorem dX8_writes_36 : decode cX8_writes 36 = .ok (.istore_n 3, 1) := by decide +kernel
theorem dX8_writes_37 : decode cX8_writes 37 = .ok (.iinc 4 1, 3) := by decide +kernel
theorem dX8_writes_40 : decode cX8_writes 40 = .ok (.goto (-35), 3) := by decide +kernel
theorem dX8_writes_43 : decode cX8_writes 43 = .ok (.iload_n 3, 1) := by decide +kernel
theorem dX8_writes_44 : decode cX8_writes 44 = .ok (.ireturn, 1) := by decide +kernel
set_option maxRecDepth 20000 in
theorem ggX8_holds_X8_movePart : GoodIn wsX8_holds wsX8_movePart := goodIn_r _ [5, 6, 19, 20, 21, 22, 23, 24, 25, 26, 27, 28, 29] (by decide +kernel) (by decide +kernel)
set_option maxRecDepth 20000 in
theorem gX8_holds_X8_movePart : GoodIn wsX8_holds (wsV RX8 70 RX8 yX8_movePart wsX8_movePart) := goodIn_app (goodIn_of _ (by decide +kernel)) ggX8_holds_X8_movePart
set_option maxRecDepth 20000 in
theorem ggX8_holds_X8_reads : GoodIn wsX8_holds wsX8_reads := goodIn_r _ [10, 1, 2, 3, 4, 5, 6, 11, 12, 13, 14, 15, 16, 17, 18, 19, 20, 21, 22, 23, 24, 25, 26, 27, 28, 29] (by decide +kernel) (by decide +kernel)
set_option maxRecDepth 20000 in
theorem gX8_holds_X8_reads : GoodIn wsX8_holds (wsV RX8 79 RX8 yX8_reads wsX8_reads) := goodIn_app (goodIn_of _ (by decide +kernel)) ggX8_holds_X8_reads
theorem dX8_holds_0 : decode cX8_holds 0 = .ok (.aload_n 0, 1) := by decide +kernel
theorem dX8_holds_1 : decode cX8_holds 1 = .ok (.iload_n 1, 1) := by decide +kernel
theorem dX8_holds_2 : decode cX8_holds 2 = .ok (.iconst 5, 1) := by decide +kernel
theorem dX8_holds_3 : decode cX8_holds 3 = .ok (.invokevirtual 70, 3) := by decide +kernel
theorem dX8_holds_6 : decode cX8_holds 6 = .ok (.istore_n 3, 1) := by decide +kernel
theorem dX8_holds_7 : decode cX8_holds 7 = .ok (.iload_n 3, 1) := by decide +kernel
theorem dX8_holds_8 : decode cX8_holds 8 = .ok (.iconst 1, 1) := by decide +kernel
theorem dX8_holds_9 : decode cX8_holds 9 = .ok (.if_icmp .eq 8, 3) := by decide +kernel
theorem dX8_holds_12 : decode cX8_holds 12 = .ok (.iload_n 3, 1) := by decide +kernel
theorem dX8_holds_13 : decode cX8_holds 13 = .ok (.iconst 2, 1) := by decide +kernel
theorem dX8_holds_14 : decode cX8_holds 14 = .ok (.if_icmp .ne 16, 3) := by decide +kernel
theorem dX8_holds_17 : decode cX8_holds 17 = .ok (.aload_n 0, 1) := by decide +kernel
theorem dX8_holds_18 : decode cX8_holds 18 = .ok (.iload_n 1, 1) := by decide +kernel
theorem dX8_holds_19 : decode cX8_holds 19 = .ok (.iload_n 2, 1) := by decide +kernel
theorem dX8_holds_20 : decode cX8_holds 20 = .ok (.invokevirtual 79, 3) := by decide +kernel
theorem dX8_holds_23 : decode cX8_holds 23 = .ok (.ifCond .eq 7, 3) := by decide +kernel
theorem dX8_holds_26 : decode cX8_holds 26 = .ok (.iconst 1, 1) := by decide +kernel
theorem dX8_holds_27 : decode cX8_holds 27 = .ok (.goto 4, 3) := by decide +kernel
theorem dX8_holds_30 : decode cX8_holds 30 = .ok (.iconst 0, 1) := by decide +kernel
theorem dX8_holds_31 : decode cX8_holds 31 = .ok (.ireturn, 1) := by decide +kernel
set_option maxRecDepth 20000 in
theorem ggX8_reasonOf_X8_movePart : GoodIn wsX8_reasonOf wsX8_movePart := goodIn_r _ [6, 1, 31, 32, 33, 34, 35, 36, 37, 38, 39, 40, 41] (by decide +kernel) (by decide +kernel)
set_option maxRecDepth 20000 in
theorem gX8_reasonOf_X8_movePart : GoodIn wsX8_reasonOf (wsV RX8 70 RX8 yX8_movePart wsX8_movePart) := goodIn_app (goodIn_of _ (by decide +kernel)) ggX8_reasonOf_X8_movePart
set_option maxRecDepth 20000 in
theorem ggX8_reasonOf_X8_holds : GoodIn wsX8_reasonOf wsX8_holds := goodIn_r _ [10, 2, 3, 4, 5, 6, 1, 11, 12, 13, 14, 15, 16, 17, 18, 19, 20, 21, 22, 31, 32, 33, 34, 35, 36, 37, 38, 39, 40, 41] (by decide +kernel) (by decide +kernel)
set_option maxRecDepth 20000 in
theorem gX8_reasonOf_X8_holds : GoodIn wsX8_reasonOf (wsV RX8 83 RX8 yX8_holds wsX8_holds) := goodIn_app (goodIn_of _ (by decide +kernel)) ggX8_reasonOf_X8_holds
set_option maxRecDepth 20000 in
theorem ggX8_reasonOf_X8_reads : GoodIn wsX8_reasonOf wsX8_reads := goodIn_r _ [14, 2, 3, 4, 5, 6, 1, 15, 16, 17, 18, 19, 20, 21, 22, 31, 32, 33, 34, 35, 36, 37, 38, 39, 40, 41] (by decide +kernel) (by decide +kernel)
set_option maxRecDepth 20000 in
theorem gX8_reasonOf_X8_reads : GoodIn wsX8_reasonOf (wsV RX8 79 RX8 yX8_reads wsX8_reads) := goodIn_app (goodIn_of _ (by decide +kernel)) ggX8_reasonOf_X8_reads
set_option maxRecDepth 20000 in
theorem ggX8_reasonOf_X8_writes : GoodIn wsX8_reasonOf wsX8_writes := goodIn_r _ [26, 2, 3, 4, 5, 6, 1, 27, 28, 29, 30, 19, 20, 21, 22, 31, 32, 33, 34, 35, 36, 37, 38, 39, 40, 41] (by decide +kernel) (by decide +kernel)
set_option maxRecDepth 20000 in
theorem gX8_reasonOf_X8_writes : GoodIn wsX8_reasonOf (wsV RX8 86 RX8 yX8_writes wsX8_writes) := goodIn_app (goodIn_of _ (by decide +kernel)) ggX8_reasonOf_X8_writes
theorem dX8_reasonOf_0 : decode cX8_reasonOf 0 = .ok (.iconst 4, 1) := by decide +kernel
theorem dX8_reasonOf_1 : decode cX8_reasonOf 1 = .ok (.istore_n 2, 1) := by decide +kernel
theorem dX8_reasonOf_2 : decode cX8_reasonOf 2 = .ok (.iconst 0, 1) := by decide +kernel
theorem dX8_reasonOf_3 : decode cX8_reasonOf 3 = .ok (.istore_n 3, 1) := by decide +kernel
theorem dX8_reasonOf_4 : decode cX8_reasonOf 4 = .ok (.iload_n 3, 1) := by decide +kernel
theorem dX8_reasonOf_5 : decode cX8_reasonOf 5 = .ok (.aload_n 0, 1) := by decide +kernel
theorem dX8_reasonOf_6 : decode cX8_reasonOf 6 = .ok (.getfield 7, 3) := by decide +kernel
theorem dX8_reasonOf_9 : decode cX8_reasonOf 9 = .ok (.iconst 4, 1) := by decide +kernel
theorem dX8_reasonOf_10 : decode cX8_reasonOf 10 = .ok (.iaload, 1) := by decide +kernel
theorem dX8_reasonOf_11 : decode cX8_reasonOf 11 = .ok (.if_icmp .ge 92, 3) := by decide +kernel
theorem dX8_reasonOf_14 : decode cX8_reasonOf 14 = .ok (.aload_n 0, 1) := by decide +kernel
theorem dX8_reasonOf_15 : decode cX8_reasonOf 15 = .ok (.iload_n 3, 1) := by decide +kernel
theorem dX8_reasonOf_16 : decode cX8_reasonOf 16 = .ok (.iconst 5, 1) := by decide +kernel
theorem dX8_reasonOf_17 : decode cX8_reasonOf 17 = .ok (.invokevirtual 70, 3) := by decide +kernel
theorem dX8_reasonOf_20 : decode cX8_reasonOf 20 = .ok (.istore 4, 2) := by decide +kernel
theorem dX8_reasonOf_22 : decode cX8_reasonOf 22 = .ok (.aload_n 0, 1) := by decide +kernel
theorem dX8_reasonOf_23 : decode cX8_reasonOf 23 = .ok (.iload_n 3, 1) := by decide +kernel
theorem dX8_reasonOf_24 : decode cX8_reasonOf 24 = .ok (.iload_n 1, 1) := by decide +kernel
theorem dX8_reasonOf_25 : decode cX8_reasonOf 25 = .ok (.invokevirtual 83, 3) := by decide +kernel
theorem dX8_reasonOf_28 : decode cX8_reasonOf 28 = .ok (.ifCond .eq 7, 3) := by decide +kernel
theorem dX8_reasonOf_31 : decode cX8_reasonOf 31 = .ok (.iconst 1, 1) := by decide +kernel
theorem dX8_reasonOf_32 : decode cX8_reasonOf 32 = .ok (.goto 50, 3) := by decide +kernel
theorem dX8_reasonOf_35 : decode cX8_reasonOf 35 = .ok (.iload 4, 2) := by decide +kernel
theorem dX8_reasonOf_37 : decode cX8_reasonOf 37 = .ok (.ifCond .ne 25, 3) := by decide +kernel
theorem dX8_reasonOf_40 : decode cX8_reasonOf 40 = .ok (.aload_n 0, 1) := by decide +kernel
theorem dX8_reasonOf_41 : decode cX8_reasonOf 41 = .ok (.iload_n 3, 1) := by decide +kernel
theorem dX8_reasonOf_42 : decode cX8_reasonOf 42 = .ok (.iload_n 1, 1) := by decide +kernel
theorem dX8_reasonOf_43 : decode cX8_reasonOf 43 = .ok (.invokevirtual 79, 3) := by decide +kernel
theorem dX8_reasonOf_46 : decode cX8_reasonOf 46 = .ok (.ifCond .ne 12, 3) := by decide +kernel
theorem dX8_reasonOf_49 : decode cX8_reasonOf 49 = .ok (.aload_n 0, 1) := by decide +kernel
theorem dX8_reasonOf_50 : decode cX8_reasonOf 50 = .ok (.iload_n 3, 1) := by decide +kernel
theorem dX8_reasonOf_51 : decode cX8_reasonOf 51 = .ok (.iload_n 1, 1) := by decide +kernel
theorem dX8_reasonOf_52 : decode cX8_reasonOf 52 = .ok (.invokevirtual 86, 3) := by decide +kernel
theorem dX8_reasonOf_55 : decode cX8_reasonOf 55 = .ok (.ifCond .eq 7, 3) := by decide +kernel
theorem dX8_reasonOf_58 : decode cX8_reasonOf 58 = .ok (.iconst 2, 1) := by decide +kernel
theorem dX8_reasonOf_59 : decode cX8_reasonOf 59 = .ok (.goto 23, 3) := by decide +kernel
theorem dX8_reasonOf_62 : decode cX8_reasonOf 62 = .ok (.iload 4, 2) := by decide +kernel
theorem dX8_reasonOf_64 : decode cX8_reasonOf 64 = .ok (.iconst 1, 1) := by decide +kernel
theorem dX8_reasonOf_65 : decode cX8_reasonOf 65 = .ok (.if_icmp .ne 16, 3) := by decide +kernel
theorem dX8_reasonOf_68 : decode cX8_reasonOf 68 = .ok (.aload_n 0, 1) := by decide +kernel
theorem dX8_reasonOf_69 : decode cX8_reasonOf 69 = .ok (.iload_n 3, 1) := by decide +kernel
theorem dX8_reasonOf_70 : decode cX8_reasonOf 70 = .ok (.iload_n 1, 1) := by decide +kernel
theorem dX8_reasonOf_71 : decode cX8_reasonOf 71 = .ok (.invokevirtual 86, 3) := by decide +kernel
theorem dX8_reasonOf_74 : decode cX8_reasonOf 74 = .ok (.ifCond .eq 7, 3) := by decide +kernel
theorem dX8_reasonOf_77 : decode cX8_reasonOf 77 = .ok (.iconst 3, 1) := by decide +kernel
theorem dX8_reasonOf_78 : decode cX8_reasonOf 78 = .ok (.goto 4, 3) := by decide +kernel
theorem dX8_reasonOf_81 : decode cX8_reasonOf 81 = .ok (.iconst 4, 1) := by decide +kernel
theorem dX8_reasonOf_82 : decode cX8_reasonOf 82 = .ok (.istore 5, 2) := by decide +kernel
theorem dX8_reasonOf_84 : decode cX8_reasonOf 84 = .ok (.iload 5, 2) := by decide +kernel
theorem dX8_reasonOf_86 : decode cX8_reasonOf 86 = .ok (.iload_n 2, 1) := by decide +kernel
theorem dX8_reasonOf_87 : decode cX8_reasonOf 87 = .ok (.if_icmp .ge 8, 3) := by decide +kernel
theorem dX8_reasonOf_90 : decode cX8_reasonOf 90 = .ok (.iload 5, 2) := by decide +kernel
theorem dX8_reasonOf_92 : decode cX8_reasonOf 92 = .ok (.goto 4, 3) := by decide +kernel
theorem dX8_reasonOf_95 : decode cX8_reasonOf 95 = .ok (.iload_n 2, 1) := by decide +kernel
theorem dX8_reasonOf_96 : decode cX8_reasonOf 96 = .ok (.istore_n 2, 1) := by decide +kernel
theorem dX8_reasonOf_97 : decode cX8_reasonOf 97 = .ok (.iinc 3 1, 3) := by decide +kernel
theorem dX8_reasonOf_100 : decode cX8_reasonOf 100 = .ok (.goto (-96), 3) := by decide +kernel
theorem dX8_reasonOf_103 : decode cX8_reasonOf 103 = .ok (.iload_n 2, 1) := by decide +kernel
theorem dX8_reasonOf_104 : decode cX8_reasonOf 104 = .ok (.iconst 4, 1) := by decide +kernel
theorem dX8_reasonOf_105 : decode cX8_reasonOf 105 = .ok (.irem, 1) := by decide +kernel
theorem dX8_reasonOf_106 : decode cX8_reasonOf 106 = .ok (.ireturn, 1) := by decide +kernel
set_option maxRecDepth 20000 in
theorem ggX8_whyNotWritten_X8_isCell : GoodIn wsX8_whyNotWritten wsX8_isCell := goodIn_r _ [5, 6, 7, 4, 8] (by decide +kernel) (by decide +kernel)
set_option maxRecDepth 20000 in
theorem gX8_whyNotWritten_X8_isCell : GoodIn wsX8_whyNotWritten (wsV RX8 43 RX8 yX8_isCell wsX8_isCell) := goodIn_app (goodIn_of _ (by decide +kernel)) ggX8_whyNotWritten_X8_isCell
set_option maxRecDepth 20000 in
theorem ggX8_whyNotWritten_X8_within : GoodIn wsX8_whyNotWritten wsX8_within := goodIn_r _ [8] (by decide +kernel) (by decide +kernel)
set_option maxRecDepth 20000 in
theorem gX8_whyNotWritten_X8_within : GoodIn wsX8_whyNotWritten (va_wsS RX8 39 yX8_within wsX8_within) := goodIn_app (goodIn_of _ (by decide +kernel)) ggX8_whyNotWritten_X8_within
set_option maxRecDepth 20000 in
theorem ggX8_whyNotWritten_X8_reasonOf : GoodIn wsX8_whyNotWritten wsX8_reasonOf := goodIn_r _ [12, 13, 14, 15, 16, 4, 17, 18, 19, 20, 21, 22, 23, 24, 25, 26, 27, 28, 29, 30, 31, 32, 33, 34, 35, 36, 37, 38, 39, 40, 41, 42, 43, 44, 45, 46, 47, 48, 49, 50, 51, 52] (by decide +kernel) (by decide +kernel)
set_option maxRecDepth 20000 in
theorem gX8_whyNotWritten_X8_reasonOf : GoodIn wsX8_whyNotWritten (wsV RX8 89 RX8 yX8_reasonOf wsX8_reasonOf) := goodIn_app (goodIn_of _ (by decide +kernel)) ggX8_whyNotWritten_X8_reasonOf
theorem dX8_whyNotWritten_0 : decode cX8_whyNotWritten 0 = .ok (.aload_n 0, 1) := by decide +kernel
theorem dX8_whyNotWritten_1 : decode cX8_whyNotWritten 1 = .ok (.iload_n 1, 1) := by decide +kernel
theorem dX8_whyNotWritten_2 : decode cX8_whyNotWritten 2 = .ok (.invokevirtual 43, 3) := by decide +kernel
theorem dX8_whyNotWritten_5 : decode cX8_whyNotWritten 5 = .ok (.ifCond .ne 7, 3) := by decide +kernel
theorem dX8_whyNotWritten_8 : decode cX8_whyNotWritten 8 = .ok (.iconst 1, 1) := by decide +kernel
theorem dX8_whyNotWritten_9 : decode cX8_whyNotWritten 9 = .ok (.goto 33, 3) := by decide +kernel
theorem dX8_whyNotWritten_12 : decode cX8_whyNotWritten 12 = .ok (.iload_n 2, 1) := by decide +kernel
theorem dX8_whyNotWritten_13 : decode cX8_whyNotWritten 13 = .ok (.sipush (-999), 3) := by decide +kernel
theorem dX8_whyNotWritten_16 : decode cX8_whyNotWritten 16 = .ok (.sipush 999, 3) := by decide +kernel
theorem dX8_whyNotWritten_19 : decode cX8_whyNotWritten 19 = .ok (.invokestatic 39, 3) := by decide +kernel
theorem dX8_whyNotWritten_22 : decode cX8_whyNotWritten 22 = .ok (.ifCond .ne 7, 3) := by decide +kernel
theorem dX8_whyNotWritten_25 : decode cX8_whyNotWritten 25 = .ok (.iconst 2, 1) := by decide +kernel
theorem dX8_whyNotWritten_26 : decode cX8_whyNotWritten 26 = .ok (.goto 16, 3) := by decide +kernel
theorem dX8_whyNotWritten_29 : decode cX8_whyNotWritten 29 = .ok (.aload_n 0, 1) := by decide +kernel
theorem dX8_whyNotWritten_30 : decode cX8_whyNotWritten 30 = .ok (.iload_n 1, 1) := by decide +kernel
theorem dX8_whyNotWritten_31 : decode cX8_whyNotWritten 31 = .ok (.invokevirtual 89, 3) := by decide +kernel
theorem dX8_whyNotWritten_34 : decode cX8_whyNotWritten 34 = .ok (.ifCond .le 7, 3) := by decide +kernel
theorem dX8_whyNotWritten_37 : decode cX8_whyNotWritten 37 = .ok (.iconst 3, 1) := by decide +kernel
theorem dX8_whyNotWritten_38 : decode cX8_whyNotWritten 38 = .ok (.goto 4, 3) := by decide +kernel
theorem dX8_whyNotWritten_41 : decode cX8_whyNotWritten 41 = .ok (.iconst 0, 1) := by decide +kernel
theorem dX8_whyNotWritten_42 : decode cX8_whyNotWritten 42 = .ok (.ireturn, 1) := by decide +kernel
theorem dX8_putValue_0 : decode cX8_putValue 0 = .ok (.aload_n 0, 1) := by decide +kernel
theorem dX8_putValue_1 : decode cX8_putValue 1 = .ok (.getfield 7, 3) := by decide +kernel
theorem dX8_putValue_4 : decode cX8_putValue 4 = .ok (.bipush 8, 2) := by decide +kernel
theorem dX8_putValue_6 : decode cX8_putValue 6 = .ok (.iload_n 1, 1) := by decide +kernel
theorem dX8_putValue_7 : decode cX8_putValue 7 = .ok (.iadd, 1) := by decide +kernel
theorem dX8_putValue_8 : decode cX8_putValue 8 = .ok (.iaload, 1) := by decide +kernel
theorem dX8_putValue_9 : decode cX8_putValue 9 = .ok (.istore_n 3, 1) := by decide +kernel
theorem dX8_putValue_10 : decode cX8_putValue 10 = .ok (.aload_n 0, 1) := by decide +kernel
theorem dX8_putValue_11 : decode cX8_putValue 11 = .ok (.getfield 7, 3) := by decide +kernel
theorem dX8_putValue_14 : decode cX8_putValue 14 = .ok (.bipush 8, 2) := by decide +kernel
theorem dX8_putValue_16 : decode cX8_putValue 16 = .ok (.iload_n 1, 1) := by decide +kernel
theorem dX8_putValue_17 : decode cX8_putValue 17 = .ok (.iadd, 1) := by decide +kernel
theorem dX8_putValue_18 : decode cX8_putValue 18 = .ok (.iload_n 2, 1) := by decide +kernel
theorem dX8_putValue_19 : decode cX8_putValue 19 = .ok (.iastore, 1) := by decide +kernel
theorem dX8_putValue_20 : decode cX8_putValue 20 = .ok (.iload_n 3, 1) := by decide +kernel
theorem dX8_putValue_21 : decode cX8_putValue 21 = .ok (.ireturn, 1) := by decide +kernel
set_option maxRecDepth 20000 in
theorem ggX8_write_X8_whyNotWritten : GoodIn wsX8_write wsX8_whyNotWritten := goodIn_r _ [6, 7, 8, 9, 5, 10, 11, 12, 13, 14, 15, 16, 17, 18, 19, 20, 21, 22, 23, 24, 25, 26, 27, 28, 29, 30, 31, 32, 33, 34, 35, 36, 37, 38, 39, 40, 41, 42, 43, 44, 45, 46, 60, 61, 62, 63, 64, 65, 66, 67, 68, 69, 70] (by decide +kernel) (by decide +kernel)
set_option maxRecDepth 20000 in
theorem gX8_write_X8_whyNotWritten : GoodIn wsX8_write (wsV RX8 93 RX8 yX8_whyNotWritten wsX8_whyNotWritten) := goodIn_app (goodIn_of _ (by decide +kernel)) ggX8_write_X8_whyNotWritten
set_option maxRecDepth 20000 in
theorem ggX8_write_X8_save : GoodIn wsX8_write wsX8_save := goodIn_r _ [50, 51, 52, 18, 53, 54, 5, 55, 60, 61, 62, 63, 64, 65, 66, 67, 68, 69, 70] (by decide +kernel) (by decide +kernel)
set_option maxRecDepth 20000 in
theorem gX8_write_X8_save : GoodIn wsX8_write (wsV RX8 55 RX8 yX8_save wsX8_save) := goodIn_app (goodIn_of _ (by decide +kernel)) ggX8_write_X8_save
set_option maxRecDepth 20000 in
theorem ggX8_write_X8_putValue : GoodIn wsX8_write wsX8_putValue := goodIn_r _ [59, 18, 60, 61, 62, 63, 64, 65, 66, 67, 68, 69, 70] (by decide +kernel) (by decide +kernel)
set_option maxRecDepth 20000 in
theorem gX8_write_X8_putValue : GoodIn wsX8_write (wsV RX8 96 RX8 yX8_putValue wsX8_putValue) := goodIn_app (goodIn_of _ (by decide +kernel)) ggX8_write_X8_putValue
theorem dX8_write_0 : decode cX8_write 0 = .ok (.aload_n 0, 1) := by decide +kernel
theorem dX8_write_1 : decode cX8_write 1 = .ok (.aload_n 0, 1) := by decide +kernel
theorem dX8_write_2 : decode cX8_write 2 = .ok (.iload_n 1, 1) := by decide +kernel
theorem dX8_write_3 : decode cX8_write 3 = .ok (.iload_n 2, 1) := by decide +kernel
theorem dX8_write_4 : decode cX8_write 4 = .ok (.invokevirtual 93, 3) := by decide +kernel
theorem dX8_write_7 : decode cX8_write 7 = .ok (.putfield 28, 3) := by decide +kernel
theorem dX8_write_10 : decode cX8_write 10 = .ok (.aload_n 0, 1) := by decide +kernel
theorem dX8_write_11 : decode cX8_write 11 = .ok (.getfield 28, 3) := by decide +kernel
theorem dX8_write_14 : decode cX8_write 14 = .ok (.ifCond .le 5, 3) := by decide +kernel
theorem dX8_write_17 : decode cX8_write 17 = .ok (.iconst 0, 1) := by decide +kernel
theorem dX8_write_18 : decode cX8_write 18 = .ok (.ireturn, 1) := by decide +kernel
theorem dX8_write_19 : decode cX8_write 19 = .ok (.aload_n 0, 1) := by decide +kernel
theorem dX8_write_20 : decode cX8_write 20 = .ok (.invokevirtual 55, 3) := by decide +kernel
theorem dX8_write_23 : decode cX8_write 23 = .ok (.aload_n 0, 1) := by decide +kernel
theorem dX8_write_24 : decode cX8_write 24 = .ok (.iload_n 1, 1) := by decide +kernel
theorem dX8_write_25 : decode cX8_write 25 = .ok (.iload_n 2, 1) := by decide +kernel
theorem dX8_write_26 : decode cX8_write 26 = .ok (.invokevirtual 96, 3) := by decide +kernel
theorem dX8_write_29 : decode cX8_write 29 = .ok (.ireturn, 1) := by decide +kernel
set_option maxRecDepth 20000 in
theorem ggX8_whyNoMove_X8_isRing : GoodIn wsX8_whyNoMove wsX8_isRing := goodIn_r _ [6, 1, 7, 8, 5, 9, 14, 15, 16, 17, 18, 19, 20, 21, 22, 23, 24] (by decide +kernel) (by decide +kernel)
set_option maxRecDepth 20000 in
theorem gX8_whyNoMove_X8_isRing : GoodIn wsX8_whyNoMove (wsV RX8 61 RX8 yX8_isRing wsX8_isRing) := goodIn_app (goodIn_of _ (by decide +kernel)) ggX8_whyNoMove_X8_isRing
set_option maxRecDepth 20000 in
theorem ggX8_whyNoMove_X8_within : GoodIn wsX8_whyNoMove wsX8_within := goodIn_r _ [9] (by decide +kernel) (by decide +kernel)
set_option maxRecDepth 20000 in
theorem gX8_whyNoMove_X8_within : GoodIn wsX8_whyNoMove (va_wsS RX8 39 yX8_within wsX8_within) := goodIn_app (goodIn_of _ (by decide +kernel)) ggX8_whyNoMove_X8_within
set_option maxRecDepth 20000 in
theorem ggX8_whyNoMove_X8_ringPart : GoodIn wsX8_whyNoMove wsX8_ringPart := goodIn_r _ [13, 1, 14, 15, 16, 17, 18, 19, 20, 21, 22, 23, 24] (by decide +kernel) (by decide +kernel)
set_option maxRecDepth 20000 in
theorem gX8_whyNoMove_X8_ringPart : GoodIn wsX8_whyNoMove (wsV RX8 47 RX8 yX8_ringPart wsX8_ringPart) := goodIn_app (goodIn_of _ (by decide +kernel)) ggX8_whyNoMove_X8_ringPart
theorem dX8_whyNoMove_0 : decode cX8_whyNoMove 0 = .ok (.aload_n 0, 1) := by decide +kernel
theorem dX8_whyNoMove_1 : decode cX8_whyNoMove 1 = .ok (.iload_n 1, 1) := by decide +kernel
theorem dX8_whyNoMove_2 : decode cX8_whyNoMove 2 = .ok (.invokevirtual 61, 3) := by decide +kernel
theorem dX8_whyNoMove_5 : decode cX8_whyNoMove 5 = .ok (.ifCond .eq 11, 3) := by decide +kernel
theorem dX8_whyNoMove_8 : decode cX8_whyNoMove 8 = .ok (.aload_n 0, 1) := by decide +kernel
theorem dX8_whyNoMove_9 : decode cX8_whyNoMove 9 = .ok (.iload_n 3, 1) := by decide +kernel
theorem dX8_whyNoMove_10 : decode cX8_whyNoMove 10 = .ok (.invokevirtual 61, 3) := by decide +kernel
theorem dX8_whyNoMove_13 : decode cX8_whyNoMove 13 = .ok (.ifCond .ne 5, 3) := by decide +kernel
theorem dX8_whyNoMove_16 : decode cX8_whyNoMove 16 = .ok (.iconst 1, 1) := by decide +kernel
theorem dX8_whyNoMove_17 : decode cX8_whyNoMove 17 = .ok (.ireturn, 1) := by decide +kernel
theorem dX8_whyNoMove_18 : decode cX8_whyNoMove 18 = .ok (.iload_n 2, 1) := by decide +kernel
theorem dX8_whyNoMove_19 : decode cX8_whyNoMove 19 = .ok (.iconst 0, 1) := by decide +kernel
theorem dX8_whyNoMove_20 : decode cX8_whyNoMove 20 = .ok (.bipush 99, 2) := by decide +kernel
theorem dX8_whyNoMove_22 : decode cX8_whyNoMove 22 = .ok (.invokestatic 39, 3) := by decide +kernel
theorem dX8_whyNoMove_25 : decode cX8_whyNoMove 25 = .ok (.ifCond .eq 18, 3) := by decide +kernel
theorem dX8_whyNoMove_28 : decode cX8_whyNoMove 28 = .ok (.iload 4, 2) := by decide +kernel
theorem dX8_whyNoMove_30 : decode cX8_whyNoMove 30 = .ok (.iconst 0, 1) := by decide +kernel
theorem dX8_whyNoMove_31 : decode cX8_whyNoMove 31 = .ok (.bipush 99, 2) := by decide +kernel
theorem dX8_whyNoMove_33 : decode cX8_whyNoMove 33 = .ok (.invokestatic 39, 3) := by decide +kernel
theorem dX8_whyNoMove_36 : decode cX8_whyNoMove 36 = .ok (.ifCond .eq 7, 3) := by decide +kernel
theorem dX8_whyNoMove_39 : decode cX8_whyNoMove 39 = .ok (.iconst 1, 1) := by decide +kernel
theorem dX8_whyNoMove_40 : decode cX8_whyNoMove 40 = .ok (.goto 4, 3) := by decide +kernel
theorem dX8_whyNoMove_43 : decode cX8_whyNoMove 43 = .ok (.iconst 0, 1) := by decide +kernel
theorem dX8_whyNoMove_44 : decode cX8_whyNoMove 44 = .ok (.istore 6, 2) := by decide +kernel
theorem dX8_whyNoMove_46 : decode cX8_whyNoMove 46 = .ok (.iload 6, 2) := by decide +kernel
theorem dX8_whyNoMove_48 : decode cX8_whyNoMove 48 = .ok (.ifCond .eq 31, 3) := by decide +kernel
theorem dX8_whyNoMove_51 : decode cX8_whyNoMove 51 = .ok (.iload 5, 2) := by decide +kernel
theorem dX8_whyNoMove_53 : decode cX8_whyNoMove 53 = .ok (.iconst 1, 1) := by decide +kernel
theorem dX8_whyNoMove_54 : decode cX8_whyNoMove 54 = .ok (.if_icmp .lt 25, 3) := by decide +kernel
theorem dX8_whyNoMove_57 : decode cX8_whyNoMove 57 = .ok (.iload 5, 2) := by decide +kernel
theorem dX8_whyNoMove_59 : decode cX8_whyNoMove 59 = .ok (.aload_n 0, 1) := by decide +kernel
theorem dX8_whyNoMove_60 : decode cX8_whyNoMove 60 = .ok (.iload_n 1, 1) := by decide +kernel
theorem dX8_whyNoMove_61 : decode cX8_whyNoMove 61 = .ok (.iconst 1, 1) := by decide +kernel
theorem dX8_whyNoMove_62 : decode cX8_whyNoMove 62 = .ok (.invokevirtual 47, 3) := by decide +kernel
theorem dX8_whyNoMove_65 : decode cX8_whyNoMove 65 = .ok (.if_icmp .gt 14, 3) := by decide +kernel
theorem dX8_whyNoMove_68 : decode cX8_whyNoMove 68 = .ok (.iload 5, 2) := by decide +kernel
theorem dX8_whyNoMove_70 : decode cX8_whyNoMove 70 = .ok (.aload_n 0, 1) := by decide +kernel
theorem dX8_whyNoMove_71 : decode cX8_whyNoMove 71 = .ok (.iload_n 3, 1) := by decide +kernel
theorem dX8_whyNoMove_72 : decode cX8_whyNoMove 72 = .ok (.iconst 1, 1) := by decide +kernel
theorem dX8_whyNoMove_73 : decode cX8_whyNoMove 73 = .ok (.invokevirtual 47, 3) := by decide +kernel
theorem dX8_whyNoMove_76 : decode cX8_whyNoMove 76 = .ok (.if_icmp .le 5, 3) := by decide +kernel
theorem dX8_whyNoMove_79 : decode cX8_whyNoMove 79 = .ok (.iconst 2, 1) := by decide +kernel
theorem dX8_whyNoMove_80 : decode cX8_whyNoMove 80 = .ok (.ireturn, 1) := by decide +kernel
theorem dX8_whyNoMove_81 : decode cX8_whyNoMove 81 = .ok (.aload_n 0, 1) := by decide +kernel
theorem dX8_whyNoMove_82 : decode cX8_whyNoMove 82 = .ok (.getfield 7, 3) := by decide +kernel
theorem dX8_whyNoMove_85 : decode cX8_whyNoMove 85 = .ok (.iconst 4, 1) := by decide +kernel
theorem dX8_whyNoMove_86 : decode cX8_whyNoMove 86 = .ok (.iaload, 1) := by decide +kernel
theorem dX8_whyNoMove_87 : decode cX8_whyNoMove 87 = .ok (.bipush 24, 2) := by decide +kernel
theorem dX8_whyNoMove_89 : decode cX8_whyNoMove 89 = .ok (.if_icmp .ne 7, 3) := by decide +kernel
theorem dX8_whyNoMove_92 : decode cX8_whyNoMove 92 = .ok (.iconst 3, 1) := by decide +kernel
theorem dX8_whyNoMove_93 : decode cX8_whyNoMove 93 = .ok (.goto 4, 3) := by decide +kernel
theorem dX8_whyNoMove_96 : decode cX8_whyNoMove 96 = .ok (.iconst 0, 1) := by decide +kernel
theorem dX8_whyNoMove_97 : decode cX8_whyNoMove 97 = .ok (.ireturn, 1) := by decide +kernel
set_option maxRecDepth 20000 in
theorem ggX8_putMove_X8_setMovePart : GoodIn wsX8_putMove wsX8_setMovePart := goodIn_r _ [6, 1, 7, 8, 9, 10, 11, 12, 13, 14, 15, 16, 17] (by decide +kernel) (by decide +kernel)
set_option maxRecDepth 20000 in
theorem gX8_putMove_X8_setMovePart : GoodIn wsX8_putMove (wsV RX8 99 RX8 yX8_setMovePart wsX8_setMovePart) := goodIn_app (goodIn_of _ (by decide +kernel)) ggX8_putMove_X8_setMovePart
theorem dX8_putMove_0 : decode cX8_putMove 0 = .ok (.aload_n 0, 1) := by decide +kernel
theorem dX8_putMove_1 : decode cX8_putMove 1 = .ok (.getfield 7, 3) := by decide +kernel
theorem dX8_putMove_4 : decode cX8_putMove 4 = .ok (.iconst 4, 1) := by decide +kernel
theorem dX8_putMove_5 : decode cX8_putMove 5 = .ok (.iaload, 1) := by decide +kernel
theorem dX8_putMove_6 : decode cX8_putMove 6 = .ok (.istore 6, 2) := by decide +kernel
theorem dX8_putMove_8 : decode cX8_putMove 8 = .ok (.aload_n 0, 1) := by decide +kernel
theorem dX8_putMove_9 : decode cX8_putMove 9 = .ok (.iload 6, 2) := by decide +kernel
theorem dX8_putMove_11 : decode cX8_putMove 11 = .ok (.iconst 0, 1) := by decide +kernel
theorem dX8_putMove_12 : decode cX8_putMove 12 = .ok (.iload_n 1, 1) := by decide +kernel
theorem dX8_putMove_13 : decode cX8_putMove 13 = .ok (.invokevirtual 99, 3) := by decide +kernel
theorem dX8_putMove_16 : decode cX8_putMove 16 = .ok (.aload_n 0, 1) := by decide +kernel
theorem dX8_putMove_17 : decode cX8_putMove 17 = .ok (.iload 6, 2) := by decide +kernel
theorem dX8_putMove_19 : decode cX8_putMove 19 = .ok (.iconst 1, 1) := by decide +kernel
theorem dX8_putMove_20 : decode cX8_putMove 20 = .ok (.iload_n 2, 1) := by decide +kernel
theorem dX8_putMove_21 : decode cX8_putMove 21 = .ok (.invokevirtual 99, 3) := by decide +kernel
theorem dX8_putMove_24 : decode cX8_putMove 24 = .ok (.aload_n 0, 1) := by decide +kernel
theorem dX8_putMove_25 : decode cX8_putMove 25 = .ok (.iload 6, 2) := by decide +kernel
theorem dX8_putMove_27 : decode cX8_putMove 27 = .ok (.iconst 2, 1) := by decide +kernel
theorem dX8_putMove_28 : decode cX8_putMove 28 = .ok (.iload_n 3, 1) := by decide +kernel
theorem dX8_putMove_29 : decode cX8_putMove 29 = .ok (.invokevirtual 99, 3) := by decide +kernel
theorem dX8_putMove_32 : decode cX8_putMove 32 = .ok (.aload_n 0, 1) := by decide +kernel
theorem dX8_putMove_33 : decode cX8_putMove 33 = .ok (.iload 6, 2) := by decide +kernel
theorem dX8_putMove_35 : decode cX8_putMove 35 = .ok (.iconst 3, 1) := by decide +kernel
theorem dX8_putMove_36 : decode cX8_putMove 36 = .ok (.iload 4, 2) := by decide +kernel
theorem dX8_putMove_38 : decode cX8_putMove 38 = .ok (.invokevirtual 99, 3) := by decide +kernel
theorem dX8_putMove_41 : decode cX8_putMove 41 = .ok (.aload_n 0, 1) := by decide +kernel
theorem dX8_putMove_42 : decode cX8_putMove 42 = .ok (.iload 6, 2) := by decide +kernel
theorem dX8_putMove_44 : decode cX8_putMove 44 = .ok (.iconst 4, 1) := by decide +kernel
theorem dX8_putMove_45 : decode cX8_putMove 45 = .ok (.iload 5, 2) := by decide +kernel
theorem dX8_putMove_47 : decode cX8_putMove 47 = .ok (.invokevirtual 99, 3) := by decide +kernel
theorem dX8_putMove_50 : decode cX8_putMove 50 = .ok (.aload_n 0, 1) := by decide +kernel
theorem dX8_putMove_51 : decode cX8_putMove 51 = .ok (.iload 6, 2) := by decide +kernel
theorem dX8_putMove_53 : decode cX8_putMove 53 = .ok (.iconst 5, 1) := by decide +kernel
theorem dX8_putMove_54 : decode cX8_putMove 54 = .ok (.iconst 0, 1) := by decide +kernel
theorem dX8_putMove_55 : decode cX8_putMove 55 = .ok (.invokevirtual 99, 3) := by decide +kernel
theorem dX8_putMove_58 : decode cX8_putMove 58 = .ok (.aload_n 0, 1) := by decide +kernel
theorem dX8_putMove_59 : decode cX8_putMove 59 = .ok (.iload 6, 2) := by decide +kernel
theorem dX8_putMove_61 : decode cX8_putMove 61 = .ok (.bipush 6, 2) := by decide +kernel
theorem dX8_putMove_63 : decode cX8_putMove 63 = .ok (.iconst 0, 1) := by decide +kernel
theorem dX8_putMove_64 : decode cX8_putMove 64 = .ok (.invokevirtual 99, 3) := by decide +kernel
theorem dX8_putMove_67 : decode cX8_putMove 67 = .ok (.aload_n 0, 1) := by decide +kernel
theorem dX8_putMove_68 : decode cX8_putMove 68 = .ok (.iload 6, 2) := by decide +kernel
theorem dX8_putMove_70 : decode cX8_putMove 70 = .ok (.bipush 7, 2) := by decide +kernel
theorem dX8_putMove_72 : decode cX8_putMove 72 = .ok (.sipush (-1000), 3) := by decide +kernel
theorem dX8_putMove_75 : decode cX8_putMove 75 = .ok (.invokevirtual 99, 3) := by decide +kernel
theorem dX8_putMove_78 : decode cX8_putMove 78 = .ok (.aload_n 0, 1) := by decide +kernel
theorem dX8_putMove_79 : decode cX8_putMove 79 = .ok (.iload 6, 2) := by decide +kernel
theorem dX8_putMove_81 : decode cX8_putMove 81 = .ok (.bipush 8, 2) := by decide +kernel
theorem dX8_putMove_83 : decode cX8_putMove 83 = .ok (.sipush (-1000), 3) := by decide +kernel
theorem dX8_putMove_86 : decode cX8_putMove 86 = .ok (.invokevirtual 99, 3) := by decide +kernel
theorem dX8_putMove_89 : decode cX8_putMove 89 = .ok (.aload_n 0, 1) := by decide +kernel
theorem dX8_putMove_90 : decode cX8_putMove 90 = .ok (.iload 6, 2) := by decide +kernel
theorem dX8_putMove_92 : decode cX8_putMove 92 = .ok (.bipush 9, 2) := by decide +kernel
theorem dX8_putMove_94 : decode cX8_putMove 94 = .ok (.sipush (-1000), 3) := by decide +kernel
theorem dX8_putMove_97 : decode cX8_putMove 97 = .ok (.invokevirtual 99, 3) := by decide +kernel
theorem dX8_putMove_100 : decode cX8_putMove 100 = .ok (.aload_n 0, 1) := by decide +kernel
theorem dX8_putMove_101 : decode cX8_putMove 101 = .ok (.getfield 7, 3) := by decide +kernel
theorem dX8_putMove_104 : decode cX8_putMove 104 = .ok (.iconst 4, 1) := by decide +kernel
theorem dX8_putMove_105 : decode cX8_putMove 105 = .ok (.dup2, 1) := by decide +kernel
theorem dX8_putMove_106 : decode cX8_putMove 106 = .ok (.iaload, 1) := by decide +kernel
theorem dX8_putMove_107 : decode cX8_putMove 107 = .ok (.iconst 1, 1) := by decide +kernel
theorem dX8_putMove_108 : decode cX8_putMove 108 = .ok (.iadd, 1) := by decide +kernel
theorem dX8_putMove_109 : decode cX8_putMove 109 = .ok (.iastore, 1) := by decide +kernel
theorem dX8_putMove_110 : decode cX8_putMove 110 = .ok (.iload 6, 2) := by decide +kernel
theorem dX8_putMove_112 : decode cX8_putMove 112 = .ok (.ireturn, 1) := by decide +kernel
set_option maxRecDepth 20000 in
theorem ggX8_move_X8_whyNoMove : GoodIn wsX8_move wsX8_whyNoMove := goodIn_r _ [6, 7, 8, 9, 10, 5, 11, 12, 13, 14, 15, 16, 17, 18, 36, 37, 38, 39, 40, 41, 42, 43, 44, 45, 46] (by decide +kernel) (by decide +kernel)
set_option maxRecDepth 20000 in
theorem gX8_move_X8_whyNoMove : GoodIn wsX8_move (wsV RX8 103 RX8 yX8_whyNoMove wsX8_whyNoMove) := goodIn_app (goodIn_of _ (by decide +kernel)) ggX8_move_X8_whyNoMove
set_option maxRecDepth 20000 in
theorem ggX8_move_X8_save : GoodIn wsX8_move wsX8_save := goodIn_r _ [22, 23, 24, 7, 25, 26, 5, 27, 36, 37, 38, 39, 40, 41, 42, 43, 44, 45, 46] (by decide +kernel) (by decide +kernel)
set_option maxRecDepth 20000 in
theorem gX8_move_X8_save : GoodIn wsX8_move (wsV RX8 55 RX8 yX8_save wsX8_save) := goodIn_app (goodIn_of _ (by decide +kernel)) ggX8_move_X8_save
set_option maxRecDepth 20000 in
theorem ggX8_move_X8_putMove : GoodIn wsX8_move wsX8_putMove := goodIn_r _ [31, 7, 32, 33, 34, 5, 35, 36, 37, 38, 39, 40, 41, 42, 43, 44, 45, 46] (by decide +kernel) (by decide +kernel)
set_option maxRecDepth 20000 in
theorem gX8_move_X8_putMove : GoodIn wsX8_move (wsV RX8 107 RX8 yX8_putMove wsX8_putMove) := goodIn_app (goodIn_of _ (by decide +kernel)) ggX8_move_X8_putMove
theorem dX8_move_0 : decode cX8_move 0 = .ok (.aload_n 0, 1) := by decide +kernel
theorem dX8_move_1 : decode cX8_move 1 = .ok (.aload_n 0, 1) := by decide +kernel
theorem dX8_move_2 : decode cX8_move 2 = .ok (.iload_n 1, 1) := by decide +kernel
theorem dX8_move_3 : decode cX8_move 3 = .ok (.iload_n 2, 1) := by decide +kernel
theorem dX8_move_4 : decode cX8_move 4 = .ok (.iload_n 3, 1) := by decide +kernel
theorem dX8_move_5 : decode cX8_move 5 = .ok (.iload 4, 2) := by decide +kernel
theorem dX8_move_7 : decode cX8_move 7 = .ok (.iload 5, 2) := by decide +kernel
theorem dX8_move_9 : decode cX8_move 9 = .ok (.invokevirtual 103, 3) := by decide +kernel
theorem dX8_move_12 : decode cX8_move 12 = .ok (.putfield 28, 3) := by decide +kernel
theorem dX8_move_15 : decode cX8_move 15 = .ok (.aload_n 0, 1) := by decide +kernel
theorem dX8_move_16 : decode cX8_move 16 = .ok (.getfield 28, 3) := by decide +kernel
theorem dX8_move_19 : decode cX8_move 19 = .ok (.ifCond .le 5, 3) := by decide +kernel
theorem dX8_move_22 : decode cX8_move 22 = .ok (.iconst 0, 1) := by decide +kernel
theorem dX8_move_23 : decode cX8_move 23 = .ok (.ireturn, 1) := by decide +kernel
theorem dX8_move_24 : decode cX8_move 24 = .ok (.aload_n 0, 1) := by decide +kernel
theorem dX8_move_25 : decode cX8_move 25 = .ok (.invokevirtual 55, 3) := by decide +kernel
theorem dX8_move_28 : decode cX8_move 28 = .ok (.aload_n 0, 1) := by decide +kernel
theorem dX8_move_29 : decode cX8_move 29 = .ok (.iload_n 1, 1) := by decide +kernel
theorem dX8_move_30 : decode cX8_move 30 = .ok (.iload_n 2, 1) := by decide +kernel
theorem dX8_move_31 : decode cX8_move 31 = .ok (.iload_n 3, 1) := by decide +kernel
theorem dX8_move_32 : decode cX8_move 32 = .ok (.iload 4, 2) := by decide +kernel
theorem dX8_move_34 : decode cX8_move 34 = .ok (.iload 5, 2) := by decide +kernel
theorem dX8_move_36 : decode cX8_move 36 = .ok (.invokevirtual 107, 3) := by decide +kernel
theorem dX8_move_39 : decode cX8_move 39 = .ok (.ireturn, 1) := by decide +kernel
set_option maxRecDepth 20000 in
theorem ggX8_signMove_X8_setMovePart : GoodIn wsX8_signMove wsX8_setMovePart := goodIn_r _ [6, 1, 7, 8, 9, 10, 11, 12, 13, 14, 15, 16, 17] (by decide +kernel) (by decide +kernel)
set_option maxRecDepth 20000 in
theorem gX8_signMove_X8_setMovePart : GoodIn wsX8_signMove (wsV RX8 99 RX8 yX8_setMovePart wsX8_setMovePart) := goodIn_app (goodIn_of _ (by decide +kernel)) ggX8_signMove_X8_setMovePart
theorem dX8_signMove_0 : decode cX8_signMove 0 = .ok (.aload_n 0, 1) := by decide +kernel
theorem dX8_signMove_1 : decode cX8_signMove 1 = .ok (.iload_n 1, 1) := by decide +kernel
theorem dX8_signMove_2 : decode cX8_signMove 2 = .ok (.iconst 5, 1) := by decide +kernel
theorem dX8_signMove_3 : decode cX8_signMove 3 = .ok (.iconst 3, 1) := by decide +kernel
theorem dX8_signMove_4 : decode cX8_signMove 4 = .ok (.invokevirtual 99, 3) := by decide +kernel
theorem dX8_signMove_7 : decode cX8_signMove 7 = .ok (.aload_n 0, 1) := by decide +kernel
theorem dX8_signMove_8 : decode cX8_signMove 8 = .ok (.iload_n 1, 1) := by decide +kernel
theorem dX8_signMove_9 : decode cX8_signMove 9 = .ok (.bipush 9, 2) := by decide +kernel
theorem dX8_signMove_11 : decode cX8_signMove 11 = .ok (.aload_n 0, 1) := by decide +kernel
theorem dX8_signMove_12 : decode cX8_signMove 12 = .ok (.getfield 7, 3) := by decide +kernel
theorem dX8_signMove_15 : decode cX8_signMove 15 = .ok (.iconst 0, 1) := by decide +kernel
theorem dX8_signMove_16 : decode cX8_signMove 16 = .ok (.iaload, 1) := by decide +kernel
theorem dX8_signMove_17 : decode cX8_signMove 17 = .ok (.invokevirtual 99, 3) := by decide +kernel
theorem dX8_signMove_20 : decode cX8_signMove 20 = .ok (.aload_n 0, 1) := by decide +kernel
theorem dX8_signMove_21 : decode cX8_signMove 21 = .ok (.getfield 7, 3) := by decide +kernel
theorem dX8_signMove_24 : decode cX8_signMove 24 = .ok (.bipush 6, 2) := by decide +kernel
theorem dX8_signMove_26 : decode cX8_signMove 26 = .ok (.dup2, 1) := by decide +kernel
theorem dX8_signMove_27 : decode cX8_signMove 27 = .ok (.iaload, 1) := by decide +kernel
theorem dX8_signMove_28 : decode cX8_signMove 28 = .ok (.iconst 1, 1) := by decide +kernel
theorem dX8_signMove_29 : decode cX8_signMove 29 = .ok (.iadd, 1) := by decide +kernel
theorem dX8_signMove_30 : decode cX8_signMove 30 = .ok (.iastore, 1) := by decide +kernel
theorem dX8_signMove_31 : decode cX8_signMove 31 = .ok (.return_, 1) := by decide +kernel
set_option maxRecDepth 20000 in
theorem ggX8_firstCopied_X8_movePart : GoodIn wsX8_firstCopied wsX8_movePart := goodIn_r _ [6, 1, 7, 8, 9, 10, 11, 12, 13, 14, 15, 16, 17] (by decide +kernel) (by decide +kernel)
set_option maxRecDepth 20000 in
theorem gX8_firstCopied_X8_movePart : GoodIn wsX8_firstCopied (wsV RX8 70 RX8 yX8_movePart wsX8_movePart) := goodIn_app (goodIn_of _ (by decide +kernel)) ggX8_firstCopied_X8_movePart
theorem dX8_firstCopied_0 : decode cX8_firstCopied 0 = .ok (.iconst 0, 1) := by decide +kernel
theorem dX8_firstCopied_1 : decode cX8_firstCopied 1 = .ok (.istore_n 2, 1) := by decide +kernel
theorem dX8_firstCopied_2 : decode cX8_firstCopied 2 = .ok (.iload_n 2, 1) := by decide +kernel
theorem dX8_firstCopied_3 : decode cX8_firstCopied 3 = .ok (.aload_n 0, 1) := by decide +kernel
theorem dX8_firstCopied_4 : decode cX8_firstCopied 4 = .ok (.getfield 7, 3) := by decide +kernel
theorem dX8_firstCopied_7 : decode cX8_firstCopied 7 = .ok (.iconst 4, 1) := by decide +kernel
theorem dX8_firstCopied_8 : decode cX8_firstCopied 8 = .ok (.iaload, 1) := by decide +kernel
theorem dX8_firstCopied_9 : decode cX8_firstCopied 9 = .ok (.if_icmp .ge 31, 3) := by decide +kernel
theorem dX8_firstCopied_12 : decode cX8_firstCopied 12 = .ok (.aload_n 0, 1) := by decide +kernel
theorem dX8_firstCopied_13 : decode cX8_firstCopied 13 = .ok (.iload_n 2, 1) := by decide +kernel
theorem dX8_firstCopied_14 : decode cX8_firstCopied 14 = .ok (.iconst 2, 1) := by decide +kernel
theorem dX8_firstCopied_15 : decode cX8_firstCopied 15 = .ok (.invokevirtual 70, 3) := by decide +kernel
theorem dX8_firstCopied_18 : decode cX8_firstCopied 18 = .ok (.iload_n 1, 1) := by decide +kernel
theorem dX8_firstCopied_19 : decode cX8_firstCopied 19 = .ok (.if_icmp .ne 15, 3) := by decide +kernel
theorem dX8_firstCopied_22 : decode cX8_firstCopied 22 = .ok (.aload_n 0, 1) := by decide +kernel
theorem dX8_firstCopied_23 : decode cX8_firstCopied 23 = .ok (.iload_n 2, 1) := by decide +kernel
theorem dX8_firstCopied_24 : decode cX8_firstCopied 24 = .ok (.iconst 5, 1) := by decide +kernel
theorem dX8_firstCopied_25 : decode cX8_firstCopied 25 = .ok (.invokevirtual 70, 3) := by decide +kernel
theorem dX8_firstCopied_28 : decode cX8_firstCopied 28 = .ok (.iconst 2, 1) := by decide +kernel
theorem dX8_firstCopied_29 : decode cX8_firstCopied 29 = .ok (.if_icmp .ne 5, 3) := by decide +kernel
theorem dX8_firstCopied_32 : decode cX8_firstCopied 32 = .ok (.iload_n 2, 1) := by decide +kernel
theorem dX8_firstCopied_33 : decode cX8_firstCopied 33 = .ok (.ireturn, 1) := by decide +kernel
theorem dX8_firstCopied_34 : decode cX8_firstCopied 34 = .ok (.iinc 2 1, 3) := by decide +kernel
theorem dX8_firstCopied_37 : decode cX8_firstCopied 37 = .ok (.goto (-35), 3) := by decide +kernel
theorem dX8_firstCopied_40 : decode cX8_firstCopied 40 = .ok (.sipush (-1000), 3) := by decide +kernel
theorem dX8_firstCopied_43 : decode cX8_firstCopied 43 = .ok (.ireturn, 1) := by decide +kernel
set_option maxRecDepth 20000 in
theorem ggX8_whyNotSigned_X8_isRing : GoodIn wsX8_whyNotSigned wsX8_isRing := goodIn_r _ [5, 6, 7, 8, 4, 9, 22, 23, 24, 25, 26, 27, 28, 29, 30, 31, 32] (by decide +kernel) (by decide +kernel)
set_option maxRecDepth 20000 in
theorem gX8_whyNotSigned_X8_isRing : GoodIn wsX8_whyNotSigned (wsV RX8 61 RX8 yX8_isRing wsX8_isRing) := goodIn_app (goodIn_of _ (by decide +kernel)) ggX8_whyNotSigned_X8_isRing
set_option maxRecDepth 20000 in
theorem ggX8_whyNotSigned_X8_ringPart : GoodIn wsX8_whyNotSigned wsX8_ringPart := goodIn_r _ [13, 6, 22, 23, 24, 25, 26, 27, 28, 29, 30, 31, 32] (by decide +kernel) (by decide +kernel)
set_option maxRecDepth 20000 in
theorem gX8_whyNotSigned_X8_ringPart : GoodIn wsX8_whyNotSigned (wsV RX8 47 RX8 yX8_ringPart wsX8_ringPart) := goodIn_app (goodIn_of _ (by decide +kernel)) ggX8_whyNotSigned_X8_ringPart
set_option maxRecDepth 20000 in
theorem ggX8_whyNotSigned_X8_firstCopied : GoodIn wsX8_whyNotSigned wsX8_firstCopied := goodIn_r _ [17, 6, 18, 19, 20, 4, 21, 22, 23, 24, 25, 26, 27, 28, 29, 30, 31, 32] (by decide +kernel) (by decide +kernel)
set_option maxRecDepth 20000 in
theorem gX8_whyNotSigned_X8_firstCopied : GoodIn wsX8_whyNotSigned (wsV RX8 110 RX8 yX8_firstCopied wsX8_firstCopied) := goodIn_app (goodIn_of _ (by decide +kernel)) ggX8_whyNotSigned_X8_firstCopied
theorem dX8_whyNotSigned_0 : decode cX8_whyNotSigned 0 = .ok (.aload_n 0, 1) := by decide +kernel
theorem dX8_whyNotSigned_1 : decode cX8_whyNotSigned 1 = .ok (.iload_n 1, 1) := by decide +kernel
theorem dX8_whyNotSigned_2 : decode cX8_whyNotSigned 2 = .ok (.invokevirtual 61, 3) := by decide +kernel
theorem dX8_whyNotSigned_5 : decode cX8_whyNotSigned 5 = .ok (.ifCond .ne 7, 3) := by decide +kernel
theorem dX8_whyNotSigned_8 : decode cX8_whyNotSigned 8 = .ok (.iconst 1, 1) := by decide +kernel
theorem dX8_whyNotSigned_9 : decode cX8_whyNotSigned 9 = .ok (.goto 29, 3) := by decide +kernel
theorem dX8_whyNotSigned_12 : decode cX8_whyNotSigned 12 = .ok (.aload_n 0, 1) := by decide +kernel
theorem dX8_whyNotSigned_13 : decode cX8_whyNotSigned 13 = .ok (.iload_n 1, 1) := by decide +kernel
theorem dX8_whyNotSigned_14 : decode cX8_whyNotSigned 14 = .ok (.iconst 3, 1) := by decide +kernel
theorem dX8_whyNotSigned_15 : decode cX8_whyNotSigned 15 = .ok (.invokevirtual 47, 3) := by decide +kernel
theorem dX8_whyNotSigned_18 : decode cX8_whyNotSigned 18 = .ok (.iconst 1, 1) := by decide +kernel
theorem dX8_whyNotSigned_19 : decode cX8_whyNotSigned 19 = .ok (.if_icmp .eq 14, 3) := by decide +kernel
theorem dX8_whyNotSigned_22 : decode cX8_whyNotSigned 22 = .ok (.aload_n 0, 1) := by decide +kernel
theorem dX8_whyNotSigned_23 : decode cX8_whyNotSigned 23 = .ok (.iload_n 1, 1) := by decide +kernel
theorem dX8_whyNotSigned_24 : decode cX8_whyNotSigned 24 = .ok (.invokevirtual 110, 3) := by decide +kernel
theorem dX8_whyNotSigned_27 : decode cX8_whyNotSigned 27 = .ok (.sipush (-1000), 3) := by decide +kernel
theorem dX8_whyNotSigned_30 : decode cX8_whyNotSigned 30 = .ok (.if_icmp .ne 7, 3) := by decide +kernel
theorem dX8_whyNotSigned_33 : decode cX8_whyNotSigned 33 = .ok (.iconst 2, 1) := by decide +kernel
theorem dX8_whyNotSigned_34 : decode cX8_whyNotSigned 34 = .ok (.goto 4, 3) := by decide +kernel
theorem dX8_whyNotSigned_37 : decode cX8_whyNotSigned 37 = .ok (.iconst 0, 1) := by decide +kernel
theorem dX8_whyNotSigned_38 : decode cX8_whyNotSigned 38 = .ok (.ireturn, 1) := by decide +kernel
set_option maxRecDepth 20000 in
theorem ggX8_sign_X8_whyNotSigned : GoodIn wsX8_sign wsX8_whyNotSigned := goodIn_r _ [6, 7, 8, 9, 5, 10, 11, 12, 13, 14, 15, 16, 17, 18, 19, 20, 21, 22, 23, 24, 25, 26, 44, 45, 46, 47, 48, 49, 50, 51, 52, 53, 54] (by decide +kernel) (by decide +kernel)
set_option maxRecDepth 20000 in
theorem gX8_sign_X8_whyNotSigned : GoodIn wsX8_sign (wsV RX8 113 RX8 yX8_whyNotSigned wsX8_whyNotSigned) := goodIn_app (goodIn_of _ (by decide +kernel)) ggX8_sign_X8_whyNotSigned
set_option maxRecDepth 20000 in
theorem ggX8_sign_X8_save : GoodIn wsX8_sign wsX8_save := goodIn_r _ [30, 31, 32, 11, 33, 34, 5, 35, 44, 45, 46, 47, 48, 49, 50, 51, 52, 53, 54] (by decide +kernel) (by decide +kernel)
set_option maxRecDepth 20000 in
theorem gX8_sign_X8_save : GoodIn wsX8_sign (wsV RX8 55 RX8 yX8_save wsX8_save) := goodIn_app (goodIn_of _ (by decide +kernel)) ggX8_sign_X8_save
set_option maxRecDepth 20000 in
theorem ggX8_sign_X8_firstCopied : GoodIn wsX8_sign wsX8_firstCopied := goodIn_r _ [22, 11, 23, 24, 25, 5, 26, 44, 45, 46, 47, 48, 49, 50, 51, 52, 53, 54] (by decide +kernel) (by decide +kernel)
set_option maxRecDepth 20000 in
theorem gX8_sign_X8_firstCopied : GoodIn wsX8_sign (wsV RX8 110 RX8 yX8_firstCopied wsX8_firstCopied) := goodIn_app (goodIn_of _ (by decide +kernel)) ggX8_sign_X8_firstCopied
set_option maxRecDepth 20000 in
theorem ggX8_sign_X8_signMove : GoodIn wsX8_sign wsX8_signMove := goodIn_r _ [39, 11, 40, 41, 42, 5, 43, 44, 45, 46, 47, 48, 49, 50, 51, 52, 53, 54] (by decide +kernel) (by decide +kernel)
set_option maxRecDepth 20000 in
theorem gX8_sign_X8_signMove : GoodIn wsX8_sign (wsV RX8 116 RX8 yX8_signMove wsX8_signMove) := goodIn_app (goodIn_of _ (by decide +kernel)) ggX8_sign_X8_signMove
theorem dX8_sign_0 : decode cX8_sign 0 = .ok (.aload_n 0, 1) := by decide +kernel
theorem dX8_sign_1 : decode cX8_sign 1 = .ok (.aload_n 0, 1) := by decide +kernel
theorem dX8_sign_2 : decode cX8_sign 2 = .ok (.iload_n 1, 1) := by decide +kernel
theorem dX8_sign_3 : decode cX8_sign 3 = .ok (.invokevirtual 113, 3) := by decide +kernel
theorem dX8_sign_6 : decode cX8_sign 6 = .ok (.putfield 28, 3) := by decide +kernel
theorem dX8_sign_9 : decode cX8_sign 9 = .ok (.aload_n 0, 1) := by decide +kernel
theorem dX8_sign_10 : decode cX8_sign 10 = .ok (.getfield 28, 3) := by decide +kernel
theorem dX8_sign_13 : decode cX8_sign 13 = .ok (.ifCond .le 5, 3) := by decide +kernel
theorem dX8_sign_16 : decode cX8_sign 16 = .ok (.iconst 0, 1) := by decide +kernel
theorem dX8_sign_17 : decode cX8_sign 17 = .ok (.ireturn, 1) := by decide +kernel
theorem dX8_sign_18 : decode cX8_sign 18 = .ok (.aload_n 0, 1) := by decide +kernel
theorem dX8_sign_19 : decode cX8_sign 19 = .ok (.invokevirtual 55, 3) := by decide +kernel
theorem dX8_sign_22 : decode cX8_sign 22 = .ok (.aload_n 0, 1) := by decide +kernel
theorem dX8_sign_23 : decode cX8_sign 23 = .ok (.iload_n 1, 1) := by decide +kernel
theorem dX8_sign_24 : decode cX8_sign 24 = .ok (.invokevirtual 110, 3) := by decide +kernel
theorem dX8_sign_27 : decode cX8_sign 27 = .ok (.istore_n 2, 1) := by decide +kernel
theorem dX8_sign_28 : decode cX8_sign 28 = .ok (.aload_n 0, 1) := by decide +kernel
theorem dX8_sign_29 : decode cX8_sign 29 = .ok (.iload_n 2, 1) := by decide +kernel
theorem dX8_sign_30 : decode cX8_sign 30 = .ok (.invokevirtual 116, 3) := by decide +kernel
theorem dX8_sign_33 : decode cX8_sign 33 = .ok (.iload_n 2, 1) := by decide +kernel
theorem dX8_sign_34 : decode cX8_sign 34 = .ok (.ireturn, 1) := by decide +kernel
set_option maxRecDepth 20000 in
theorem ggX8_copiedTo_X8_movePart : GoodIn wsX8_copiedTo wsX8_movePart := goodIn_r _ [6, 1, 7, 8, 9, 10, 11, 12, 13, 14, 15, 16, 17] (by decide +kernel) (by decide +kernel)
set_option maxRecDepth 20000 in
theorem gX8_copiedTo_X8_movePart : GoodIn wsX8_copiedTo (wsV RX8 70 RX8 yX8_movePart wsX8_movePart) := goodIn_app (goodIn_of _ (by decide +kernel)) ggX8_copiedTo_X8_movePart
theorem dX8_copiedTo_0 : decode cX8_copiedTo 0 = .ok (.iconst 0, 1) := by decide +kernel
theorem dX8_copiedTo_1 : decode cX8_copiedTo 1 = .ok (.istore_n 2, 1) := by decide +kernel
theorem dX8_copiedTo_2 : decode cX8_copiedTo 2 = .ok (.iconst 0, 1) := by decide +kernel
theorem dX8_copiedTo_3 : decode cX8_copiedTo 3 = .ok (.istore_n 3, 1) := by decide +kernel
theorem dX8_copiedTo_4 : decode cX8_copiedTo 4 = .ok (.iload_n 3, 1) := by decide +kernel
theorem dX8_copiedTo_5 : decode cX8_copiedTo 5 = .ok (.aload_n 0, 1) := by decide +kernel
theorem dX8_copiedTo_6 : decode cX8_copiedTo 6 = .ok (.getfield 7, 3) := by decide +kernel
theorem dX8_copiedTo_9 : decode cX8_copiedTo 9 = .ok (.iconst 4, 1) := by decide +kernel
theorem dX8_copiedTo_10 : decode cX8_copiedTo 10 = .ok (.iaload, 1) := by decide +kernel
theorem dX8_copiedTo_11 : decode cX8_copiedTo 11 = .ok (.if_icmp .ge 37, 3) := by decide +kernel
theorem dX8_copiedTo_14 : decode cX8_copiedTo 14 = .ok (.iload_n 2, 1) := by decide +kernel
theorem dX8_copiedTo_15 : decode cX8_copiedTo 15 = .ok (.aload_n 0, 1) := by decide +kernel
theorem dX8_copiedTo_16 : decode cX8_copiedTo 16 = .ok (.iload_n 3, 1) := by decide +kernel
theorem dX8_copiedTo_17 : decode cX8_copiedTo 17 = .ok (.iconst 2, 1) := by decide +kernel
theorem dX8_copiedTo_18 : decode cX8_copiedTo 18 = .ok (.invokevirtual 70, 3) := by decide +kernel
theorem dX8_copiedTo_21 : decode cX8_copiedTo 21 = .ok (.iload_n 1, 1) := by decide +kernel
theorem dX8_copiedTo_22 : decode cX8_copiedTo 22 = .ok (.if_icmp .ne 17, 3) := by decide +kernel
theorem dX8_copiedTo_25 : decode cX8_copiedTo 25 = .ok (.aload_n 0, 1) := by decide +kernel
theorem dX8_copiedTo_26 : decode cX8_copiedTo 26 = .ok (.iload_n 3, 1) := by decide +kernel
theorem dX8_copiedTo_27 : decode cX8_copiedTo 27 = .ok (.iconst 5, 1) := by decide +kernel
theorem dX8_copiedTo_28 : decode cX8_copiedTo 28 = .ok (.invokevirtual 70, 3) := by decide +kernel
theorem dX8_copiedTo_31 : decode cX8_copiedTo 31 = .ok (.iconst 2, 1) := by decide +kernel
theorem dX8_copiedTo_32 : decode cX8_copiedTo 32 = .ok (.if_icmp .ne 7, 3) := by decide +kernel
theorem dX8_copiedTo_35 : decode cX8_copiedTo 35 = .ok (.iconst 1, 1) := by decide +kernel
theorem dX8_copiedTo_36 : decode cX8_copiedTo 36 = .ok (.goto 4, 3) := by decide +kernel
theorem dX8_copiedTo_39 : decode cX8_copiedTo 39 = .ok (.iconst 0, 1) := by decide +kernel
theorem dX8_copiedTo_40 : decode cX8_copiedTo 40 = .ok (.iadd, 1) := by decide +kernel
theorem dX8_copiedTo_41 : decode cX8_copiedTo 41 = .ok (.istore_n 2, 1) := by decide +kernel
theorem dX8_copiedTo_42 : decode cX8_copiedTo 42 = .ok (.iinc 3 1, 3) := by decide +kernel
theorem dX8_copiedTo_45 : decode cX8_copiedTo 45 = .ok (.goto (-41), 3) := by decide +kernel
theorem dX8_copiedTo_48 : decode cX8_copiedTo 48 = .ok (.iload_n 2, 1) := by decide +kernel
theorem dX8_copiedTo_49 : decode cX8_copiedTo 49 = .ok (.ireturn, 1) := by decide +kernel
set_option maxRecDepth 20000 in
theorem ggX8_whyNoStrike_X8_isRing : GoodIn wsX8_whyNoStrike wsX8_isRing := goodIn_r _ [5, 6, 7, 8, 4, 9, 14, 15, 16, 17, 18, 19, 20, 21, 22, 23, 24] (by decide +kernel) (by decide +kernel)
set_option maxRecDepth 20000 in
theorem gX8_whyNoStrike_X8_isRing : GoodIn wsX8_whyNoStrike (wsV RX8 61 RX8 yX8_isRing wsX8_isRing) := goodIn_app (goodIn_of _ (by decide +kernel)) ggX8_whyNoStrike_X8_isRing
set_option maxRecDepth 20000 in
theorem ggX8_whyNoStrike_X8_ringPart : GoodIn wsX8_whyNoStrike wsX8_ringPart := goodIn_r _ [13, 6, 14, 15, 16, 17, 18, 19, 20, 21, 22, 23, 24] (by decide +kernel) (by decide +kernel)
set_option maxRecDepth 20000 in
theorem gX8_whyNoStrike_X8_ringPart : GoodIn wsX8_whyNoStrike (wsV RX8 47 RX8 yX8_ringPart wsX8_ringPart) := goodIn_app (goodIn_of _ (by decide +kernel)) ggX8_whyNoStrike_X8_ringPart
theorem dX8_whyNoStrike_0 : decode cX8_whyNoStrike 0 = .ok (.aload_n 0, 1) := by decide +kernel
theorem dX8_whyNoStrike_1 : decode cX8_whyNoStrike 1 = .ok (.iload_n 1, 1) := by decide +kernel
theorem dX8_whyNoStrike_2 : decode cX8_whyNoStrike 2 = .ok (.invokevirtual 61, 3) := by decide +kernel
theorem dX8_whyNoStrike_5 : decode cX8_whyNoStrike 5 = .ok (.ifCond .ne 7, 3) := by decide +kernel
theorem dX8_whyNoStrike_8 : decode cX8_whyNoStrike 8 = .ok (.iconst 1, 1) := by decide +kernel
theorem dX8_whyNoStrike_9 : decode cX8_whyNoStrike 9 = .ok (.goto 18, 3) := by decide +kernel
theorem dX8_whyNoStrike_12 : decode cX8_whyNoStrike 12 = .ok (.aload_n 0, 1) := by decide +kernel
theorem dX8_whyNoStrike_13 : decode cX8_whyNoStrike 13 = .ok (.iload_n 1, 1) := by decide +kernel
theorem dX8_whyNoStrike_14 : decode cX8_whyNoStrike 14 = .ok (.iconst 3, 1) := by decide +kernel
theorem dX8_whyNoStrike_15 : decode cX8_whyNoStrike 15 = .ok (.invokevirtual 47, 3) := by decide +kernel
theorem dX8_whyNoStrike_18 : decode cX8_whyNoStrike 18 = .ok (.iload_n 2, 1) := by decide +kernel
theorem dX8_whyNoStrike_19 : decode cX8_whyNoStrike 19 = .ok (.if_icmp .ne 7, 3) := by decide +kernel
theorem dX8_whyNoStrike_22 : decode cX8_whyNoStrike 22 = .ok (.iconst 2, 1) := by decide +kernel
theorem dX8_whyNoStrike_23 : decode cX8_whyNoStrike 23 = .ok (.goto 4, 3) := by decide +kernel
theorem dX8_whyNoStrike_26 : decode cX8_whyNoStrike 26 = .ok (.iconst 0, 1) := by decide +kernel
theorem dX8_whyNoStrike_27 : decode cX8_whyNoStrike 27 = .ok (.ireturn, 1) := by decide +kernel
set_option maxRecDepth 20000 in
theorem ggX8_strike_X8_whyNoStrike : GoodIn wsX8_strike wsX8_whyNoStrike := goodIn_r _ [7, 8, 9, 10, 6, 11, 2, 12, 13, 14, 15, 16, 17, 18, 36, 37, 38, 39, 40, 41, 42, 43, 44, 45, 46] (by decide +kernel) (by decide +kernel)
set_option maxRecDepth 20000 in
theorem gX8_strike_X8_whyNoStrike : GoodIn wsX8_strike (wsV RX8 120 RX8 yX8_whyNoStrike wsX8_whyNoStrike) := goodIn_app (goodIn_of _ (by decide +kernel)) ggX8_strike_X8_whyNoStrike
set_option maxRecDepth 20000 in
theorem ggX8_strike_X8_save : GoodIn wsX8_strike wsX8_save := goodIn_r _ [22, 23, 24, 2, 25, 26, 6, 27, 36, 37, 38, 39, 40, 41, 42, 43, 44, 45, 46] (by decide +kernel) (by decide +kernel)
set_option maxRecDepth 20000 in
theorem gX8_strike_X8_save : GoodIn wsX8_strike (wsV RX8 55 RX8 yX8_save wsX8_save) := goodIn_app (goodIn_of _ (by decide +kernel)) ggX8_strike_X8_save
set_option maxRecDepth 20000 in
theorem ggX8_strike_X8_copiedTo : GoodIn wsX8_strike wsX8_copiedTo := goodIn_r _ [31, 2, 32, 33, 34, 6, 35, 36, 37, 38, 39, 40, 41, 42, 43, 44, 45, 46] (by decide +kernel) (by decide +kernel)
set_option maxRecDepth 20000 in
theorem gX8_strike_X8_copiedTo : GoodIn wsX8_strike (wsV RX8 123 RX8 yX8_copiedTo wsX8_copiedTo) := goodIn_app (goodIn_of _ (by decide +kernel)) ggX8_strike_X8_copiedTo
theorem dX8_strike_0 : decode cX8_strike 0 = .ok (.aload_n 0, 1) := by decide +kernel
theorem dX8_strike_1 : decode cX8_strike 1 = .ok (.aload_n 0, 1) := by decide +kernel
theorem dX8_strike_2 : decode cX8_strike 2 = .ok (.iload_n 1, 1) := by decide +kernel
theorem dX8_strike_3 : decode cX8_strike 3 = .ok (.iload_n 2, 1) := by decide +kernel
theorem dX8_strike_4 : decode cX8_strike 4 = .ok (.ifCond .eq 7, 3) := by decide +kernel
theorem dX8_strike_7 : decode cX8_strike 7 = .ok (.iconst 1, 1) := by decide +kernel
theorem dX8_strike_8 : decode cX8_strike 8 = .ok (.goto 4, 3) := by decide +kernel
theorem dX8_strike_11 : decode cX8_strike 11 = .ok (.iconst 0, 1) := by decide +kernel
theorem dX8_strike_12 : decode cX8_strike 12 = .ok (.invokevirtual 120, 3) := by decide +kernel
theorem dX8_strike_15 : decode cX8_strike 15 = .ok (.putfield 28, 3) := by decide +kernel
theorem dX8_strike_18 : decode cX8_strike 18 = .ok (.aload_n 0, 1) := by decide +kernel
theorem dX8_strike_19 : decode cX8_strike 19 = .ok (.getfield 28, 3) := by decide +kernel
theorem dX8_strike_22 : decode cX8_strike 22 = .ok (.ifCond .le 5, 3) := by decide +kernel
theorem dX8_strike_25 : decode cX8_strike 25 = .ok (.iconst 0, 1) := by decide +kernel
theorem dX8_strike_26 : decode cX8_strike 26 = .ok (.ireturn, 1) := by decide +kernel
theorem dX8_strike_27 : decode cX8_strike 27 = .ok (.aload_n 0, 1) := by decide +kernel
theorem dX8_strike_28 : decode cX8_strike 28 = .ok (.invokevirtual 55, 3) := by decide +kernel
theorem dX8_strike_31 : decode cX8_strike 31 = .ok (.aload_n 0, 1) := by decide +kernel
theorem dX8_strike_32 : decode cX8_strike 32 = .ok (.getfield 7, 3) := by decide +kernel
theorem dX8_strike_35 : decode cX8_strike 35 = .ok (.bipush 56, 2) := by decide +kernel
theorem dX8_strike_37 : decode cX8_strike 37 = .ok (.iconst 4, 1) := by decide +kernel
theorem dX8_strike_38 : decode cX8_strike 38 = .ok (.iload_n 1, 1) := by decide +kernel
theorem dX8_strike_39 : decode cX8_strike 39 = .ok (.imul, 1) := by decide +kernel
theorem dX8_strike_40 : decode cX8_strike 40 = .ok (.iadd, 1) := by decide +kernel
theorem dX8_strike_41 : decode cX8_strike 41 = .ok (.iconst 3, 1) := by decide +kernel
theorem dX8_strike_42 : decode cX8_strike 42 = .ok (.iadd, 1) := by decide +kernel
theorem dX8_strike_43 : decode cX8_strike 43 = .ok (.iload_n 2, 1) := by decide +kernel
theorem dX8_strike_44 : decode cX8_strike 44 = .ok (.ifCond .eq 7, 3) := by decide +kernel
theorem dX8_strike_47 : decode cX8_strike 47 = .ok (.iconst 1, 1) := by decide +kernel
theorem dX8_strike_48 : decode cX8_strike 48 = .ok (.goto 4, 3) := by decide +kernel
theorem dX8_strike_51 : decode cX8_strike 51 = .ok (.iconst 0, 1) := by decide +kernel
theorem dX8_strike_52 : decode cX8_strike 52 = .ok (.iastore, 1) := by decide +kernel
theorem dX8_strike_53 : decode cX8_strike 53 = .ok (.aload_n 0, 1) := by decide +kernel
theorem dX8_strike_54 : decode cX8_strike 54 = .ok (.iload_n 1, 1) := by decide +kernel
theorem dX8_strike_55 : decode cX8_strike 55 = .ok (.invokevirtual 123, 3) := by decide +kernel
theorem dX8_strike_58 : decode cX8_strike 58 = .ok (.ireturn, 1) := by decide +kernel
set_option maxRecDepth 20000 in
theorem ggX8_waits_X8_movePart : GoodIn wsX8_waits wsX8_movePart := goodIn_r _ [5, 6, 27, 28, 29, 30, 31, 32, 33, 34, 35, 36, 37] (by decide +kernel) (by decide +kernel)
set_option maxRecDepth 20000 in
theorem gX8_waits_X8_movePart : GoodIn wsX8_waits (wsV RX8 70 RX8 yX8_movePart wsX8_movePart) := goodIn_app (goodIn_of _ (by decide +kernel)) ggX8_waits_X8_movePart
set_option maxRecDepth 20000 in
theorem ggX8_waits_X8_sourceCell : GoodIn wsX8_waits wsX8_sourceCell := goodIn_r _ [10, 1, 2, 3, 4, 5, 6, 11, 12, 13, 14, 27, 28, 29, 30, 31, 32, 33, 34, 35, 36, 37] (by decide +kernel) (by decide +kernel)
set_option maxRecDepth 20000 in
theorem gX8_waits_X8_sourceCell : GoodIn wsX8_waits (wsV RX8 73 RX8 yX8_sourceCell wsX8_sourceCell) := goodIn_app (goodIn_of _ (by decide +kernel)) ggX8_waits_X8_sourceCell
set_option maxRecDepth 20000 in
theorem ggX8_waits_X8_writes : GoodIn wsX8_waits wsX8_writes := goodIn_r _ [18, 1, 2, 3, 4, 5, 6, 19, 20, 21, 22, 11, 12, 13, 14, 27, 28, 29, 30, 31, 32, 33, 34, 35, 36, 37] (by decide +kernel) (by decide +kernel)
set_option maxRecDepth 20000 in
theorem gX8_waits_X8_writes : GoodIn wsX8_waits (wsV RX8 86 RX8 yX8_writes wsX8_writes) := goodIn_app (goodIn_of _ (by decide +kernel)) ggX8_waits_X8_writes
set_option maxRecDepth 20000 in
theorem ggX8_waits_X8_targetCell : GoodIn wsX8_waits wsX8_targetCell := goodIn_r _ [22, 1, 2, 3, 4, 5, 6, 11, 12, 13, 14, 27, 28, 29, 30, 31, 32, 33, 34, 35, 36, 37] (by decide +kernel) (by decide +kernel)
set_option maxRecDepth 20000 in
theorem gX8_waits_X8_targetCell : GoodIn wsX8_waits (wsV RX8 76 RX8 yX8_targetCell wsX8_targetCell) := goodIn_app (goodIn_of _ (by decide +kernel)) ggX8_waits_X8_targetCell
set_option maxRecDepth 20000 in
theorem ggX8_waits_X8_reads : GoodIn wsX8_waits wsX8_reads := goodIn_r _ [26, 1, 2, 3, 4, 5, 6, 7, 8, 9, 10, 11, 12, 13, 14, 27, 28, 29, 30, 31, 32, 33, 34, 35, 36, 37] (by decide +kernel) (by decide +kernel)
set_option maxRecDepth 20000 in
theorem gX8_waits_X8_reads : GoodIn wsX8_waits (wsV RX8 79 RX8 yX8_reads wsX8_reads) := goodIn_app (goodIn_of _ (by decide +kernel)) ggX8_waits_X8_reads
theorem dX8_waits_0 : decode cX8_waits 0 = .ok (.aload_n 0, 1) := by decide +kernel
theorem dX8_waits_1 : decode cX8_waits 1 = .ok (.iload_n 2, 1) := by decide +kernel
theorem dX8_waits_2 : decode cX8_waits 2 = .ok (.iconst 5, 1) := by decide +kernel
theorem dX8_waits_3 : decode cX8_waits 3 = .ok (.invokevirtual 70, 3) := by decide +kernel
theorem dX8_waits_6 : decode cX8_waits 6 = .ok (.istore_n 3, 1) := by decide +kernel
theorem dX8_waits_7 : decode cX8_waits 7 = .ok (.iconst 0, 1) := by decide +kernel
theorem dX8_waits_8 : decode cX8_waits 8 = .ok (.istore 4, 2) := by decide +kernel
theorem dX8_waits_10 : decode cX8_waits 10 = .ok (.iconst 0, 1) := by decide +kernel
theorem dX8_waits_11 : decode cX8_waits 11 = .ok (.istore 5, 2) := by decide +kernel
theorem dX8_waits_13 : decode cX8_waits 13 = .ok (.iload 5, 2) := by decide +kernel
theorem dX8_waits_15 : decode cX8_waits 15 = .ok (.aload_n 0, 1) := by decide +kernel
theorem dX8_waits_16 : decode cX8_waits 16 = .ok (.iload_n 2, 1) := by decide +kernel
theorem dX8_waits_17 : decode cX8_waits 17 = .ok (.iconst 4, 1) := by decide +kernel
theorem dX8_waits_18 : decode cX8_waits 18 = .ok (.invokevirtual 70, 3) := by decide +kernel
theorem dX8_waits_21 : decode cX8_waits 21 = .ok (.if_icmp .ge 87, 3) := by decide +kernel
theorem dX8_waits_24 : decode cX8_waits 24 = .ok (.iload_n 3, 1) := by decide +kernel
theorem dX8_waits_25 : decode cX8_waits 25 = .ok (.iconst 3, 1) := by decide +kernel
theorem dX8_waits_26 : decode cX8_waits 26 = .ok (.if_icmp .eq 82, 3) := by decide +kernel
theorem dX8_waits_29 : decode cX8_waits 29 = .ok (.iload 4, 2) := by decide +kernel
theorem dX8_waits_31 : decode cX8_waits 31 = .ok (.ifCond .ne 18, 3) := by decide +kernel
theorem dX8_waits_34 : decode cX8_waits 34 = .ok (.aload_n 0, 1) := by decide +kernel
theorem dX8_waits_35 : decode cX8_waits 35 = .ok (.iload_n 1, 1) := by decide +kernel
theorem dX8_waits_36 : decode cX8_waits 36 = .ok (.aload_n 0, 1) := by decide +kernel
theorem dX8_waits_37 : decode cX8_waits 37 = .ok (.iload_n 2, 1) := by decide +kernel
theorem dX8_waits_38 : decode cX8_waits 38 = .ok (.iload 5, 2) := by decide +kernel
theorem dX8_waits_40 : decode cX8_waits 40 = .ok (.invokevirtual 73, 3) := by decide +kernel
theorem dX8_waits_43 : decode cX8_waits 43 = .ok (.invokevirtual 86, 3) := by decide +kernel
theorem dX8_waits_46 : decode cX8_waits 46 = .ok (.ifCond .eq 7, 3) := by decide +kernel
theorem dX8_waits_49 : decode cX8_waits 49 = .ok (.iconst 1, 1) := by decide +kernel
theorem dX8_waits_50 : decode cX8_waits 50 = .ok (.goto 4, 3) := by decide +kernel
theorem dX8_waits_53 : decode cX8_waits 53 = .ok (.iconst 0, 1) := by decide +kernel
theorem dX8_waits_54 : decode cX8_waits 54 = .ok (.istore 4, 2) := by decide +kernel
theorem dX8_waits_56 : decode cX8_waits 56 = .ok (.aload_n 0, 1) := by decide +kernel
theorem dX8_waits_57 : decode cX8_waits 57 = .ok (.iload_n 2, 1) := by decide +kernel
theorem dX8_waits_58 : decode cX8_waits 58 = .ok (.iload 5, 2) := by decide +kernel
theorem dX8_waits_60 : decode cX8_waits 60 = .ok (.invokevirtual 76, 3) := by decide +kernel
theorem dX8_waits_63 : decode cX8_waits 63 = .ok (.istore 6, 2) := by decide +kernel
theorem dX8_waits_65 : decode cX8_waits 65 = .ok (.iload 4, 2) := by decide +kernel
theorem dX8_waits_67 : decode cX8_waits 67 = .ok (.ifCond .ne 28, 3) := by decide +kernel
theorem dX8_waits_70 : decode cX8_waits 70 = .ok (.iload_n 3, 1) := by decide +kernel
theorem dX8_waits_71 : decode cX8_waits 71 = .ok (.iconst 2, 1) := by decide +kernel
theorem dX8_waits_72 : decode cX8_waits 72 = .ok (.if_icmp .eq 27, 3) := by decide +kernel
theorem dX8_waits_75 : decode cX8_waits 75 = .ok (.aload_n 0, 1) := by decide +kernel
theorem dX8_waits_76 : decode cX8_waits 76 = .ok (.iload_n 1, 1) := by decide +kernel
theorem dX8_waits_77 : decode cX8_waits 77 = .ok (.iload 6, 2) := by decide +kernel
theorem dX8_waits_79 : decode cX8_waits 79 = .ok (.invokevirtual 79, 3) := by decide +kernel
theorem dX8_waits_82 : decode cX8_waits 82 = .ok (.ifCond .ne 13, 3) := by decide +kernel
theorem dX8_waits_85 : decode cX8_waits 85 = .ok (.aload_n 0, 1) := by decide +kernel
theorem dX8_waits_86 : decode cX8_waits 86 = .ok (.iload_n 1, 1) := by decide +kernel
theorem dX8_waits_87 : decode cX8_waits 87 = .ok (.iload 6, 2) := by decide +kernel
theorem dX8_waits_89 : decode cX8_waits 89 = .ok (.invokevirtual 86, 3) := by decide +kernel
theorem dX8_waits_92 : decode cX8_waits 92 = .ok (.ifCond .eq 7, 3) := by decide +kernel
theorem dX8_waits_95 : decode cX8_waits 95 = .ok (.iconst 1, 1) := by decide +kernel
theorem dX8_waits_96 : decode cX8_waits 96 = .ok (.goto 4, 3) := by decide +kernel
theorem dX8_waits_99 : decode cX8_waits 99 = .ok (.iconst 0, 1) := by decide +kernel
theorem dX8_waits_100 : decode cX8_waits 100 = .ok (.istore 4, 2) := by decide +kernel
theorem dX8_waits_102 : decode cX8_waits 102 = .ok (.iinc 5 1, 3) := by decide +kernel
theorem dX8_waits_105 : decode cX8_waits 105 = .ok (.goto (-92), 3) := by decide +kernel
theorem dX8_waits_108 : decode cX8_waits 108 = .ok (.iload 4, 2) := by decide +kernel
theorem dX8_waits_110 : decode cX8_waits 110 = .ok (.ireturn, 1) := by decide +kernel
set_option maxRecDepth 20000 in
theorem ggX8_waitsOf_X8_movePart : GoodIn wsX8_waitsOf wsX8_movePart := goodIn_r _ [5, 6, 31, 32, 33, 34, 35, 36, 37, 38, 39, 40, 41] (by decide +kernel) (by decide +kernel)
set_option maxRecDepth 20000 in
theorem gX8_waitsOf_X8_movePart : GoodIn wsX8_waitsOf (wsV RX8 70 RX8 yX8_movePart wsX8_movePart) := goodIn_app (goodIn_of _ (by decide +kernel)) ggX8_waitsOf_X8_movePart
set_option maxRecDepth 20000 in
theorem ggX8_waitsOf_X8_waits : GoodIn wsX8_waitsOf wsX8_waits := goodIn_r _ [10, 1, 2, 3, 4, 5, 6, 11, 12, 13, 14, 15, 16, 17, 18, 19, 20, 21, 22, 23, 24, 25, 26, 27, 28, 29, 30, 31, 32, 33, 34, 35, 36, 37, 38, 39, 40, 41] (by decide +kernel) (by decide +kernel)
set_option maxRecDepth 20000 in
theorem gX8_waitsOf_X8_waits : GoodIn wsX8_waitsOf (wsV RX8 126 RX8 yX8_waits wsX8_waits) := goodIn_app (goodIn_of _ (by decide +kernel)) ggX8_waitsOf_X8_waits
theorem dX8_waitsOf_0 : decode cX8_waitsOf 0 = .ok (.iconst 0, 1) := by decide +kernel
theorem dX8_waitsOf_1 : decode cX8_waitsOf 1 = .ok (.istore_n 2, 1) := by decide +kernel
theorem dX8_waitsOf_2 : decode cX8_waitsOf 2 = .ok (.iconst 0, 1) := by decide +kernel
theorem dX8_waitsOf_3 : decode cX8_waitsOf 3 = .ok (.istore_n 3, 1) := by decide +kernel
theorem dX8_waitsOf_4 : decode cX8_waitsOf 4 = .ok (.iload_n 3, 1) := by decide +kernel
theorem dX8_waitsOf_5 : decode cX8_waitsOf 5 = .ok (.iload_n 1, 1) := by decide +kernel
theorem dX8_waitsOf_6 : decode cX8_waitsOf 6 = .ok (.if_icmp .ge 37, 3) := by decide +kernel
theorem dX8_waitsOf_9 : decode cX8_waitsOf 9 = .ok (.aload_n 0, 1) := by decide +kernel
theorem dX8_waitsOf_10 : decode cX8_waitsOf 10 = .ok (.iload_n 1, 1) := by decide +kernel
theorem dX8_waitsOf_11 : decode cX8_waitsOf 11 = .ok (.iconst 5, 1) := by decide +kernel
theorem dX8_waitsOf_12 : decode cX8_waitsOf 12 = .ok (.invokevirtual 70, 3) := by decide +kernel
theorem dX8_waitsOf_15 : decode cX8_waitsOf 15 = .ok (.ifCond .ne 28, 3) := by decide +kernel
theorem dX8_waitsOf_18 : decode cX8_waitsOf 18 = .ok (.iload_n 2, 1) := by decide +kernel
theorem dX8_waitsOf_19 : decode cX8_waitsOf 19 = .ok (.aload_n 0, 1) := by decide +kernel
theorem dX8_waitsOf_20 : decode cX8_waitsOf 20 = .ok (.iload_n 1, 1) := by decide +kernel
theorem dX8_waitsOf_21 : decode cX8_waitsOf 21 = .ok (.iload_n 3, 1) := by decide +kernel
theorem dX8_waitsOf_22 : decode cX8_waitsOf 22 = .ok (.invokevirtual 126, 3) := by decide +kernel
theorem dX8_waitsOf_25 : decode cX8_waitsOf 25 = .ok (.ifCond .eq 9, 3) := by decide +kernel
theorem dX8_waitsOf_28 : decode cX8_waitsOf 28 = .ok (.iconst 1, 1) := by decide +kernel
theorem dX8_waitsOf_29 : decode cX8_waitsOf 29 = .ok (.iload_n 3, 1) := by decide +kernel
theorem dX8_waitsOf_30 : decode cX8_waitsOf 30 = .ok (.ishl, 1) := by decide +kernel
theorem dX8_waitsOf_31 : decode cX8_waitsOf 31 = .ok (.goto 4, 3) := by decide +kernel
theorem dX8_waitsOf_34 : decode cX8_waitsOf 34 = .ok (.iconst 0, 1) := by decide +kernel
theorem dX8_waitsOf_35 : decode cX8_waitsOf 35 = .ok (.ior, 1) := by decide +kernel
theorem dX8_waitsOf_36 : decode cX8_waitsOf 36 = .ok (.istore_n 2, 1) := by decide +kernel
theorem dX8_waitsOf_37 : decode cX8_waitsOf 37 = .ok (.iinc 3 1, 3) := by decide +kernel
theorem dX8_waitsOf_40 : decode cX8_waitsOf 40 = .ok (.goto (-36), 3) := by decide +kernel
theorem dX8_waitsOf_43 : decode cX8_waitsOf 43 = .ok (.iload_n 2, 1) := by decide +kernel
theorem dX8_waitsOf_44 : decode cX8_waitsOf 44 = .ok (.ireturn, 1) := by decide +kernel
set_option maxRecDepth 20000 in
theorem ggX8_movesIn_X8_movePart : GoodIn wsX8_movesIn wsX8_movePart := goodIn_r _ [6, 1, 7, 8, 9, 10, 11, 12, 13, 14, 15, 16, 17] (by decide +kernel) (by decide +kernel)
set_option maxRecDepth 20000 in
theorem gX8_movesIn_X8_movePart : GoodIn wsX8_movesIn (wsV RX8 70 RX8 yX8_movePart wsX8_movePart) := goodIn_app (goodIn_of _ (by decide +kernel)) ggX8_movesIn_X8_movePart
theorem dX8_movesIn_0 : decode cX8_movesIn 0 = .ok (.iconst 0, 1) := by decide +kernel
theorem dX8_movesIn_1 : decode cX8_movesIn 1 = .ok (.istore_n 2, 1) := by decide +kernel
theorem dX8_movesIn_2 : decode cX8_movesIn 2 = .ok (.iconst 0, 1) := by decide +kernel
theorem dX8_movesIn_3 : decode cX8_movesIn 3 = .ok (.istore_n 3, 1) := by decide +kernel
theorem dX8_movesIn_4 : decode cX8_movesIn 4 = .ok (.iload_n 3, 1) := by decide +kernel
theorem dX8_movesIn_5 : decode cX8_movesIn 5 = .ok (.aload_n 0, 1) := by decide +kernel
theorem dX8_movesIn_6 : decode cX8_movesIn 6 = .ok (.getfield 7, 3) := by decide +kernel
theorem dX8_movesIn_9 : decode cX8_movesIn 9 = .ok (.iconst 4, 1) := by decide +kernel
theorem dX8_movesIn_10 : decode cX8_movesIn 10 = .ok (.iaload, 1) := by decide +kernel
theorem dX8_movesIn_11 : decode cX8_movesIn 11 = .ok (.if_icmp .ge 27, 3) := by decide +kernel
theorem dX8_movesIn_14 : decode cX8_movesIn 14 = .ok (.iload_n 2, 1) := by decide +kernel
theorem dX8_movesIn_15 : decode cX8_movesIn 15 = .ok (.aload_n 0, 1) := by decide +kernel
theorem dX8_movesIn_16 : decode cX8_movesIn 16 = .ok (.iload_n 3, 1) := by decide +kernel
theorem dX8_movesIn_17 : decode cX8_movesIn 17 = .ok (.iconst 5, 1) := by decide +kernel
theorem dX8_movesIn_18 : decode cX8_movesIn 18 = .ok (.invokevirtual 70, 3) := by decide +kernel
theorem dX8_movesIn_21 : decode cX8_movesIn 21 = .ok (.iload_n 1, 1) := by decide +kernel
theorem dX8_movesIn_22 : decode cX8_movesIn 22 = .ok (.if_icmp .ne 7, 3) := by decide +kernel
theorem dX8_movesIn_25 : decode cX8_movesIn 25 = .ok (.iconst 1, 1) := by decide +kernel
theorem dX8_movesIn_26 : decode cX8_movesIn 26 = .ok (.goto 4, 3) := by decide +kernel
theorem dX8_movesIn_29 : decode cX8_movesIn 29 = .ok (.iconst 0, 1) := by decide +kernel
theorem dX8_movesIn_30 : decode cX8_movesIn 30 = .ok (.iadd, 1) := by decide +kernel
theorem dX8_movesIn_31 : decode cX8_movesIn 31 = .ok (.istore_n 2, 1) := by decide +kernel
theorem dX8_movesIn_32 : decode cX8_movesIn 32 = .ok (.iinc 3 1, 3) := by decide +kernel
theorem dX8_movesIn_35 : decode cX8_movesIn 35 = .ok (.goto (-31), 3) := by decide +kernel
theorem dX8_movesIn_38 : decode cX8_movesIn 38 = .ok (.iload_n 2, 1) := by decide +kernel
theorem dX8_movesIn_39 : decode cX8_movesIn 39 = .ok (.ireturn, 1) := by decide +kernel
set_option maxRecDepth 20000 in
theorem ggX8_signsByThemselves_X8_ringPart : GoodIn wsX8_signsByThemselves wsX8_ringPart := goodIn_r _ [6, 1, 19, 20, 21, 22, 23, 24, 25, 26, 27, 28, 29] (by decide +kernel) (by decide +kernel)
set_option maxRecDepth 20000 in
theorem gX8_signsByThemselves_X8_ringPart : GoodIn wsX8_signsByThemselves (wsV RX8 47 RX8 yX8_ringPart wsX8_ringPart) := goodIn_app (goodIn_of _ (by decide +kernel)) ggX8_signsByThemselves_X8_ringPart
set_option maxRecDepth 20000 in
theorem ggX8_signsByThemselves_X8_movePart : GoodIn wsX8_signsByThemselves wsX8_movePart := goodIn_r _ [10, 1, 19, 20, 21, 22, 23, 24, 25, 26, 27, 28, 29] (by decide +kernel) (by decide +kernel)
set_option maxRecDepth 20000 in
theorem gX8_signsByThemselves_X8_movePart : GoodIn wsX8_signsByThemselves (wsV RX8 70 RX8 yX8_movePart wsX8_movePart) := goodIn_app (goodIn_of _ (by decide +kernel)) ggX8_signsByThemselves_X8_movePart
set_option maxRecDepth 20000 in
theorem ggX8_signsByThemselves_X8_signMove : GoodIn wsX8_signsByThemselves wsX8_signMove := goodIn_r _ [14, 1, 15, 16, 17, 5, 18, 19, 20, 21, 22, 23, 24, 25, 26, 27, 28, 29] (by decide +kernel) (by decide +kernel)
set_option maxRecDepth 20000 in
theorem gX8_signsByThemselves_X8_signMove : GoodIn wsX8_signsByThemselves (wsV RX8 116 RX8 yX8_signMove wsX8_signMove) := goodIn_app (goodIn_of _ (by decide +kernel)) ggX8_signsByThemselves_X8_signMove
theorem dX8_signsByThemselves_0 : decode cX8_signsByThemselves 0 = .ok (.iconst 0, 1) := by decide +kernel
theorem dX8_signsByThemselves_1 : decode cX8_signsByThemselves 1 = .ok (.istore_n 1, 1) := by decide +kernel
theorem dX8_signsByThemselves_2 : decode cX8_signsByThemselves 2 = .ok (.iload_n 1, 1) := by decide +kernel
theorem dX8_signsByThemselves_3 : decode cX8_signsByThemselves 3 = .ok (.aload_n 0, 1) := by decide +kernel
theorem dX8_signsByThemselves_4 : decode cX8_signsByThemselves 4 = .ok (.getfield 7, 3) := by decide +kernel
theorem dX8_signsByThemselves_7 : decode cX8_signsByThemselves 7 = .ok (.iconst 3, 1) := by decide +kernel
theorem dX8_signsByThemselves_8 : decode cX8_signsByThemselves 8 = .ok (.iaload, 1) := by decide +kernel
theorem dX8_signsByThemselves_9 : decode cX8_signsByThemselves 9 = .ok (.if_icmp .ge 115, 3) := by decide +kernel
theorem dX8_signsByThemselves_12 : decode cX8_signsByThemselves 12 = .ok (.aload_n 0, 1) := by decide +kernel
theorem dX8_signsByThemselves_13 : decode cX8_signsByThemselves 13 = .ok (.iload_n 1, 1) := by decide +kernel
theorem dX8_signsByThemselves_14 : decode cX8_signsByThemselves 14 = .ok (.iconst 3, 1) := by decide +kernel
theorem dX8_signsByThemselves_15 : decode cX8_signsByThemselves 15 = .ok (.invokevirtual 47, 3) := by decide +kernel
theorem dX8_signsByThemselves_18 : decode cX8_signsByThemselves 18 = .ok (.ifCond .ne 16, 3) := by decide +kernel
theorem dX8_signsByThemselves_21 : decode cX8_signsByThemselves 21 = .ok (.aload_n 0, 1) := by decide +kernel
theorem dX8_signsByThemselves_22 : decode cX8_signsByThemselves 22 = .ok (.iload_n 1, 1) := by decide +kernel
theorem dX8_signsByThemselves_23 : decode cX8_signsByThemselves 23 = .ok (.iconst 2, 1) := by decide +kernel
theorem dX8_signsByThemselves_24 : decode cX8_signsByThemselves 24 = .ok (.invokevirtual 47, 3) := by decide +kernel
theorem dX8_signsByThemselves_27 : decode cX8_signsByThemselves 27 = .ok (.ifCond .le 7, 3) := by decide +kernel
theorem dX8_signsByThemselves_30 : decode cX8_signsByThemselves 30 = .ok (.iconst 1, 1) := by decide +kernel
theorem dX8_signsByThemselves_31 : decode cX8_signsByThemselves 31 = .ok (.goto 4, 3) := by decide +kernel
theorem dX8_signsByThemselves_34 : decode cX8_signsByThemselves 34 = .ok (.iconst 0, 1) := by decide +kernel
theorem dX8_signsByThemselves_35 : decode cX8_signsByThemselves 35 = .ok (.istore_n 2, 1) := by decide +kernel
theorem dX8_signsByThemselves_36 : decode cX8_signsByThemselves 36 = .ok (.iconst 0, 1) := by decide +kernel
theorem dX8_signsByThemselves_37 : decode cX8_signsByThemselves 37 = .ok (.istore_n 3, 1) := by decide +kernel
theorem dX8_signsByThemselves_38 : decode cX8_signsByThemselves 38 = .ok (.iload_n 3, 1) := by decide +kernel
theorem dX8_signsByThemselves_39 : decode cX8_signsByThemselves 39 = .ok (.aload_n 0, 1) := by decide +kernel
theorem dX8_signsByThemselves_40 : decode cX8_signsByThemselves 40 = .ok (.getfield 7, 3) := by decide +kernel
theorem dX8_signsByThemselves_43 : decode cX8_signsByThemselves 43 = .ok (.iconst 4, 1) := by decide +kernel
theorem dX8_signsByThemselves_44 : decode cX8_signsByThemselves 44 = .ok (.iaload, 1) := by decide +kernel
theorem dX8_signsByThemselves_45 : decode cX8_signsByThemselves 45 = .ok (.if_icmp .ge 73, 3) := by decide +kernel
theorem dX8_signsByThemselves_48 : decode cX8_signsByThemselves 48 = .ok (.iload_n 2, 1) := by decide +kernel
theorem dX8_signsByThemselves_49 : decode cX8_signsByThemselves 49 = .ok (.ifCond .eq 69, 3) := by decide +kernel
theorem dX8_signsByThemselves_52 : decode cX8_signsByThemselves 52 = .ok (.aload_n 0, 1) := by decide +kernel
theorem dX8_signsByThemselves_53 : decode cX8_signsByThemselves 53 = .ok (.iload_n 3, 1) := by decide +kernel
theorem dX8_signsByThemselves_54 : decode cX8_signsByThemselves 54 = .ok (.iconst 2, 1) := by decide +kernel
theorem dX8_signsByThemselves_55 : decode cX8_signsByThemselves 55 = .ok (.invokevirtual 70, 3) := by decide +kernel
theorem dX8_signsByThemselves_58 : decode cX8_signsByThemselves 58 = .ok (.iload_n 1, 1) := by decide +kernel
theorem dX8_signsByThemselves_59 : decode cX8_signsByThemselves 59 = .ok (.if_icmp .ne 17, 3) := by decide +kernel
theorem dX8_signsByThemselves_62 : decode cX8_signsByThemselves 62 = .ok (.aload_n 0, 1) := by decide +kernel
theorem dX8_signsByThemselves_63 : decode cX8_signsByThemselves 63 = .ok (.iload_n 3, 1) := by decide +kernel
theorem dX8_signsByThemselves_64 : decode cX8_signsByThemselves 64 = .ok (.iconst 5, 1) := by decide +kernel
theorem dX8_signsByThemselves_65 : decode cX8_signsByThemselves 65 = .ok (.invokevirtual 70, 3) := by decide +kernel
theorem dX8_signsByThemselves_68 : decode cX8_signsByThemselves 68 = .ok (.iconst 2, 1) := by decide +kernel
theorem dX8_signsByThemselves_69 : decode cX8_signsByThemselves 69 = .ok (.if_icmp .ne 7, 3) := by decide +kernel
theorem dX8_signsByThemselves_72 : decode cX8_signsByThemselves 72 = .ok (.iconst 1, 1) := by decide +kernel
theorem dX8_signsByThemselves_73 : decode cX8_signsByThemselves 73 = .ok (.goto 4, 3) := by decide +kernel
theorem dX8_signsByThemselves_76 : decode cX8_signsByThemselves 76 = .ok (.iconst 0, 1) := by decide +kernel
theorem dX8_signsByThemselves_77 : decode cX8_signsByThemselves 77 = .ok (.istore 4, 2) := by decide +kernel
theorem dX8_signsByThemselves_79 : decode cX8_signsByThemselves 79 = .ok (.iload 4, 2) := by decide +kernel
theorem dX8_signsByThemselves_81 : decode cX8_signsByThemselves 81 = .ok (.ifCond .eq 31, 3) := by decide +kernel
theorem dX8_signsByThemselves_84 : decode cX8_signsByThemselves 84 = .ok (.aload_n 0, 1) := by decide +kernel
theorem dX8_signsByThemselves_85 : decode cX8_signsByThemselves 85 = .ok (.getfield 7, 3) := by decide +kernel
theorem dX8_signsByThemselves_88 : decode cX8_signsByThemselves 88 = .ok (.iconst 0, 1) := by decide +kernel
theorem dX8_signsByThemselves_89 : decode cX8_signsByThemselves 89 = .ok (.iaload, 1) := by decide +kernel
theorem dX8_signsByThemselves_90 : decode cX8_signsByThemselves 90 = .ok (.aload_n 0, 1) := by decide +kernel
theorem dX8_signsByThemselves_91 : decode cX8_signsByThemselves 91 = .ok (.iload_n 3, 1) := by decide +kernel
theorem dX8_signsByThemselves_92 : decode cX8_signsByThemselves 92 = .ok (.bipush 8, 2) := by decide +kernel
theorem dX8_signsByThemselves_94 : decode cX8_signsByThemselves 94 = .ok (.invokevirtual 70, 3) := by decide +kernel
theorem dX8_signsByThemselves_97 : decode cX8_signsByThemselves 97 = .ok (.isub, 1) := by decide +kernel
theorem dX8_signsByThemselves_98 : decode cX8_signsByThemselves 98 = .ok (.aload_n 0, 1) := by decide +kernel
theorem dX8_signsByThemselves_99 : decode cX8_signsByThemselves 99 = .ok (.iload_n 1, 1) := by decide +kernel
theorem dX8_signsByThemselves_100 : decode cX8_signsByThemselves 100 = .ok (.iconst 2, 1) := by decide +kernel
theorem dX8_signsByThemselves_101 : decode cX8_signsByThemselves 101 = .ok (.invokevirtual 47, 3) := by decide +kernel
theorem dX8_signsByThemselves_104 : decode cX8_signsByThemselves 104 = .ok (.if_icmp .lt 8, 3) := by decide +kernel
theorem dX8_signsByThemselves_107 : decode cX8_signsByThemselves 107 = .ok (.aload_n 0, 1) := by decide +kernel
theorem dX8_signsByThemselves_108 : decode cX8_signsByThemselves 108 = .ok (.iload_n 3, 1) := by decide +kernel
theorem dX8_signsByThemselves_109 : decode cX8_signsByThemselves 109 = .ok (.invokevirtual 116, 3) := by decide +kernel
theorem dX8_signsByThemselves_112 : decode cX8_signsByThemselves 112 = .ok (.iinc 3 1, 3) := by decide +kernel
theorem dX8_signsByThemselves_115 : decode cX8_signsByThemselves 115 = .ok (.goto (-77), 3) := by decide +kernel
theorem dX8_signsByThemselves_118 : decode cX8_signsByThemselves 118 = .ok (.iinc 1 1, 3) := by decide +kernel
theorem dX8_signsByThemselves_121 : decode cX8_signsByThemselves 121 = .ok (.goto (-119), 3) := by decide +kernel
theorem dX8_signsByThemselves_124 : decode cX8_signsByThemselves 124 = .ok (.return_, 1) := by decide +kernel
set_option maxRecDepth 20000 in
theorem ggX8_startMove_X8_setMovePart : GoodIn wsX8_startMove wsX8_setMovePart := goodIn_r _ [6, 1, 19, 20, 21, 22, 23, 24, 25, 26, 27, 28, 29] (by decide +kernel) (by decide +kernel)
set_option maxRecDepth 20000 in
theorem gX8_startMove_X8_setMovePart : GoodIn wsX8_startMove (wsV RX8 99 RX8 yX8_setMovePart wsX8_setMovePart) := goodIn_app (goodIn_of _ (by decide +kernel)) ggX8_startMove_X8_setMovePart
set_option maxRecDepth 20000 in
theorem ggX8_startMove_X8_movePart : GoodIn wsX8_startMove wsX8_movePart := goodIn_r _ [10, 1, 19, 20, 21, 22, 23, 24, 25, 26, 27, 28, 29] (by decide +kernel) (by decide +kernel)
set_option maxRecDepth 20000 in
theorem gX8_startMove_X8_movePart : GoodIn wsX8_startMove (wsV RX8 70 RX8 yX8_movePart wsX8_movePart) := goodIn_app (goodIn_of _ (by decide +kernel)) ggX8_startMove_X8_movePart
set_option maxRecDepth 20000 in
theorem ggX8_startMove_X8_sourceCell : GoodIn wsX8_startMove wsX8_sourceCell := goodIn_r _ [14, 7, 8, 9, 5, 10, 1, 15, 16, 17, 18, 19, 20, 21, 22, 23, 24, 25, 26, 27, 28, 29] (by decide +kernel) (by decide +kernel)
set_option maxRecDepth 20000 in
theorem gX8_startMove_X8_sourceCell : GoodIn wsX8_startMove (wsV RX8 73 RX8 yX8_sourceCell wsX8_sourceCell) := goodIn_app (goodIn_of _ (by decide +kernel)) ggX8_startMove_X8_sourceCell
theorem dX8_startMove_0 : decode cX8_startMove 0 = .ok (.aload_n 0, 1) := by decide +kernel
theorem dX8_startMove_1 : decode cX8_startMove 1 = .ok (.iload_n 1, 1) := by decide +kernel
theorem dX8_startMove_2 : decode cX8_startMove 2 = .ok (.iconst 5, 1) := by decide +kernel
theorem dX8_startMove_3 : decode cX8_startMove 3 = .ok (.iconst 1, 1) := by decide +kernel
theorem dX8_startMove_4 : decode cX8_startMove 4 = .ok (.invokevirtual 99, 3) := by decide +kernel
theorem dX8_startMove_7 : decode cX8_startMove 7 = .ok (.aload_n 0, 1) := by decide +kernel
theorem dX8_startMove_8 : decode cX8_startMove 8 = .ok (.iload_n 1, 1) := by decide +kernel
theorem dX8_startMove_9 : decode cX8_startMove 9 = .ok (.bipush 7, 2) := by decide +kernel
theorem dX8_startMove_11 : decode cX8_startMove 11 = .ok (.aload_n 0, 1) := by decide +kernel
theorem dX8_startMove_12 : decode cX8_startMove 12 = .ok (.getfield 7, 3) := by decide +kernel
theorem dX8_startMove_15 : decode cX8_startMove 15 = .ok (.iconst 0, 1) := by decide +kernel
theorem dX8_startMove_16 : decode cX8_startMove 16 = .ok (.iaload, 1) := by decide +kernel
theorem dX8_startMove_17 : decode cX8_startMove 17 = .ok (.invokevirtual 99, 3) := by decide +kernel
theorem dX8_startMove_20 : decode cX8_startMove 20 = .ok (.iconst 0, 1) := by decide +kernel
theorem dX8_startMove_21 : decode cX8_startMove 21 = .ok (.istore_n 2, 1) := by decide +kernel
theorem dX8_startMove_22 : decode cX8_startMove 22 = .ok (.iload_n 2, 1) := by decide +kernel
theorem dX8_startMove_23 : decode cX8_startMove 23 = .ok (.aload_n 0, 1) := by decide +kernel
theorem dX8_startMove_24 : decode cX8_startMove 24 = .ok (.iload_n 1, 1) := by decide +kernel
theorem dX8_startMove_25 : decode cX8_startMove 25 = .ok (.iconst 4, 1) := by decide +kernel
theorem dX8_startMove_26 : decode cX8_startMove 26 = .ok (.invokevirtual 70, 3) := by decide +kernel
theorem dX8_startMove_29 : decode cX8_startMove 29 = .ok (.if_icmp .ge 38, 3) := by decide +kernel
theorem dX8_startMove_32 : decode cX8_startMove 32 = .ok (.aload_n 0, 1) := by decide +kernel
theorem dX8_startMove_33 : decode cX8_startMove 33 = .ok (.getfield 7, 3) := by decide +kernel
theorem dX8_startMove_36 : decode cX8_startMove 36 = .ok (.sipush 320, 3) := by decide +kernel
theorem dX8_startMove_39 : decode cX8_startMove 39 = .ok (.bipush 16, 2) := by decide +kernel
theorem dX8_startMove_41 : decode cX8_startMove 41 = .ok (.iload_n 1, 1) := by decide +kernel
theorem dX8_startMove_42 : decode cX8_startMove 42 = .ok (.imul, 1) := by decide +kernel
theorem dX8_startMove_43 : decode cX8_startMove 43 = .ok (.iadd, 1) := by decide +kernel
theorem dX8_startMove_44 : decode cX8_startMove 44 = .ok (.iload_n 2, 1) := by decide +kernel
theorem dX8_startMove_45 : decode cX8_startMove 45 = .ok (.iadd, 1) := by decide +kernel
theorem dX8_startMove_46 : decode cX8_startMove 46 = .ok (.aload_n 0, 1) := by decide +kernel
theorem dX8_startMove_47 : decode cX8_startMove 47 = .ok (.getfield 7, 3) := by decide +kernel
theorem dX8_startMove_50 : decode cX8_startMove 50 = .ok (.bipush 8, 2) := by decide +kernel
theorem dX8_startMove_52 : decode cX8_startMove 52 = .ok (.aload_n 0, 1) := by decide +kernel
theorem dX8_startMove_53 : decode cX8_startMove 53 = .ok (.iload_n 1, 1) := by decide +kernel
theorem dX8_startMove_54 : decode cX8_startMove 54 = .ok (.iload_n 2, 1) := by decide +kernel
theorem dX8_startMove_55 : decode cX8_startMove 55 = .ok (.invokevirtual 73, 3) := by decide +kernel
theorem dX8_startMove_58 : decode cX8_startMove 58 = .ok (.iadd, 1) := by decide +kernel
theorem dX8_startMove_59 : decode cX8_startMove 59 = .ok (.iaload, 1) := by decide +kernel
theorem dX8_startMove_60 : decode cX8_startMove 60 = .ok (.iastore, 1) := by decide +kernel
theorem dX8_startMove_61 : decode cX8_startMove 61 = .ok (.iinc 2 1, 3) := by decide +kernel
theorem dX8_startMove_64 : decode cX8_startMove 64 = .ok (.goto (-42), 3) := by decide +kernel
theorem dX8_startMove_67 : decode cX8_startMove 67 = .ok (.return_, 1) := by decide +kernel
set_option maxRecDepth 20000 in
theorem ggX8_writesOn_X8_movePart : GoodIn wsX8_writesOn wsX8_movePart := goodIn_r _ [6, 1, 19, 20, 21, 22, 23, 24, 25, 26, 27, 28, 29] (by decide +kernel) (by decide +kernel)
set_option maxRecDepth 20000 in
theorem gX8_writesOn_X8_movePart : GoodIn wsX8_writesOn (wsV RX8 70 RX8 yX8_movePart wsX8_movePart) := goodIn_app (goodIn_of _ (by decide +kernel)) ggX8_writesOn_X8_movePart
set_option maxRecDepth 20000 in
theorem ggX8_writesOn_X8_targetCell : GoodIn wsX8_writesOn wsX8_targetCell := goodIn_r _ [10, 2, 3, 4, 5, 6, 1, 11, 12, 13, 14, 19, 20, 21, 22, 23, 24, 25, 26, 27, 28, 29] (by decide +kernel) (by decide +kernel)
set_option maxRecDepth 20000 in
theorem gX8_writesOn_X8_targetCell : GoodIn wsX8_writesOn (wsV RX8 76 RX8 yX8_targetCell wsX8_targetCell) := goodIn_app (goodIn_of _ (by decide +kernel)) ggX8_writesOn_X8_targetCell
set_option maxRecDepth 20000 in
theorem ggX8_writesOn_X8_setMovePart : GoodIn wsX8_writesOn wsX8_setMovePart := goodIn_r _ [18, 1, 19, 20, 21, 22, 23, 24, 25, 26, 27, 28, 29] (by decide +kernel) (by decide +kernel)
set_option maxRecDepth 20000 in
theorem gX8_writesOn_X8_setMovePart : GoodIn wsX8_writesOn (wsV RX8 99 RX8 yX8_setMovePart wsX8_setMovePart) := goodIn_app (goodIn_of _ (by decide +kernel)) ggX8_writesOn_X8_setMovePart
theorem dX8_writesOn_0 : decode cX8_writesOn 0 = .ok (.aload_n 0, 1) := by decide +kernel
theorem dX8_writesOn_1 : decode cX8_writesOn 1 = .ok (.iload_n 1, 1) := by decide +kernel
theorem dX8_writesOn_2 : decode cX8_writesOn 2 = .ok (.bipush 6, 2) := by decide +kernel
theorem dX8_writesOn_4 : decode cX8_writesOn 4 = .ok (.invokevirtual 70, 3) := by decide +kernel
theorem dX8_writesOn_7 : decode cX8_writesOn 7 = .ok (.istore_n 3, 1) := by decide +kernel
theorem dX8_writesOn_8 : decode cX8_writesOn 8 = .ok (.iload_n 3, 1) := by decide +kernel
theorem dX8_writesOn_9 : decode cX8_writesOn 9 = .ok (.iload_n 2, 1) := by decide +kernel
theorem dX8_writesOn_10 : decode cX8_writesOn 10 = .ok (.iadd, 1) := by decide +kernel
theorem dX8_writesOn_11 : decode cX8_writesOn 11 = .ok (.aload_n 0, 1) := by decide +kernel
theorem dX8_writesOn_12 : decode cX8_writesOn 12 = .ok (.iload_n 1, 1) := by decide +kernel
theorem dX8_writesOn_13 : decode cX8_writesOn 13 = .ok (.iconst 4, 1) := by decide +kernel
theorem dX8_writesOn_14 : decode cX8_writesOn 14 = .ok (.invokevirtual 70, 3) := by decide +kernel
theorem dX8_writesOn_17 : decode cX8_writesOn 17 = .ok (.if_icmp .ge 9, 3) := by decide +kernel
theorem dX8_writesOn_20 : decode cX8_writesOn 20 = .ok (.iload_n 3, 1) := by decide +kernel
theorem dX8_writesOn_21 : decode cX8_writesOn 21 = .ok (.iload_n 2, 1) := by decide +kernel
theorem dX8_writesOn_22 : decode cX8_writesOn 22 = .ok (.iadd, 1) := by decide +kernel
theorem dX8_writesOn_23 : decode cX8_writesOn 23 = .ok (.goto 9, 3) := by decide +kernel
theorem dX8_writesOn_26 : decode cX8_writesOn 26 = .ok (.aload_n 0, 1) := by decide +kernel
theorem dX8_writesOn_27 : decode cX8_writesOn 27 = .ok (.iload_n 1, 1) := by decide +kernel
theorem dX8_writesOn_28 : decode cX8_writesOn 28 = .ok (.iconst 4, 1) := by decide +kernel
theorem dX8_writesOn_29 : decode cX8_writesOn 29 = .ok (.invokevirtual 70, 3) := by decide +kernel
theorem dX8_writesOn_32 : decode cX8_writesOn 32 = .ok (.istore 4, 2) := by decide +kernel
theorem dX8_writesOn_34 : decode cX8_writesOn 34 = .ok (.iload_n 3, 1) := by decide +kernel
theorem dX8_writesOn_35 : decode cX8_writesOn 35 = .ok (.istore 5, 2) := by decide +kernel
theorem dX8_writesOn_37 : decode cX8_writesOn 37 = .ok (.iload 5, 2) := by decide +kernel
theorem dX8_writesOn_39 : decode cX8_writesOn 39 = .ok (.iload 4, 2) := by decide +kernel
theorem dX8_writesOn_41 : decode cX8_writesOn 41 = .ok (.if_icmp .ge 40, 3) := by decide +kernel
theorem dX8_writesOn_44 : decode cX8_writesOn 44 = .ok (.aload_n 0, 1) := by decide +kernel
theorem dX8_writesOn_45 : decode cX8_writesOn 45 = .ok (.getfield 7, 3) := by decide +kernel
theorem dX8_writesOn_48 : decode cX8_writesOn 48 = .ok (.bipush 8, 2) := by decide +kernel
theorem dX8_writesOn_50 : decode cX8_writesOn 50 = .ok (.aload_n 0, 1) := by decide +kernel
theorem dX8_writesOn_51 : decode cX8_writesOn 51 = .ok (.iload_n 1, 1) := by decide +kernel
theorem dX8_writesOn_52 : decode cX8_writesOn 52 = .ok (.iload 5, 2) := by decide +kernel
theorem dX8_writesOn_54 : decode cX8_writesOn 54 = .ok (.invokevirtual 76, 3) := by decide +kernel
theorem dX8_writesOn_57 : decode cX8_writesOn 57 = .ok (.iadd, 1) := by decide +kernel
theorem dX8_writesOn_58 : decode cX8_writesOn 58 = .ok (.aload_n 0, 1) := by decide +kernel
theorem dX8_writesOn_59 : decode cX8_writesOn 59 = .ok (.getfield 7, 3) := by decide +kernel
theorem dX8_writesOn_62 : decode cX8_writesOn 62 = .ok (.sipush 320, 3) := by decide +kernel
theorem dX8_writesOn_65 : decode cX8_writesOn 65 = .ok (.bipush 16, 2) := by decide +kernel
theorem dX8_writesOn_67 : decode cX8_writesOn 67 = .ok (.iload_n 1, 1) := by decide +kernel
theorem dX8_writesOn_68 : decode cX8_writesOn 68 = .ok (.imul, 1) := by decide +kernel
theorem dX8_writesOn_69 : decode cX8_writesOn 69 = .ok (.iadd, 1) := by decide +kernel
theorem dX8_writesOn_70 : decode cX8_writesOn 70 = .ok (.iload 5, 2) := by decide +kernel
theorem dX8_writesOn_72 : decode cX8_writesOn 72 = .ok (.iadd, 1) := by decide +kernel
theorem dX8_writesOn_73 : decode cX8_writesOn 73 = .ok (.iaload, 1) := by decide +kernel
theorem dX8_writesOn_74 : decode cX8_writesOn 74 = .ok (.iastore, 1) := by decide +kernel
theorem dX8_writesOn_75 : decode cX8_writesOn 75 = .ok (.iinc 5 1, 3) := by decide +kernel
theorem dX8_writesOn_78 : decode cX8_writesOn 78 = .ok (.goto (-41), 3) := by decide +kernel
theorem dX8_writesOn_81 : decode cX8_writesOn 81 = .ok (.aload_n 0, 1) := by decide +kernel
theorem dX8_writesOn_82 : decode cX8_writesOn 82 = .ok (.iload_n 1, 1) := by decide +kernel
theorem dX8_writesOn_83 : decode cX8_writesOn 83 = .ok (.bipush 6, 2) := by decide +kernel
theorem dX8_writesOn_85 : decode cX8_writesOn 85 = .ok (.iload 4, 2) := by decide +kernel
theorem dX8_writesOn_87 : decode cX8_writesOn 87 = .ok (.invokevirtual 99, 3) := by decide +kernel
theorem dX8_writesOn_90 : decode cX8_writesOn 90 = .ok (.iload 4, 2) := by decide +kernel
theorem dX8_writesOn_92 : decode cX8_writesOn 92 = .ok (.aload_n 0, 1) := by decide +kernel
theorem dX8_writesOn_93 : decode cX8_writesOn 93 = .ok (.iload_n 1, 1) := by decide +kernel
theorem dX8_writesOn_94 : decode cX8_writesOn 94 = .ok (.iconst 4, 1) := by decide +kernel
theorem dX8_writesOn_95 : decode cX8_writesOn 95 = .ok (.invokevirtual 70, 3) := by decide +kernel
theorem dX8_writesOn_98 : decode cX8_writesOn 98 = .ok (.if_icmp .ne 7, 3) := by decide +kernel
theorem dX8_writesOn_101 : decode cX8_writesOn 101 = .ok (.iconst 1, 1) := by decide +kernel
theorem dX8_writesOn_102 : decode cX8_writesOn 102 = .ok (.goto 4, 3) := by decide +kernel
theorem dX8_writesOn_105 : decode cX8_writesOn 105 = .ok (.iconst 0, 1) := by decide +kernel
theorem dX8_writesOn_106 : decode cX8_writesOn 106 = .ok (.ireturn, 1) := by decide +kernel
set_option maxRecDepth 20000 in
theorem ggX8_tick_X8_signsByThemselves : GoodIn wsX8_tick wsX8_signsByThemselves := goodIn_r _ [6, 1, 7, 8, 9, 5, 10, 11, 12, 13, 14, 15, 16, 17, 18, 19, 20, 21, 22, 59, 60, 61, 62, 63, 64, 65, 66, 67, 68, 69] (by decide +kernel) (by decide +kernel)
set_option maxRecDepth 20000 in
theorem gX8_tick_X8_signsByThemselves : GoodIn wsX8_tick (wsV RX8 129 RX8 yX8_signsByThemselves wsX8_signsByThemselves) := goodIn_app (goodIn_of _ (by decide +kernel)) ggX8_tick_X8_signsByThemselves
set_option maxRecDepth 20000 in
theorem ggX8_tick_X8_movePart : GoodIn wsX8_tick wsX8_movePart := goodIn_r _ [14, 1, 59, 60, 61, 62, 63, 64, 65, 66, 67, 68, 69] (by decide +kernel) (by decide +kernel)
set_option maxRecDepth 20000 in
theorem gX8_tick_X8_movePart : GoodIn wsX8_tick (wsV RX8 70 RX8 yX8_movePart wsX8_movePart) := goodIn_app (goodIn_of _ (by decide +kernel)) ggX8_tick_X8_movePart
set_option maxRecDepth 20000 in
theorem ggX8_tick_X8_waitsOf : GoodIn wsX8_tick wsX8_waitsOf := goodIn_r _ [26, 11, 12, 13, 5, 14, 1, 27, 28, 29, 30, 31, 32, 33, 34, 7, 8, 9, 10, 35, 36, 37, 38, 39, 40, 41, 42, 43, 44, 45, 46, 59, 60, 61, 62, 63, 64, 65, 66, 67, 68, 69] (by decide +kernel) (by decide +kernel)
set_option maxRecDepth 20000 in
theorem gX8_tick_X8_waitsOf : GoodIn wsX8_tick (wsV RX8 132 RX8 yX8_waitsOf wsX8_waitsOf) := goodIn_app (goodIn_of _ (by decide +kernel)) ggX8_tick_X8_waitsOf
set_option maxRecDepth 20000 in
theorem ggX8_tick_X8_movesIn : GoodIn wsX8_tick wsX8_movesIn := goodIn_r _ [50, 1, 11, 12, 13, 5, 14, 59, 60, 61, 62, 63, 64, 65, 66, 67, 68, 69] (by decide +kernel) (by decide +kernel)
set_option maxRecDepth 20000 in
theorem gX8_tick_X8_movesIn : GoodIn wsX8_tick (wsV RX8 135 RX8 yX8_movesIn wsX8_movesIn) := goodIn_app (goodIn_of _ (by decide +kernel)) ggX8_tick_X8_movesIn
set_option maxRecDepth 20000 in
theorem ggX8_tick_X8_startMove : GoodIn wsX8_tick wsX8_startMove := goodIn_r _ [54, 1, 19, 20, 21, 5, 22, 11, 12, 13, 14, 31, 32, 33, 34, 7, 8, 9, 10, 59, 60, 61, 62, 63, 64, 65, 66, 67, 68, 69] (by decide +kernel) (by decide +kernel)
set_option maxRecDepth 20000 in
theorem gX8_tick_X8_startMove : GoodIn wsX8_tick (wsV RX8 138 RX8 yX8_startMove wsX8_startMove) := goodIn_app (goodIn_of _ (by decide +kernel)) ggX8_tick_X8_startMove
set_option maxRecDepth 20000 in
theorem ggX8_tick_X8_writesOn : GoodIn wsX8_tick wsX8_writesOn := goodIn_r _ [58, 1, 11, 12, 13, 5, 14, 39, 40, 41, 42, 7, 8, 9, 10, 19, 20, 21, 22, 59, 60, 61, 62, 63, 64, 65, 66, 67, 68, 69] (by decide +kernel) (by decide +kernel)
set_option maxRecDepth 20000 in
theorem gX8_tick_X8_writesOn : GoodIn wsX8_tick (wsV RX8 141 RX8 yX8_writesOn wsX8_writesOn) := goodIn_app (goodIn_of _ (by decide +kernel)) ggX8_tick_X8_writesOn
set_option maxRecDepth 20000 in
theorem ggX8_tick_X8_setMovePart : GoodIn wsX8_tick wsX8_setMovePart := goodIn_r _ [22, 1, 59, 60, 61, 62, 63, 64, 65, 66, 67, 68, 69] (by decide +kernel) (by decide +kernel)
set_option maxRecDepth 20000 in
theorem gX8_tick_X8_setMovePart : GoodIn wsX8_tick (wsV RX8 99 RX8 yX8_setMovePart wsX8_setMovePart) := goodIn_app (goodIn_of _ (by decide +kernel)) ggX8_tick_X8_setMovePart
theorem dX8_tick_0 : decode cX8_tick 0 = .ok (.aload_n 0, 1) := by decide +kernel
theorem dX8_tick_1 : decode cX8_tick 1 = .ok (.invokevirtual 129, 3) := by decide +kernel
theorem dX8_tick_4 : decode cX8_tick 4 = .ok (.iconst 0, 1) := by decide +kernel
theorem dX8_tick_5 : decode cX8_tick 5 = .ok (.istore_n 1, 1) := by decide +kernel
theorem dX8_tick_6 : decode cX8_tick 6 = .ok (.iload_n 1, 1) := by decide +kernel
theorem dX8_tick_7 : decode cX8_tick 7 = .ok (.aload_n 0, 1) := by decide +kernel
theorem dX8_tick_8 : decode cX8_tick 8 = .ok (.getfield 7, 3) := by decide +kernel
theorem dX8_tick_11 : decode cX8_tick 11 = .ok (.iconst 4, 1) := by decide +kernel
theorem dX8_tick_12 : decode cX8_tick 12 = .ok (.iaload, 1) := by decide +kernel
theorem dX8_tick_13 : decode cX8_tick 13 = .ok (.if_icmp .ge 45, 3) := by decide +kernel
theorem dX8_tick_16 : decode cX8_tick 16 = .ok (.aload_n 0, 1) := by decide +kernel
theorem dX8_tick_17 : decode cX8_tick 17 = .ok (.iload_n 1, 1) := by decide +kernel
theorem dX8_tick_18 : decode cX8_tick 18 = .ok (.iconst 5, 1) := by decide +kernel
theorem dX8_tick_19 : decode cX8_tick 19 = .ok (.invokevirtual 70, 3) := by decide +kernel
theorem dX8_tick_22 : decode cX8_tick 22 = .ok (.ifCond .ne 30, 3) := by decide +kernel
theorem dX8_tick_25 : decode cX8_tick 25 = .ok (.aload_n 0, 1) := by decide +kernel
theorem dX8_tick_26 : decode cX8_tick 26 = .ok (.iload_n 1, 1) := by decide +kernel
theorem dX8_tick_27 : decode cX8_tick 27 = .ok (.invokevirtual 132, 3) := by decide +kernel
theorem dX8_tick_30 : decode cX8_tick 30 = .ok (.ifCond .ne 22, 3) := by decide +kernel
theorem dX8_tick_33 : decode cX8_tick 33 = .ok (.aload_n 0, 1) := by decide +kernel
theorem dX8_tick_34 : decode cX8_tick 34 = .ok (.iconst 1, 1) := by decide +kernel
theorem dX8_tick_35 : decode cX8_tick 35 = .ok (.invokevirtual 135, 3) := by decide +kernel
theorem dX8_tick_38 : decode cX8_tick 38 = .ok (.aload_n 0, 1) := by decide +kernel
theorem dX8_tick_39 : decode cX8_tick 39 = .ok (.getfield 7, 3) := by decide +kernel
theorem dX8_tick_42 : decode cX8_tick 42 = .ok (.iconst 2, 1) := by decide +kernel
theorem dX8_tick_43 : decode cX8_tick 43 = .ok (.iaload, 1) := by decide +kernel
theorem dX8_tick_44 : decode cX8_tick 44 = .ok (.if_icmp .ge 8, 3) := by decide +kernel
theorem dX8_tick_47 : decode cX8_tick 47 = .ok (.aload_n 0, 1) := by decide +kernel
theorem dX8_tick_48 : decode cX8_tick 48 = .ok (.iload_n 1, 1) := by decide +kernel
theorem dX8_tick_49 : decode cX8_tick 49 = .ok (.invokevirtual 138, 3) := by decide +kernel
theorem dX8_tick_52 : decode cX8_tick 52 = .ok (.iinc 1 1, 3) := by decide +kernel
theorem dX8_tick_55 : decode cX8_tick 55 = .ok (.goto (-49), 3) := by decide +kernel
theorem dX8_tick_58 : decode cX8_tick 58 = .ok (.iconst 0, 1) := by decide +kernel
theorem dX8_tick_59 : decode cX8_tick 59 = .ok (.istore_n 1, 1) := by decide +kernel
theorem dX8_tick_60 : decode cX8_tick 60 = .ok (.iconst 0, 1) := by decide +kernel
theorem dX8_tick_61 : decode cX8_tick 61 = .ok (.istore_n 2, 1) := by decide +kernel
theorem dX8_tick_62 : decode cX8_tick 62 = .ok (.iload_n 2, 1) := by decide +kernel
theorem dX8_tick_63 : decode cX8_tick 63 = .ok (.aload_n 0, 1) := by decide +kernel
theorem dX8_tick_64 : decode cX8_tick 64 = .ok (.getfield 7, 3) := by decide +kernel
theorem dX8_tick_67 : decode cX8_tick 67 = .ok (.iconst 4, 1) := by decide +kernel
theorem dX8_tick_68 : decode cX8_tick 68 = .ok (.iaload, 1) := by decide +kernel
theorem dX8_tick_69 : decode cX8_tick 69 = .ok (.if_icmp .ge 56, 3) := by decide +kernel
theorem dX8_tick_72 : decode cX8_tick 72 = .ok (.aload_n 0, 1) := by decide +kernel
theorem dX8_tick_73 : decode cX8_tick 73 = .ok (.iload_n 2, 1) := by decide +kernel
theorem dX8_tick_74 : decode cX8_tick 74 = .ok (.iconst 5, 1) := by decide +kernel
theorem dX8_tick_75 : decode cX8_tick 75 = .ok (.invokevirtual 70, 3) := by decide +kernel
theorem dX8_tick_78 : decode cX8_tick 78 = .ok (.iconst 1, 1) := by decide +kernel
theorem dX8_tick_79 : decode cX8_tick 79 = .ok (.if_icmp .ne 40, 3) := by decide +kernel
theorem dX8_tick_82 : decode cX8_tick 82 = .ok (.aload_n 0, 1) := by decide +kernel
theorem dX8_tick_83 : decode cX8_tick 83 = .ok (.iload_n 2, 1) := by decide +kernel
theorem dX8_tick_84 : decode cX8_tick 84 = .ok (.aload_n 0, 1) := by decide +kernel
theorem dX8_tick_85 : decode cX8_tick 85 = .ok (.getfield 7, 3) := by decide +kernel
theorem dX8_tick_88 : decode cX8_tick 88 = .ok (.iconst 1, 1) := by decide +kernel
theorem dX8_tick_89 : decode cX8_tick 89 = .ok (.iaload, 1) := by decide +kernel
theorem dX8_tick_90 : decode cX8_tick 90 = .ok (.invokevirtual 141, 3) := by decide +kernel
theorem dX8_tick_93 : decode cX8_tick 93 = .ok (.ifCond .eq 26, 3) := by decide +kernel
theorem dX8_tick_96 : decode cX8_tick 96 = .ok (.aload_n 0, 1) := by decide +kernel
theorem dX8_tick_97 : decode cX8_tick 97 = .ok (.iload_n 2, 1) := by decide +kernel
theorem dX8_tick_98 : decode cX8_tick 98 = .ok (.iconst 5, 1) := by decide +kernel
theorem dX8_tick_99 : decode cX8_tick 99 = .ok (.iconst 2, 1) := by decide +kernel
theorem dX8_tick_100 : decode cX8_tick 100 = .ok (.invokevirtual 99, 3) := by decide +kernel
theorem dX8_tick_103 : decode cX8_tick 103 = .ok (.aload_n 0, 1) := by decide +kernel
theorem dX8_tick_104 : decode cX8_tick 104 = .ok (.iload_n 2, 1) := by decide +kernel
theorem dX8_tick_105 : decode cX8_tick 105 = .ok (.bipush 8, 2) := by decide +kernel
theorem dX8_tick_107 : decode cX8_tick 107 = .ok (.aload_n 0, 1) := by decide +kernel
theorem dX8_tick_108 : decode cX8_tick 108 = .ok (.getfield 7, 3) := by decide +kernel
theorem dX8_tick_111 : decode cX8_tick 111 = .ok (.iconst 0, 1) := by decide +kernel
theorem dX8_tick_112 : decode cX8_tick 112 = .ok (.iaload, 1) := by decide +kernel
theorem dX8_tick_113 : decode cX8_tick 113 = .ok (.invokevirtual 99, 3) := by decide +kernel
theorem dX8_tick_116 : decode cX8_tick 116 = .ok (.iinc 1 1, 3) := by decide +kernel
theorem dX8_tick_119 : decode cX8_tick 119 = .ok (.iinc 2 1, 3) := by decide +kernel
theorem dX8_tick_122 : decode cX8_tick 122 = .ok (.goto (-60), 3) := by decide +kernel
theorem dX8_tick_125 : decode cX8_tick 125 = .ok (.aload_n 0, 1) := by decide +kernel
theorem dX8_tick_126 : decode cX8_tick 126 = .ok (.getfield 7, 3) := by decide +kernel
theorem dX8_tick_129 : decode cX8_tick 129 = .ok (.iconst 5, 1) := by decide +kernel
theorem dX8_tick_130 : decode cX8_tick 130 = .ok (.dup2, 1) := by decide +kernel
theorem dX8_tick_131 : decode cX8_tick 131 = .ok (.iaload, 1) := by decide +kernel
theorem dX8_tick_132 : decode cX8_tick 132 = .ok (.iload_n 1, 1) := by decide +kernel
theorem dX8_tick_133 : decode cX8_tick 133 = .ok (.iadd, 1) := by decide +kernel
theorem dX8_tick_134 : decode cX8_tick 134 = .ok (.iastore, 1) := by decide +kernel
theorem dX8_tick_135 : decode cX8_tick 135 = .ok (.aload_n 0, 1) := by decide +kernel
theorem dX8_tick_136 : decode cX8_tick 136 = .ok (.getfield 7, 3) := by decide +kernel
theorem dX8_tick_139 : decode cX8_tick 139 = .ok (.iconst 0, 1) := by decide +kernel
theorem dX8_tick_140 : decode cX8_tick 140 = .ok (.dup2, 1) := by decide +kernel
theorem dX8_tick_141 : decode cX8_tick 141 = .ok (.iaload, 1) := by decide +kernel
theorem dX8_tick_142 : decode cX8_tick 142 = .ok (.iconst 1, 1) := by decide +kernel
theorem dX8_tick_143 : decode cX8_tick 143 = .ok (.iadd, 1) := by decide +kernel
theorem dX8_tick_144 : decode cX8_tick 144 = .ok (.iastore, 1) := by decide +kernel
theorem dX8_tick_145 : decode cX8_tick 145 = .ok (.iload_n 1, 1) := by decide +kernel
theorem dX8_tick_146 : decode cX8_tick 146 = .ok (.ireturn, 1) := by decide +kernel
set_option maxRecDepth 20000 in
theorem ggX8_whyNoTicks_X8_within : GoodIn wsX8_whyNoTicks wsX8_within := goodIn_r _ [5] (by decide +kernel) (by decide +kernel)
set_option maxRecDepth 20000 in
theorem gX8_whyNoTicks_X8_within : GoodIn wsX8_whyNoTicks (va_wsS RX8 39 yX8_within wsX8_within) := goodIn_app (goodIn_of _ (by decide +kernel)) ggX8_whyNoTicks_X8_within
theorem dX8_whyNoTicks_0 : decode cX8_whyNoTicks 0 = .ok (.iload_n 1, 1) := by decide +kernel
theorem dX8_whyNoTicks_1 : decode cX8_whyNoTicks 1 = .ok (.iconst 1, 1) := by decide +kernel
theorem dX8_whyNoTicks_2 : decode cX8_whyNoTicks 2 = .ok (.bipush 50, 2) := by decide +kernel
theorem dX8_whyNoTicks_4 : decode cX8_whyNoTicks 4 = .ok (.invokestatic 39, 3) := by decide +kernel
theorem dX8_whyNoTicks_7 : decode cX8_whyNoTicks 7 = .ok (.ifCond .ne 7, 3) := by decide +kernel
theorem dX8_whyNoTicks_10 : decode cX8_whyNoTicks 10 = .ok (.iconst 1, 1) := by decide +kernel
theorem dX8_whyNoTicks_11 : decode cX8_whyNoTicks 11 = .ok (.goto 22, 3) := by decide +kernel
theorem dX8_whyNoTicks_14 : decode cX8_whyNoTicks 14 = .ok (.aload_n 0, 1) := by decide +kernel
theorem dX8_whyNoTicks_15 : decode cX8_whyNoTicks 15 = .ok (.getfield 7, 3) := by decide +kernel
theorem dX8_whyNoTicks_18 : decode cX8_whyNoTicks 18 = .ok (.iconst 0, 1) := by decide +kernel
theorem dX8_whyNoTicks_19 : decode cX8_whyNoTicks 19 = .ok (.iaload, 1) := by decide +kernel
theorem dX8_whyNoTicks_20 : decode cX8_whyNoTicks 20 = .ok (.iload_n 1, 1) := by decide +kernel
theorem dX8_whyNoTicks_21 : decode cX8_whyNoTicks 21 = .ok (.iadd, 1) := by decide +kernel
theorem dX8_whyNoTicks_22 : decode cX8_whyNoTicks 22 = .ok (.sipush 9999, 3) := by decide +kernel
theorem dX8_whyNoTicks_25 : decode cX8_whyNoTicks 25 = .ok (.if_icmp .le 7, 3) := by decide +kernel
theorem dX8_whyNoTicks_28 : decode cX8_whyNoTicks 28 = .ok (.iconst 2, 1) := by decide +kernel
theorem dX8_whyNoTicks_29 : decode cX8_whyNoTicks 29 = .ok (.goto 4, 3) := by decide +kernel
theorem dX8_whyNoTicks_32 : decode cX8_whyNoTicks 32 = .ok (.iconst 0, 1) := by decide +kernel
theorem dX8_whyNoTicks_33 : decode cX8_whyNoTicks 33 = .ok (.ireturn, 1) := by decide +kernel
set_option maxRecDepth 20000 in
theorem ggX8_passTicks_X8_tick : GoodIn wsX8_passTicks wsX8_tick := goodIn_r _ [5, 6, 7, 8, 9, 4, 10, 11, 12, 13, 14, 15, 16, 17, 18, 19, 20, 21, 22, 23, 24, 25, 26, 27, 28, 29, 30, 31, 32, 33, 34, 35, 36, 37, 38, 39, 40, 41, 42, 43, 44, 45, 46, 47, 48, 49, 50, 51, 52, 53, 54, 55, 56, 57, 58, 59, 60, 61, 62, 63, 64, 65, 66, 67, 68, 69, 70, 71, 72, 73] (by decide +kernel) (by decide +kernel)
set_option maxRecDepth 20000 in
theorem gX8_passTicks_X8_tick : GoodIn wsX8_passTicks (wsV RX8 144 RX8 yX8_tick wsX8_tick) := goodIn_app (goodIn_of _ (by decide +kernel)) ggX8_passTicks_X8_tick
theorem dX8_passTicks_0 : decode cX8_passTicks 0 = .ok (.iconst 0, 1) := by decide +kernel
theorem dX8_passTicks_1 : decode cX8_passTicks 1 = .ok (.istore_n 2, 1) := by decide +kernel
theorem dX8_passTicks_2 : decode cX8_passTicks 2 = .ok (.iconst 0, 1) := by decide +kernel
theorem dX8_passTicks_3 : decode cX8_passTicks 3 = .ok (.istore_n 3, 1) := by decide +kernel
theorem dX8_passTicks_4 : decode cX8_passTicks 4 = .ok (.iload_n 3, 1) := by decide +kernel
theorem dX8_passTicks_5 : decode cX8_passTicks 5 = .ok (.iload_n 1, 1) := by decide +kernel
theorem dX8_passTicks_6 : decode cX8_passTicks 6 = .ok (.if_icmp .ge 16, 3) := by decide +kernel
theorem dX8_passTicks_9 : decode cX8_passTicks 9 = .ok (.iload_n 2, 1) := by decide +kernel
theorem dX8_passTicks_10 : decode cX8_passTicks 10 = .ok (.aload_n 0, 1) := by decide +kernel
theorem dX8_passTicks_11 : decode cX8_passTicks 11 = .ok (.invokevirtual 144, 3) := by decide +kernel
theorem dX8_passTicks_14 : decode cX8_passTicks 14 = .ok (.iadd, 1) := by decide +kernel
theorem dX8_passTicks_15 : decode cX8_passTicks 15 = .ok (.istore_n 2, 1) := by decide +kernel
theorem dX8_passTicks_16 : decode cX8_passTicks 16 = .ok (.iinc 3 1, 3) := by decide +kernel
theorem dX8_passTicks_19 : decode cX8_passTicks 19 = .ok (.goto (-15), 3) := by decide +kernel
theorem dX8_passTicks_22 : decode cX8_passTicks 22 = .ok (.iload_n 2, 1) := by decide +kernel
theorem dX8_passTicks_23 : decode cX8_passTicks 23 = .ok (.ireturn, 1) := by decide +kernel
set_option maxRecDepth 20000 in
theorem ggX8_pass_X8_whyNoTicks : GoodIn wsX8_pass wsX8_whyNoTicks := goodIn_r _ [6, 7, 8, 9, 5, 10, 84, 85, 86, 87, 88, 89, 90, 91, 92, 93, 94] (by decide +kernel) (by decide +kernel)
set_option maxRecDepth 20000 in
theorem gX8_pass_X8_whyNoTicks : GoodIn wsX8_pass (wsV RX8 148 RX8 yX8_whyNoTicks wsX8_whyNoTicks) := goodIn_app (goodIn_of _ (by decide +kernel)) ggX8_pass_X8_whyNoTicks
set_option maxRecDepth 20000 in
theorem ggX8_pass_X8_save : GoodIn wsX8_pass wsX8_save := goodIn_r _ [14, 15, 16, 7, 17, 18, 5, 19, 84, 85, 86, 87, 88, 89, 90, 91, 92, 93, 94] (by decide +kernel) (by decide +kernel)
set_option maxRecDepth 20000 in
theorem gX8_pass_X8_save : GoodIn wsX8_pass (wsV RX8 55 RX8 yX8_save wsX8_save) := goodIn_app (goodIn_of _ (by decide +kernel)) ggX8_pass_X8_save
set_option maxRecDepth 20000 in
theorem ggX8_pass_X8_passTicks : GoodIn wsX8_pass wsX8_passTicks := goodIn_r _ [23, 24, 25, 26, 5, 27, 7, 28, 29, 30, 31, 32, 33, 34, 35, 36, 37, 38, 39, 40, 41, 42, 43, 44, 45, 46, 47, 48, 49, 50, 51, 52, 53, 54, 55, 56, 57, 58, 59, 60, 61, 62, 63, 64, 65, 66, 67, 68, 69, 70, 71, 72, 73, 74, 75, 76, 77, 78, 79, 80, 81, 82, 83, 84, 85, 86, 87, 88, 89, 90, 91, 92, 93, 94] (by decide +kernel) (by decide +kernel)
set_option maxRecDepth 20000 in
theorem gX8_pass_X8_passTicks : GoodIn wsX8_pass (wsV RX8 151 RX8 yX8_passTicks wsX8_passTicks) := goodIn_app (goodIn_of _ (by decide +kernel)) ggX8_pass_X8_passTicks
theorem dX8_pass_0 : decode cX8_pass 0 = .ok (.aload_n 0, 1) := by decide +kernel
theorem dX8_pass_1 : decode cX8_pass 1 = .ok (.aload_n 0, 1) := by decide +kernel
theorem dX8_pass_2 : decode cX8_pass 2 = .ok (.iload_n 1, 1) := by decide +kernel
theorem dX8_pass_3 : decode cX8_pass 3 = .ok (.invokevirtual 148, 3) := by decide +kernel
theorem dX8_pass_6 : decode cX8_pass 6 = .ok (.putfield 28, 3) := by decide +kernel
theorem dX8_pass_9 : decode cX8_pass 9 = .ok (.aload_n 0, 1) := by decide +kernel
theorem dX8_pass_10 : decode cX8_pass 10 = .ok (.getfield 28, 3) := by decide +kernel
theorem dX8_pass_13 : decode cX8_pass 13 = .ok (.ifCond .le 5, 3) := by decide +kernel
theorem dX8_pass_16 : decode cX8_pass 16 = .ok (.iconst 0, 1) := by decide +kernel
theorem dX8_pass_17 : decode cX8_pass 17 = .ok (.ireturn, 1) := by decide +kernel
theorem dX8_pass_18 : decode cX8_pass 18 = .ok (.aload_n 0, 1) := by decide +kernel
theorem dX8_pass_19 : decode cX8_pass 19 = .ok (.invokevirtual 55, 3) := by decide +kernel
theorem dX8_pass_22 : decode cX8_pass 22 = .ok (.aload_n 0, 1) := by decide +kernel
theorem dX8_pass_23 : decode cX8_pass 23 = .ok (.iload_n 1, 1) := by decide +kernel
theorem dX8_pass_24 : decode cX8_pass 24 = .ok (.invokevirtual 151, 3) := by decide +kernel
theorem dX8_pass_27 : decode cX8_pass 27 = .ok (.ireturn, 1) := by decide +kernel
set_option maxRecDepth 20000 in
theorem ggX8_sweep_X8_save : GoodIn wsX8_sweep wsX8_save := goodIn_r _ [7, 8, 9, 2, 10, 11, 6, 12, 21, 22, 23, 24, 25, 26, 27, 28, 29, 30, 31] (by decide +kernel) (by decide +kernel)
set_option maxRecDepth 20000 in
theorem gX8_sweep_X8_save : GoodIn wsX8_sweep (wsV RX8 55 RX8 yX8_save wsX8_save) := goodIn_app (goodIn_of _ (by decide +kernel)) ggX8_sweep_X8_save
set_option maxRecDepth 20000 in
theorem ggX8_sweep_X8_movePart : GoodIn wsX8_sweep wsX8_movePart := goodIn_r _ [16, 2, 21, 22, 23, 24, 25, 26, 27, 28, 29, 30, 31] (by decide +kernel) (by decide +kernel)
set_option maxRecDepth 20000 in
theorem gX8_sweep_X8_movePart : GoodIn wsX8_sweep (wsV RX8 70 RX8 yX8_movePart wsX8_movePart) := goodIn_app (goodIn_of _ (by decide +kernel)) ggX8_sweep_X8_movePart
set_option maxRecDepth 20000 in
theorem ggX8_sweep_X8_setMovePart : GoodIn wsX8_sweep wsX8_setMovePart := goodIn_r _ [20, 2, 21, 22, 23, 24, 25, 26, 27, 28, 29, 30, 31] (by decide +kernel) (by decide +kernel)
set_option maxRecDepth 20000 in
theorem gX8_sweep_X8_setMovePart : GoodIn wsX8_sweep (wsV RX8 99 RX8 yX8_setMovePart wsX8_setMovePart) := goodIn_app (goodIn_of _ (by decide +kernel)) ggX8_sweep_X8_setMovePart
theorem dX8_sweep_0 : decode cX8_sweep 0 = .ok (.aload_n 0, 1) := by decide +kernel
theorem dX8_sweep_1 : decode cX8_sweep 1 = .ok (.iconst 0, 1) := by decide +kernel
theorem dX8_sweep_2 : decode cX8_sweep 2 = .ok (.putfield 28, 3) := by decide +kernel
theorem dX8_sweep_5 : decode cX8_sweep 5 = .ok (.aload_n 0, 1) := by decide +kernel
theorem dX8_sweep_6 : decode cX8_sweep 6 = .ok (.invokevirtual 55, 3) := by decide +kernel
theorem dX8_sweep_9 : decode cX8_sweep 9 = .ok (.iconst 0, 1) := by decide +kernel
theorem dX8_sweep_10 : decode cX8_sweep 10 = .ok (.istore_n 1, 1) := by decide +kernel
theorem dX8_sweep_11 : decode cX8_sweep 11 = .ok (.iload_n 1, 1) := by decide +kernel
theorem dX8_sweep_12 : decode cX8_sweep 12 = .ok (.aload_n 0, 1) := by decide +kernel
theorem dX8_sweep_13 : decode cX8_sweep 13 = .ok (.getfield 7, 3) := by decide +kernel
theorem dX8_sweep_16 : decode cX8_sweep 16 = .ok (.iconst 4, 1) := by decide +kernel
theorem dX8_sweep_17 : decode cX8_sweep 17 = .ok (.iaload, 1) := by decide +kernel
theorem dX8_sweep_18 : decode cX8_sweep 18 = .ok (.if_icmp .ge 19, 3) := by decide +kernel
theorem dX8_sweep_21 : decode cX8_sweep 21 = .ok (.aload_n 0, 1) := by decide +kernel
theorem dX8_sweep_22 : decode cX8_sweep 22 = .ok (.iload_n 1, 1) := by decide +kernel
theorem dX8_sweep_23 : decode cX8_sweep 23 = .ok (.iconst 5, 1) := by decide +kernel
theorem dX8_sweep_24 : decode cX8_sweep 24 = .ok (.invokevirtual 70, 3) := by decide +kernel
theorem dX8_sweep_27 : decode cX8_sweep 27 = .ok (.iconst 3, 1) := by decide +kernel
theorem dX8_sweep_28 : decode cX8_sweep 28 = .ok (.if_icmp .ne 9, 3) := by decide +kernel
theorem dX8_sweep_31 : decode cX8_sweep 31 = .ok (.iinc 1 1, 3) := by decide +kernel
theorem dX8_sweep_34 : decode cX8_sweep 34 = .ok (.goto (-23), 3) := by decide +kernel
theorem dX8_sweep_37 : decode cX8_sweep 37 = .ok (.iload_n 1, 1) := by decide +kernel
theorem dX8_sweep_38 : decode cX8_sweep 38 = .ok (.istore_n 2, 1) := by decide +kernel
theorem dX8_sweep_39 : decode cX8_sweep 39 = .ok (.iload_n 2, 1) := by decide +kernel
theorem dX8_sweep_40 : decode cX8_sweep 40 = .ok (.aload_n 0, 1) := by decide +kernel
theorem dX8_sweep_41 : decode cX8_sweep 41 = .ok (.getfield 7, 3) := by decide +kernel
theorem dX8_sweep_44 : decode cX8_sweep 44 = .ok (.iconst 4, 1) := by decide +kernel
theorem dX8_sweep_45 : decode cX8_sweep 45 = .ok (.iaload, 1) := by decide +kernel
theorem dX8_sweep_46 : decode cX8_sweep 46 = .ok (.if_icmp .ge 83, 3) := by decide +kernel
theorem dX8_sweep_49 : decode cX8_sweep 49 = .ok (.iconst 0, 1) := by decide +kernel
theorem dX8_sweep_50 : decode cX8_sweep 50 = .ok (.istore_n 3, 1) := by decide +kernel
theorem dX8_sweep_51 : decode cX8_sweep 51 = .ok (.iload_n 3, 1) := by decide +kernel
theorem dX8_sweep_52 : decode cX8_sweep 52 = .ok (.bipush 10, 2) := by decide +kernel
theorem dX8_sweep_54 : decode cX8_sweep 54 = .ok (.if_icmp .ge 23, 3) := by decide +kernel
theorem dX8_sweep_57 : decode cX8_sweep 57 = .ok (.aload_n 0, 1) := by decide +kernel
theorem dX8_sweep_58 : decode cX8_sweep 58 = .ok (.iload_n 2, 1) := by decide +kernel
theorem dX8_sweep_59 : decode cX8_sweep 59 = .ok (.iload_n 1, 1) := by decide +kernel
theorem dX8_sweep_60 : decode cX8_sweep 60 = .ok (.isub, 1) := by decide +kernel
theorem dX8_sweep_61 : decode cX8_sweep 61 = .ok (.iload_n 3, 1) := by decide +kernel
theorem dX8_sweep_62 : decode cX8_sweep 62 = .ok (.aload_n 0, 1) := by decide +kernel
theorem dX8_sweep_63 : decode cX8_sweep 63 = .ok (.iload_n 2, 1) := by decide +kernel
theorem dX8_sweep_64 : decode cX8_sweep 64 = .ok (.iload_n 3, 1) := by decide +kernel
theorem dX8_sweep_65 : decode cX8_sweep 65 = .ok (.invokevirtual 70, 3) := by decide +kernel
theorem dX8_sweep_68 : decode cX8_sweep 68 = .ok (.invokevirtual 99, 3) := by decide +kernel
theorem dX8_sweep_71 : decode cX8_sweep 71 = .ok (.iinc 3 1, 3) := by decide +kernel
theorem dX8_sweep_74 : decode cX8_sweep 74 = .ok (.goto (-23), 3) := by decide +kernel
theorem dX8_sweep_77 : decode cX8_sweep 77 = .ok (.iconst 0, 1) := by decide +kernel
theorem dX8_sweep_78 : decode cX8_sweep 78 = .ok (.istore_n 3, 1) := by decide +kernel
theorem dX8_sweep_79 : decode cX8_sweep 79 = .ok (.iload_n 3, 1) := by decide +kernel
theorem dX8_sweep_80 : decode cX8_sweep 80 = .ok (.bipush 16, 2) := by decide +kernel
theorem dX8_sweep_82 : decode cX8_sweep 82 = .ok (.if_icmp .ge 41, 3) := by decide +kernel
theorem dX8_sweep_85 : decode cX8_sweep 85 = .ok (.aload_n 0, 1) := by decide +kernel
theorem dX8_sweep_86 : decode cX8_sweep 86 = .ok (.getfield 7, 3) := by decide +kernel
theorem dX8_sweep_89 : decode cX8_sweep 89 = .ok (.sipush 320, 3) := by decide +kernel
theorem dX8_sweep_92 : decode cX8_sweep 92 = .ok (.bipush 16, 2) := by decide +kernel
theorem dX8_sweep_94 : decode cX8_sweep 94 = .ok (.iload_n 2, 1) := by decide +kernel
theorem dX8_sweep_95 : decode cX8_sweep 95 = .ok (.iload_n 1, 1) := by decide +kernel
theorem dX8_sweep_96 : decode cX8_sweep 96 = .ok (.isub, 1) := by decide +kernel
theorem dX8_sweep_97 : decode cX8_sweep 97 = .ok (.imul, 1) := by decide +kernel
theorem dX8_sweep_98 : decode cX8_sweep 98 = .ok (.iadd, 1) := by decide +kernel
theorem dX8_sweep_99 : decode cX8_sweep 99 = .ok (.iload_n 3, 1) := by decide +kernel
theorem dX8_sweep_100 : decode cX8_sweep 100 = .ok (.iadd, 1) := by decide +kernel
theorem dX8_sweep_101 : decode cX8_sweep 101 = .ok (.aload_n 0, 1) := by decide +kernel
theorem dX8_sweep_102 : decode cX8_sweep 102 = .ok (.getfield 7, 3) := by decide +kernel
theorem dX8_sweep_105 : decode cX8_sweep 105 = .ok (.sipush 320, 3) := by decide +kernel
theorem dX8_sweep_108 : decode cX8_sweep 108 = .ok (.bipush 16, 2) := by decide +kernel
theorem dX8_sweep_110 : decode cX8_sweep 110 = .ok (.iload_n 2, 1) := by decide +kernel
theorem dX8_sweep_111 : decode cX8_sweep 111 = .ok (.imul, 1) := by decide +kernel
theorem dX8_sweep_112 : decode cX8_sweep 112 = .ok (.iadd, 1) := by decide +kernel
theorem dX8_sweep_113 : decode cX8_sweep 113 = .ok (.iload_n 3, 1) := by decide +kernel
theorem dX8_sweep_114 : decode cX8_sweep 114 = .ok (.iadd, 1) := by decide +kernel
theorem dX8_sweep_115 : decode cX8_sweep 115 = .ok (.iaload, 1) := by decide +kernel
theorem dX8_sweep_116 : decode cX8_sweep 116 = .ok (.iastore, 1) := by decide +kernel
theorem dX8_sweep_117 : decode cX8_sweep 117 = .ok (.iinc 3 1, 3) := by decide +kernel
theorem dX8_sweep_120 : decode cX8_sweep 120 = .ok (.goto (-41), 3) := by decide +kernel
theorem dX8_sweep_123 : decode cX8_sweep 123 = .ok (.iinc 2 1, 3) := by decide +kernel
theorem dX8_sweep_126 : decode cX8_sweep 126 = .ok (.goto (-87), 3) := by decide +kernel
theorem dX8_sweep_129 : decode cX8_sweep 129 = .ok (.aload_n 0, 1) := by decide +kernel
theorem dX8_sweep_130 : decode cX8_sweep 130 = .ok (.getfield 7, 3) := by decide +kernel
theorem dX8_sweep_133 : decode cX8_sweep 133 = .ok (.iconst 4, 1) := by decide +kernel
theorem dX8_sweep_134 : decode cX8_sweep 134 = .ok (.dup2, 1) := by decide +kernel
theorem dX8_sweep_135 : decode cX8_sweep 135 = .ok (.iaload, 1) := by decide +kernel
theorem dX8_sweep_136 : decode cX8_sweep 136 = .ok (.iload_n 1, 1) := by decide +kernel
theorem dX8_sweep_137 : decode cX8_sweep 137 = .ok (.isub, 1) := by decide +kernel
theorem dX8_sweep_138 : decode cX8_sweep 138 = .ok (.iastore, 1) := by decide +kernel
theorem dX8_sweep_139 : decode cX8_sweep 139 = .ok (.aload_n 0, 1) := by decide +kernel
theorem dX8_sweep_140 : decode cX8_sweep 140 = .ok (.getfield 7, 3) := by decide +kernel
theorem dX8_sweep_143 : decode cX8_sweep 143 = .ok (.bipush 7, 2) := by decide +kernel
theorem dX8_sweep_145 : decode cX8_sweep 145 = .ok (.dup2, 1) := by decide +kernel
theorem dX8_sweep_146 : decode cX8_sweep 146 = .ok (.iaload, 1) := by decide +kernel
theorem dX8_sweep_147 : decode cX8_sweep 147 = .ok (.iload_n 1, 1) := by decide +kernel
theorem dX8_sweep_148 : decode cX8_sweep 148 = .ok (.iadd, 1) := by decide +kernel
theorem dX8_sweep_149 : decode cX8_sweep 149 = .ok (.iastore, 1) := by decide +kernel
theorem dX8_sweep_150 : decode cX8_sweep 150 = .ok (.iload_n 1, 1) := by decide +kernel
theorem dX8_sweep_151 : decode cX8_sweep 151 = .ok (.ireturn, 1) := by decide +kernel
set_option maxRecDepth 20000 in
theorem ggX8_cell_X8_isCell : GoodIn wsX8_cell wsX8_isCell := goodIn_r _ [7, 8, 9, 6, 10] (by decide +kernel) (by decide +kernel)
set_option maxRecDepth 20000 in
theorem gX8_cell_X8_isCell : GoodIn wsX8_cell (wsV RX8 43 RX8 yX8_isCell wsX8_isCell) := goodIn_app (goodIn_of _ (by decide +kernel)) ggX8_cell_X8_isCell
theorem dX8_cell_0 : decode cX8_cell 0 = .ok (.aload_n 0, 1) := by decide +kernel
theorem dX8_cell_1 : decode cX8_cell 1 = .ok (.aload_n 0, 1) := by decide +kernel
theorem dX8_cell_2 : decode cX8_cell 2 = .ok (.iload_n 1, 1) := by decide +kernel
theorem dX8_cell_3 : decode cX8_cell 3 = .ok (.invokevirtual 43, 3) := by decide +kernel
theorem dX8_cell_6 : decode cX8_cell 6 = .ok (.ifCond .eq 7, 3) := by decide +kernel
theorem dX8_cell_9 : decode cX8_cell 9 = .ok (.iconst 0, 1) := by decide +kernel
theorem dX8_cell_10 : decode cX8_cell 10 = .ok (.goto 4, 3) := by decide +kernel
theorem dX8_cell_13 : decode cX8_cell 13 = .ok (.iconst 1, 1) := by decide +kernel
theorem dX8_cell_14 : decode cX8_cell 14 = .ok (.putfield 28, 3) := by decide +kernel
theorem dX8_cell_17 : decode cX8_cell 17 = .ok (.aload_n 0, 1) := by decide +kernel
theorem dX8_cell_18 : decode cX8_cell 18 = .ok (.getfield 28, 3) := by decide +kernel
theorem dX8_cell_21 : decode cX8_cell 21 = .ok (.ifCond .le 7, 3) := by decide +kernel
theorem dX8_cell_24 : decode cX8_cell 24 = .ok (.iconst 0, 1) := by decide +kernel
theorem dX8_cell_25 : decode cX8_cell 25 = .ok (.goto 12, 3) := by decide +kernel
theorem dX8_cell_28 : decode cX8_cell 28 = .ok (.aload_n 0, 1) := by decide +kernel
theorem dX8_cell_29 : decode cX8_cell 29 = .ok (.getfield 7, 3) := by decide +kernel
theorem dX8_cell_32 : decode cX8_cell 32 = .ok (.bipush 8, 2) := by decide +kernel
theorem dX8_cell_34 : decode cX8_cell 34 = .ok (.iload_n 1, 1) := by decide +kernel
