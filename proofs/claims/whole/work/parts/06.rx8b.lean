theorem dX8_cell_35 : decode cX8_cell 35 = .ok (.iadd, 1) := by decide +kernel
theorem dX8_cell_36 : decode cX8_cell 36 = .ok (.iaload, 1) := by decide +kernel
theorem dX8_cell_37 : decode cX8_cell 37 = .ok (.ireturn, 1) := by decide +kernel
set_option maxRecDepth 20000 in
theorem ggX8_ringValue_X8_movePart : GoodIn wsX8_ringValue wsX8_movePart := goodIn_r _ [6, 1, 15, 16, 17, 18, 19, 20, 21, 22, 23, 24, 25] (by decide +kernel) (by decide +kernel)
set_option maxRecDepth 20000 in
theorem gX8_ringValue_X8_movePart : GoodIn wsX8_ringValue (wsV RX8 70 RX8 yX8_movePart wsX8_movePart) := goodIn_app (goodIn_of _ (by decide +kernel)) ggX8_ringValue_X8_movePart
set_option maxRecDepth 20000 in
theorem ggX8_ringValue_X8_ringPart : GoodIn wsX8_ringValue wsX8_ringPart := goodIn_r _ [10, 1, 15, 16, 17, 18, 19, 20, 21, 22, 23, 24, 25] (by decide +kernel) (by decide +kernel)
set_option maxRecDepth 20000 in
theorem gX8_ringValue_X8_ringPart : GoodIn wsX8_ringValue (wsV RX8 47 RX8 yX8_ringPart wsX8_ringPart) := goodIn_app (goodIn_of _ (by decide +kernel)) ggX8_ringValue_X8_ringPart
set_option maxRecDepth 20000 in
theorem ggX8_ringValue_X8_copiedTo : GoodIn wsX8_ringValue wsX8_copiedTo := goodIn_r _ [14, 1, 2, 3, 4, 5, 6, 15, 16, 17, 18, 19, 20, 21, 22, 23, 24, 25] (by decide +kernel) (by decide +kernel)
set_option maxRecDepth 20000 in
theorem gX8_ringValue_X8_copiedTo : GoodIn wsX8_ringValue (wsV RX8 123 RX8 yX8_copiedTo wsX8_copiedTo) := goodIn_app (goodIn_of _ (by decide +kernel)) ggX8_ringValue_X8_copiedTo
theorem dX8_ringValue_0 : decode cX8_ringValue 0 = .ok (.iconst 0, 1) := by decide +kernel
theorem dX8_ringValue_1 : decode cX8_ringValue 1 = .ok (.istore_n 3, 1) := by decide +kernel
theorem dX8_ringValue_2 : decode cX8_ringValue 2 = .ok (.iconst 0, 1) := by decide +kernel
theorem dX8_ringValue_3 : decode cX8_ringValue 3 = .ok (.istore 4, 2) := by decide +kernel
theorem dX8_ringValue_5 : decode cX8_ringValue 5 = .ok (.iconst 0, 1) := by decide +kernel
theorem dX8_ringValue_6 : decode cX8_ringValue 6 = .ok (.istore 5, 2) := by decide +kernel
theorem dX8_ringValue_8 : decode cX8_ringValue 8 = .ok (.iload 5, 2) := by decide +kernel
theorem dX8_ringValue_10 : decode cX8_ringValue 10 = .ok (.aload_n 0, 1) := by decide +kernel
theorem dX8_ringValue_11 : decode cX8_ringValue 11 = .ok (.getfield 7, 3) := by decide +kernel
theorem dX8_ringValue_14 : decode cX8_ringValue 14 = .ok (.iconst 4, 1) := by decide +kernel
theorem dX8_ringValue_15 : decode cX8_ringValue 15 = .ok (.iaload, 1) := by decide +kernel
theorem dX8_ringValue_16 : decode cX8_ringValue 16 = .ok (.if_icmp .ge 69, 3) := by decide +kernel
theorem dX8_ringValue_19 : decode cX8_ringValue 19 = .ok (.aload_n 0, 1) := by decide +kernel
theorem dX8_ringValue_20 : decode cX8_ringValue 20 = .ok (.iload 5, 2) := by decide +kernel
theorem dX8_ringValue_22 : decode cX8_ringValue 22 = .ok (.iconst 5, 1) := by decide +kernel
theorem dX8_ringValue_23 : decode cX8_ringValue 23 = .ok (.invokevirtual 70, 3) := by decide +kernel
theorem dX8_ringValue_26 : decode cX8_ringValue 26 = .ok (.iconst 3, 1) := by decide +kernel
theorem dX8_ringValue_27 : decode cX8_ringValue 27 = .ok (.if_icmp .ne 7, 3) := by decide +kernel
theorem dX8_ringValue_30 : decode cX8_ringValue 30 = .ok (.iconst 0, 1) := by decide +kernel
theorem dX8_ringValue_31 : decode cX8_ringValue 31 = .ok (.goto 4, 3) := by decide +kernel
theorem dX8_ringValue_34 : decode cX8_ringValue 34 = .ok (.iconst 1, 1) := by decide +kernel
theorem dX8_ringValue_35 : decode cX8_ringValue 35 = .ok (.istore 6, 2) := by decide +kernel
theorem dX8_ringValue_37 : decode cX8_ringValue 37 = .ok (.iload_n 3, 1) := by decide +kernel
theorem dX8_ringValue_38 : decode cX8_ringValue 38 = .ok (.aload_n 0, 1) := by decide +kernel
theorem dX8_ringValue_39 : decode cX8_ringValue 39 = .ok (.iload 5, 2) := by decide +kernel
theorem dX8_ringValue_41 : decode cX8_ringValue 41 = .ok (.iconst 0, 1) := by decide +kernel
theorem dX8_ringValue_42 : decode cX8_ringValue 42 = .ok (.invokevirtual 70, 3) := by decide +kernel
theorem dX8_ringValue_45 : decode cX8_ringValue 45 = .ok (.iload_n 1, 1) := by decide +kernel
theorem dX8_ringValue_46 : decode cX8_ringValue 46 = .ok (.if_icmp .ne 8, 3) := by decide +kernel
theorem dX8_ringValue_49 : decode cX8_ringValue 49 = .ok (.iload 6, 2) := by decide +kernel
theorem dX8_ringValue_51 : decode cX8_ringValue 51 = .ok (.goto 4, 3) := by decide +kernel
theorem dX8_ringValue_54 : decode cX8_ringValue 54 = .ok (.iconst 0, 1) := by decide +kernel
theorem dX8_ringValue_55 : decode cX8_ringValue 55 = .ok (.iadd, 1) := by decide +kernel
theorem dX8_ringValue_56 : decode cX8_ringValue 56 = .ok (.istore_n 3, 1) := by decide +kernel
theorem dX8_ringValue_57 : decode cX8_ringValue 57 = .ok (.iload 4, 2) := by decide +kernel
theorem dX8_ringValue_59 : decode cX8_ringValue 59 = .ok (.aload_n 0, 1) := by decide +kernel
theorem dX8_ringValue_60 : decode cX8_ringValue 60 = .ok (.iload 5, 2) := by decide +kernel
theorem dX8_ringValue_62 : decode cX8_ringValue 62 = .ok (.iconst 2, 1) := by decide +kernel
theorem dX8_ringValue_63 : decode cX8_ringValue 63 = .ok (.invokevirtual 70, 3) := by decide +kernel
theorem dX8_ringValue_66 : decode cX8_ringValue 66 = .ok (.iload_n 1, 1) := by decide +kernel
theorem dX8_ringValue_67 : decode cX8_ringValue 67 = .ok (.if_icmp .ne 8, 3) := by decide +kernel
theorem dX8_ringValue_70 : decode cX8_ringValue 70 = .ok (.iload 6, 2) := by decide +kernel
theorem dX8_ringValue_72 : decode cX8_ringValue 72 = .ok (.goto 4, 3) := by decide +kernel
theorem dX8_ringValue_75 : decode cX8_ringValue 75 = .ok (.iconst 0, 1) := by decide +kernel
theorem dX8_ringValue_76 : decode cX8_ringValue 76 = .ok (.iadd, 1) := by decide +kernel
theorem dX8_ringValue_77 : decode cX8_ringValue 77 = .ok (.istore 4, 2) := by decide +kernel
theorem dX8_ringValue_79 : decode cX8_ringValue 79 = .ok (.iinc 5 1, 3) := by decide +kernel
theorem dX8_ringValue_82 : decode cX8_ringValue 82 = .ok (.goto (-74), 3) := by decide +kernel
theorem dX8_ringValue_85 : decode cX8_ringValue 85 = .ok (.iconst 0, 1) := by decide +kernel
theorem dX8_ringValue_86 : decode cX8_ringValue 86 = .ok (.istore 5, 2) := by decide +kernel
theorem dX8_ringValue_88 : decode cX8_ringValue 88 = .ok (.iconst 0, 1) := by decide +kernel
theorem dX8_ringValue_89 : decode cX8_ringValue 89 = .ok (.istore 6, 2) := by decide +kernel
theorem dX8_ringValue_91 : decode cX8_ringValue 91 = .ok (.iload 6, 2) := by decide +kernel
theorem dX8_ringValue_93 : decode cX8_ringValue 93 = .ok (.aload_n 0, 1) := by decide +kernel
theorem dX8_ringValue_94 : decode cX8_ringValue 94 = .ok (.iload_n 1, 1) := by decide +kernel
theorem dX8_ringValue_95 : decode cX8_ringValue 95 = .ok (.iconst 1, 1) := by decide +kernel
theorem dX8_ringValue_96 : decode cX8_ringValue 96 = .ok (.invokevirtual 47, 3) := by decide +kernel
theorem dX8_ringValue_99 : decode cX8_ringValue 99 = .ok (.if_icmp .ge 31, 3) := by decide +kernel
theorem dX8_ringValue_102 : decode cX8_ringValue 102 = .ok (.iload 5, 2) := by decide +kernel
theorem dX8_ringValue_104 : decode cX8_ringValue 104 = .ok (.aload_n 0, 1) := by decide +kernel
theorem dX8_ringValue_105 : decode cX8_ringValue 105 = .ok (.getfield 7, 3) := by decide +kernel
theorem dX8_ringValue_108 : decode cX8_ringValue 108 = .ok (.bipush 8, 2) := by decide +kernel
theorem dX8_ringValue_110 : decode cX8_ringValue 110 = .ok (.aload_n 0, 1) := by decide +kernel
theorem dX8_ringValue_111 : decode cX8_ringValue 111 = .ok (.iload_n 1, 1) := by decide +kernel
theorem dX8_ringValue_112 : decode cX8_ringValue 112 = .ok (.iconst 0, 1) := by decide +kernel
theorem dX8_ringValue_113 : decode cX8_ringValue 113 = .ok (.invokevirtual 47, 3) := by decide +kernel
theorem dX8_ringValue_116 : decode cX8_ringValue 116 = .ok (.iadd, 1) := by decide +kernel
theorem dX8_ringValue_117 : decode cX8_ringValue 117 = .ok (.iload 6, 2) := by decide +kernel
theorem dX8_ringValue_119 : decode cX8_ringValue 119 = .ok (.iadd, 1) := by decide +kernel
theorem dX8_ringValue_120 : decode cX8_ringValue 120 = .ok (.iaload, 1) := by decide +kernel
theorem dX8_ringValue_121 : decode cX8_ringValue 121 = .ok (.iadd, 1) := by decide +kernel
theorem dX8_ringValue_122 : decode cX8_ringValue 122 = .ok (.istore 5, 2) := by decide +kernel
theorem dX8_ringValue_124 : decode cX8_ringValue 124 = .ok (.iinc 6 1, 3) := by decide +kernel
theorem dX8_ringValue_127 : decode cX8_ringValue 127 = .ok (.goto (-36), 3) := by decide +kernel
theorem dX8_ringValue_130 : decode cX8_ringValue 130 = .ok (.iload_n 2, 1) := by decide +kernel
theorem dX8_ringValue_131 : decode cX8_ringValue 131 = .ok (.tableswitch 43 4 7 #[29, 31, 34, 40], 29) := by decide +kernel
theorem dX8_ringValue_160 : decode cX8_ringValue 160 = .ok (.iload_n 3, 1) := by decide +kernel
theorem dX8_ringValue_161 : decode cX8_ringValue 161 = .ok (.ireturn, 1) := by decide +kernel
theorem dX8_ringValue_162 : decode cX8_ringValue 162 = .ok (.iload 4, 2) := by decide +kernel
theorem dX8_ringValue_164 : decode cX8_ringValue 164 = .ok (.ireturn, 1) := by decide +kernel
theorem dX8_ringValue_165 : decode cX8_ringValue 165 = .ok (.aload_n 0, 1) := by decide +kernel
theorem dX8_ringValue_166 : decode cX8_ringValue 166 = .ok (.iload_n 1, 1) := by decide +kernel
theorem dX8_ringValue_167 : decode cX8_ringValue 167 = .ok (.invokevirtual 123, 3) := by decide +kernel
theorem dX8_ringValue_170 : decode cX8_ringValue 170 = .ok (.ireturn, 1) := by decide +kernel
theorem dX8_ringValue_171 : decode cX8_ringValue 171 = .ok (.iload 5, 2) := by decide +kernel
theorem dX8_ringValue_173 : decode cX8_ringValue 173 = .ok (.ireturn, 1) := by decide +kernel
theorem dX8_ringValue_174 : decode cX8_ringValue 174 = .ok (.aload_n 0, 1) := by decide +kernel
theorem dX8_ringValue_175 : decode cX8_ringValue 175 = .ok (.iload_n 1, 1) := by decide +kernel
theorem dX8_ringValue_176 : decode cX8_ringValue 176 = .ok (.iload_n 2, 1) := by decide +kernel
theorem dX8_ringValue_177 : decode cX8_ringValue 177 = .ok (.invokevirtual 47, 3) := by decide +kernel
theorem dX8_ringValue_180 : decode cX8_ringValue 180 = .ok (.ireturn, 1) := by decide +kernel
set_option maxRecDepth 20000 in
theorem ggX8_ring_X8_isRing : GoodIn wsX8_ring wsX8_isRing := goodIn_r _ [6, 7, 8, 9, 5, 10, 27, 28, 29, 30, 31, 32, 33, 34, 35, 36, 37] (by decide +kernel) (by decide +kernel)
set_option maxRecDepth 20000 in
theorem gX8_ring_X8_isRing : GoodIn wsX8_ring (wsV RX8 61 RX8 yX8_isRing wsX8_isRing) := goodIn_app (goodIn_of _ (by decide +kernel)) ggX8_ring_X8_isRing
set_option maxRecDepth 20000 in
theorem ggX8_ring_X8_within : GoodIn wsX8_ring wsX8_within := goodIn_r _ [10] (by decide +kernel) (by decide +kernel)
set_option maxRecDepth 20000 in
theorem gX8_ring_X8_within : GoodIn wsX8_ring (va_wsS RX8 39 yX8_within wsX8_within) := goodIn_app (goodIn_of _ (by decide +kernel)) ggX8_ring_X8_within
set_option maxRecDepth 20000 in
theorem ggX8_ring_X8_ringValue : GoodIn wsX8_ring wsX8_ringValue := goodIn_r _ [14, 7, 15, 16, 17, 5, 18, 19, 20, 21, 22, 23, 24, 25, 26, 27, 28, 29, 30, 31, 32, 33, 34, 35, 36, 37] (by decide +kernel) (by decide +kernel)
set_option maxRecDepth 20000 in
theorem gX8_ring_X8_ringValue : GoodIn wsX8_ring (wsV RX8 154 RX8 yX8_ringValue wsX8_ringValue) := goodIn_app (goodIn_of _ (by decide +kernel)) ggX8_ring_X8_ringValue
theorem dX8_ring_0 : decode cX8_ring 0 = .ok (.aload_n 0, 1) := by decide +kernel
theorem dX8_ring_1 : decode cX8_ring 1 = .ok (.aload_n 0, 1) := by decide +kernel
theorem dX8_ring_2 : decode cX8_ring 2 = .ok (.iload_n 1, 1) := by decide +kernel
theorem dX8_ring_3 : decode cX8_ring 3 = .ok (.invokevirtual 61, 3) := by decide +kernel
theorem dX8_ring_6 : decode cX8_ring 6 = .ok (.ifCond .ne 7, 3) := by decide +kernel
theorem dX8_ring_9 : decode cX8_ring 9 = .ok (.iconst 1, 1) := by decide +kernel
theorem dX8_ring_10 : decode cX8_ring 10 = .ok (.goto 18, 3) := by decide +kernel
theorem dX8_ring_13 : decode cX8_ring 13 = .ok (.iload_n 2, 1) := by decide +kernel
theorem dX8_ring_14 : decode cX8_ring 14 = .ok (.iconst 0, 1) := by decide +kernel
theorem dX8_ring_15 : decode cX8_ring 15 = .ok (.bipush 7, 2) := by decide +kernel
theorem dX8_ring_17 : decode cX8_ring 17 = .ok (.invokestatic 39, 3) := by decide +kernel
theorem dX8_ring_20 : decode cX8_ring 20 = .ok (.ifCond .eq 7, 3) := by decide +kernel
theorem dX8_ring_23 : decode cX8_ring 23 = .ok (.iconst 0, 1) := by decide +kernel
theorem dX8_ring_24 : decode cX8_ring 24 = .ok (.goto 4, 3) := by decide +kernel
theorem dX8_ring_27 : decode cX8_ring 27 = .ok (.iconst 2, 1) := by decide +kernel
theorem dX8_ring_28 : decode cX8_ring 28 = .ok (.putfield 28, 3) := by decide +kernel
theorem dX8_ring_31 : decode cX8_ring 31 = .ok (.aload_n 0, 1) := by decide +kernel
theorem dX8_ring_32 : decode cX8_ring 32 = .ok (.getfield 28, 3) := by decide +kernel
theorem dX8_ring_35 : decode cX8_ring 35 = .ok (.ifCond .le 7, 3) := by decide +kernel
theorem dX8_ring_38 : decode cX8_ring 38 = .ok (.iconst 0, 1) := by decide +kernel
theorem dX8_ring_39 : decode cX8_ring 39 = .ok (.goto 9, 3) := by decide +kernel
theorem dX8_ring_42 : decode cX8_ring 42 = .ok (.aload_n 0, 1) := by decide +kernel
theorem dX8_ring_43 : decode cX8_ring 43 = .ok (.iload_n 1, 1) := by decide +kernel
theorem dX8_ring_44 : decode cX8_ring 44 = .ok (.iload_n 2, 1) := by decide +kernel
theorem dX8_ring_45 : decode cX8_ring 45 = .ok (.invokevirtual 154, 3) := by decide +kernel
theorem dX8_ring_48 : decode cX8_ring 48 = .ok (.ireturn, 1) := by decide +kernel
set_option maxRecDepth 20000 in
theorem ggX8_moveOf_X8_isMove : GoodIn wsX8_moveOf wsX8_isMove := goodIn_r _ [6, 7, 8, 9, 5, 10, 15, 16, 17, 18, 19, 20, 21, 22, 23, 24, 25] (by decide +kernel) (by decide +kernel)
set_option maxRecDepth 20000 in
theorem gX8_moveOf_X8_isMove : GoodIn wsX8_moveOf (wsV RX8 157 RX8 yX8_isMove wsX8_isMove) := goodIn_app (goodIn_of _ (by decide +kernel)) ggX8_moveOf_X8_isMove
set_option maxRecDepth 20000 in
theorem ggX8_moveOf_X8_within : GoodIn wsX8_moveOf wsX8_within := goodIn_r _ [10] (by decide +kernel) (by decide +kernel)
set_option maxRecDepth 20000 in
theorem gX8_moveOf_X8_within : GoodIn wsX8_moveOf (va_wsS RX8 39 yX8_within wsX8_within) := goodIn_app (goodIn_of _ (by decide +kernel)) ggX8_moveOf_X8_within
set_option maxRecDepth 20000 in
theorem ggX8_moveOf_X8_movePart : GoodIn wsX8_moveOf wsX8_movePart := goodIn_r _ [14, 7, 15, 16, 17, 18, 19, 20, 21, 22, 23, 24, 25] (by decide +kernel) (by decide +kernel)
set_option maxRecDepth 20000 in
theorem gX8_moveOf_X8_movePart : GoodIn wsX8_moveOf (wsV RX8 70 RX8 yX8_movePart wsX8_movePart) := goodIn_app (goodIn_of _ (by decide +kernel)) ggX8_moveOf_X8_movePart
theorem dX8_moveOf_0 : decode cX8_moveOf 0 = .ok (.aload_n 0, 1) := by decide +kernel
theorem dX8_moveOf_1 : decode cX8_moveOf 1 = .ok (.aload_n 0, 1) := by decide +kernel
theorem dX8_moveOf_2 : decode cX8_moveOf 2 = .ok (.iload_n 1, 1) := by decide +kernel
theorem dX8_moveOf_3 : decode cX8_moveOf 3 = .ok (.invokevirtual 157, 3) := by decide +kernel
theorem dX8_moveOf_6 : decode cX8_moveOf 6 = .ok (.ifCond .ne 7, 3) := by decide +kernel
theorem dX8_moveOf_9 : decode cX8_moveOf 9 = .ok (.iconst 1, 1) := by decide +kernel
theorem dX8_moveOf_10 : decode cX8_moveOf 10 = .ok (.goto 18, 3) := by decide +kernel
theorem dX8_moveOf_13 : decode cX8_moveOf 13 = .ok (.iload_n 2, 1) := by decide +kernel
theorem dX8_moveOf_14 : decode cX8_moveOf 14 = .ok (.iconst 0, 1) := by decide +kernel
theorem dX8_moveOf_15 : decode cX8_moveOf 15 = .ok (.bipush 9, 2) := by decide +kernel
theorem dX8_moveOf_17 : decode cX8_moveOf 17 = .ok (.invokestatic 39, 3) := by decide +kernel
theorem dX8_moveOf_20 : decode cX8_moveOf 20 = .ok (.ifCond .eq 7, 3) := by decide +kernel
theorem dX8_moveOf_23 : decode cX8_moveOf 23 = .ok (.iconst 0, 1) := by decide +kernel
theorem dX8_moveOf_24 : decode cX8_moveOf 24 = .ok (.goto 4, 3) := by decide +kernel
theorem dX8_moveOf_27 : decode cX8_moveOf 27 = .ok (.iconst 2, 1) := by decide +kernel
theorem dX8_moveOf_28 : decode cX8_moveOf 28 = .ok (.putfield 28, 3) := by decide +kernel
theorem dX8_moveOf_31 : decode cX8_moveOf 31 = .ok (.aload_n 0, 1) := by decide +kernel
theorem dX8_moveOf_32 : decode cX8_moveOf 32 = .ok (.getfield 28, 3) := by decide +kernel
theorem dX8_moveOf_35 : decode cX8_moveOf 35 = .ok (.ifCond .le 7, 3) := by decide +kernel
theorem dX8_moveOf_38 : decode cX8_moveOf 38 = .ok (.iconst 0, 1) := by decide +kernel
theorem dX8_moveOf_39 : decode cX8_moveOf 39 = .ok (.goto 9, 3) := by decide +kernel
theorem dX8_moveOf_42 : decode cX8_moveOf 42 = .ok (.aload_n 0, 1) := by decide +kernel
theorem dX8_moveOf_43 : decode cX8_moveOf 43 = .ok (.iload_n 1, 1) := by decide +kernel
theorem dX8_moveOf_44 : decode cX8_moveOf 44 = .ok (.iload_n 2, 1) := by decide +kernel
theorem dX8_moveOf_45 : decode cX8_moveOf 45 = .ok (.invokevirtual 70, 3) := by decide +kernel
theorem dX8_moveOf_48 : decode cX8_moveOf 48 = .ok (.ireturn, 1) := by decide +kernel
set_option maxRecDepth 20000 in
theorem ggX8_hostages_X8_movePart : GoodIn wsX8_hostages wsX8_movePart := goodIn_r _ [5, 6, 7, 8, 9, 10, 11, 12, 13, 14, 15, 16, 17] (by decide +kernel) (by decide +kernel)
set_option maxRecDepth 20000 in
theorem gX8_hostages_X8_movePart : GoodIn wsX8_hostages (wsV RX8 70 RX8 yX8_movePart wsX8_movePart) := goodIn_app (goodIn_of _ (by decide +kernel)) ggX8_hostages_X8_movePart
theorem dX8_hostages_0 : decode cX8_hostages 0 = .ok (.aload_n 0, 1) := by decide +kernel
theorem dX8_hostages_1 : decode cX8_hostages 1 = .ok (.iload_n 1, 1) := by decide +kernel
theorem dX8_hostages_2 : decode cX8_hostages 2 = .ok (.iconst 5, 1) := by decide +kernel
theorem dX8_hostages_3 : decode cX8_hostages 3 = .ok (.invokevirtual 70, 3) := by decide +kernel
theorem dX8_hostages_6 : decode cX8_hostages 6 = .ok (.iconst 1, 1) := by decide +kernel
theorem dX8_hostages_7 : decode cX8_hostages 7 = .ok (.if_icmp .ne 20, 3) := by decide +kernel
theorem dX8_hostages_10 : decode cX8_hostages 10 = .ok (.aload_n 0, 1) := by decide +kernel
theorem dX8_hostages_11 : decode cX8_hostages 11 = .ok (.iload_n 1, 1) := by decide +kernel
theorem dX8_hostages_12 : decode cX8_hostages 12 = .ok (.iconst 4, 1) := by decide +kernel
theorem dX8_hostages_13 : decode cX8_hostages 13 = .ok (.invokevirtual 70, 3) := by decide +kernel
theorem dX8_hostages_16 : decode cX8_hostages 16 = .ok (.aload_n 0, 1) := by decide +kernel
theorem dX8_hostages_17 : decode cX8_hostages 17 = .ok (.iload_n 1, 1) := by decide +kernel
theorem dX8_hostages_18 : decode cX8_hostages 18 = .ok (.bipush 6, 2) := by decide +kernel
theorem dX8_hostages_20 : decode cX8_hostages 20 = .ok (.invokevirtual 70, 3) := by decide +kernel
theorem dX8_hostages_23 : decode cX8_hostages 23 = .ok (.isub, 1) := by decide +kernel
theorem dX8_hostages_24 : decode cX8_hostages 24 = .ok (.goto 4, 3) := by decide +kernel
theorem dX8_hostages_27 : decode cX8_hostages 27 = .ok (.iconst 0, 1) := by decide +kernel
theorem dX8_hostages_28 : decode cX8_hostages 28 = .ok (.ireturn, 1) := by decide +kernel
set_option maxRecDepth 20000 in
theorem ggX8_hostageOf_X8_movePart : GoodIn wsX8_hostageOf wsX8_movePart := goodIn_r _ [6, 1, 7, 8, 9, 10, 11, 12, 13, 14, 15, 16, 17] (by decide +kernel) (by decide +kernel)
set_option maxRecDepth 20000 in
theorem gX8_hostageOf_X8_movePart : GoodIn wsX8_hostageOf (wsV RX8 70 RX8 yX8_movePart wsX8_movePart) := goodIn_app (goodIn_of _ (by decide +kernel)) ggX8_hostageOf_X8_movePart
theorem dX8_hostageOf_0 : decode cX8_hostageOf 0 = .ok (.aload_n 0, 1) := by decide +kernel
theorem dX8_hostageOf_1 : decode cX8_hostageOf 1 = .ok (.getfield 7, 3) := by decide +kernel
theorem dX8_hostageOf_4 : decode cX8_hostageOf 4 = .ok (.sipush 320, 3) := by decide +kernel
theorem dX8_hostageOf_7 : decode cX8_hostageOf 7 = .ok (.bipush 16, 2) := by decide +kernel
theorem dX8_hostageOf_9 : decode cX8_hostageOf 9 = .ok (.iload_n 1, 1) := by decide +kernel
theorem dX8_hostageOf_10 : decode cX8_hostageOf 10 = .ok (.imul, 1) := by decide +kernel
theorem dX8_hostageOf_11 : decode cX8_hostageOf 11 = .ok (.iadd, 1) := by decide +kernel
theorem dX8_hostageOf_12 : decode cX8_hostageOf 12 = .ok (.aload_n 0, 1) := by decide +kernel
theorem dX8_hostageOf_13 : decode cX8_hostageOf 13 = .ok (.iload_n 1, 1) := by decide +kernel
theorem dX8_hostageOf_14 : decode cX8_hostageOf 14 = .ok (.bipush 6, 2) := by decide +kernel
theorem dX8_hostageOf_16 : decode cX8_hostageOf 16 = .ok (.invokevirtual 70, 3) := by decide +kernel
theorem dX8_hostageOf_19 : decode cX8_hostageOf 19 = .ok (.iadd, 1) := by decide +kernel
theorem dX8_hostageOf_20 : decode cX8_hostageOf 20 = .ok (.iload_n 2, 1) := by decide +kernel
theorem dX8_hostageOf_21 : decode cX8_hostageOf 21 = .ok (.iadd, 1) := by decide +kernel
theorem dX8_hostageOf_22 : decode cX8_hostageOf 22 = .ok (.iaload, 1) := by decide +kernel
theorem dX8_hostageOf_23 : decode cX8_hostageOf 23 = .ok (.ireturn, 1) := by decide +kernel
set_option maxRecDepth 20000 in
theorem ggX8_hostage_X8_isMove : GoodIn wsX8_hostage wsX8_isMove := goodIn_r _ [6, 7, 8, 9, 5, 10, 23, 24, 25, 26, 27, 28, 29, 30, 31, 32, 33] (by decide +kernel) (by decide +kernel)
set_option maxRecDepth 20000 in
theorem gX8_hostage_X8_isMove : GoodIn wsX8_hostage (wsV RX8 157 RX8 yX8_isMove wsX8_isMove) := goodIn_app (goodIn_of _ (by decide +kernel)) ggX8_hostage_X8_isMove
set_option maxRecDepth 20000 in
theorem ggX8_hostage_X8_hostages : GoodIn wsX8_hostage wsX8_hostages := goodIn_r _ [14, 15, 16, 17, 5, 18, 7, 23, 24, 25, 26, 27, 28, 29, 30, 31, 32, 33] (by decide +kernel) (by decide +kernel)
set_option maxRecDepth 20000 in
theorem gX8_hostage_X8_hostages : GoodIn wsX8_hostage (wsV RX8 160 RX8 yX8_hostages wsX8_hostages) := goodIn_app (goodIn_of _ (by decide +kernel)) ggX8_hostage_X8_hostages
set_option maxRecDepth 20000 in
theorem ggX8_hostage_X8_hostageOf : GoodIn wsX8_hostage wsX8_hostageOf := goodIn_r _ [22, 7, 15, 16, 17, 5, 18, 23, 24, 25, 26, 27, 28, 29, 30, 31, 32, 33] (by decide +kernel) (by decide +kernel)
set_option maxRecDepth 20000 in
theorem gX8_hostage_X8_hostageOf : GoodIn wsX8_hostage (wsV RX8 163 RX8 yX8_hostageOf wsX8_hostageOf) := goodIn_app (goodIn_of _ (by decide +kernel)) ggX8_hostage_X8_hostageOf
theorem dX8_hostage_0 : decode cX8_hostage 0 = .ok (.aload_n 0, 1) := by decide +kernel
theorem dX8_hostage_1 : decode cX8_hostage 1 = .ok (.aload_n 0, 1) := by decide +kernel
theorem dX8_hostage_2 : decode cX8_hostage 2 = .ok (.iload_n 1, 1) := by decide +kernel
theorem dX8_hostage_3 : decode cX8_hostage 3 = .ok (.invokevirtual 157, 3) := by decide +kernel
theorem dX8_hostage_6 : decode cX8_hostage 6 = .ok (.ifCond .ne 7, 3) := by decide +kernel
theorem dX8_hostage_9 : decode cX8_hostage 9 = .ok (.iconst 1, 1) := by decide +kernel
theorem dX8_hostage_10 : decode cX8_hostage 10 = .ok (.goto 12, 3) := by decide +kernel
theorem dX8_hostage_13 : decode cX8_hostage 13 = .ok (.iload_n 2, 1) := by decide +kernel
theorem dX8_hostage_14 : decode cX8_hostage 14 = .ok (.ifCond .ge 7, 3) := by decide +kernel
theorem dX8_hostage_17 : decode cX8_hostage 17 = .ok (.iconst 2, 1) := by decide +kernel
theorem dX8_hostage_18 : decode cX8_hostage 18 = .ok (.goto 4, 3) := by decide +kernel
theorem dX8_hostage_21 : decode cX8_hostage 21 = .ok (.iconst 0, 1) := by decide +kernel
theorem dX8_hostage_22 : decode cX8_hostage 22 = .ok (.putfield 28, 3) := by decide +kernel
theorem dX8_hostage_25 : decode cX8_hostage 25 = .ok (.aload_n 0, 1) := by decide +kernel
theorem dX8_hostage_26 : decode cX8_hostage 26 = .ok (.getfield 28, 3) := by decide +kernel
theorem dX8_hostage_29 : decode cX8_hostage 29 = .ok (.ifCond .le 5, 3) := by decide +kernel
theorem dX8_hostage_32 : decode cX8_hostage 32 = .ok (.iconst 0, 1) := by decide +kernel
theorem dX8_hostage_33 : decode cX8_hostage 33 = .ok (.ireturn, 1) := by decide +kernel
theorem dX8_hostage_34 : decode cX8_hostage 34 = .ok (.iload_n 2, 1) := by decide +kernel
theorem dX8_hostage_35 : decode cX8_hostage 35 = .ok (.aload_n 0, 1) := by decide +kernel
theorem dX8_hostage_36 : decode cX8_hostage 36 = .ok (.iload_n 1, 1) := by decide +kernel
theorem dX8_hostage_37 : decode cX8_hostage 37 = .ok (.invokevirtual 160, 3) := by decide +kernel
theorem dX8_hostage_40 : decode cX8_hostage 40 = .ok (.if_icmp .ge 12, 3) := by decide +kernel
theorem dX8_hostage_43 : decode cX8_hostage 43 = .ok (.aload_n 0, 1) := by decide +kernel
theorem dX8_hostage_44 : decode cX8_hostage 44 = .ok (.iload_n 1, 1) := by decide +kernel
theorem dX8_hostage_45 : decode cX8_hostage 45 = .ok (.iload_n 2, 1) := by decide +kernel
theorem dX8_hostage_46 : decode cX8_hostage 46 = .ok (.invokevirtual 163, 3) := by decide +kernel
theorem dX8_hostage_49 : decode cX8_hostage 49 = .ok (.goto 6, 3) := by decide +kernel
theorem dX8_hostage_52 : decode cX8_hostage 52 = .ok (.sipush (-1000), 3) := by decide +kernel
theorem dX8_hostage_55 : decode cX8_hostage 55 = .ok (.ireturn, 1) := by decide +kernel
set_option maxRecDepth 20000 in
theorem ggX8_cellSet_X8_isMove : GoodIn wsX8_cellSet wsX8_isMove := goodIn_r _ [6, 7, 8, 9, 5, 10, 27, 28, 29, 30, 31, 32, 33, 34, 35, 36, 37] (by decide +kernel) (by decide +kernel)
set_option maxRecDepth 20000 in
theorem gX8_cellSet_X8_isMove : GoodIn wsX8_cellSet (wsV RX8 157 RX8 yX8_isMove wsX8_isMove) := goodIn_app (goodIn_of _ (by decide +kernel)) ggX8_cellSet_X8_isMove
set_option maxRecDepth 20000 in
theorem ggX8_cellSet_X8_movePart : GoodIn wsX8_cellSet wsX8_movePart := goodIn_r _ [14, 7, 27, 28, 29, 30, 31, 32, 33, 34, 35, 36, 37] (by decide +kernel) (by decide +kernel)
set_option maxRecDepth 20000 in
theorem gX8_cellSet_X8_movePart : GoodIn wsX8_cellSet (wsV RX8 70 RX8 yX8_movePart wsX8_movePart) := goodIn_app (goodIn_of _ (by decide +kernel)) ggX8_cellSet_X8_movePart
set_option maxRecDepth 20000 in
theorem ggX8_cellSet_X8_targetCell : GoodIn wsX8_cellSet wsX8_targetCell := goodIn_r _ [18, 11, 12, 13, 5, 14, 7, 19, 20, 21, 22, 27, 28, 29, 30, 31, 32, 33, 34, 35, 36, 37] (by decide +kernel) (by decide +kernel)
set_option maxRecDepth 20000 in
theorem gX8_cellSet_X8_targetCell : GoodIn wsX8_cellSet (wsV RX8 76 RX8 yX8_targetCell wsX8_targetCell) := goodIn_app (goodIn_of _ (by decide +kernel)) ggX8_cellSet_X8_targetCell
set_option maxRecDepth 20000 in
theorem ggX8_cellSet_X8_sourceCell : GoodIn wsX8_cellSet wsX8_sourceCell := goodIn_r _ [26, 11, 12, 13, 5, 14, 7, 19, 20, 21, 22, 27, 28, 29, 30, 31, 32, 33, 34, 35, 36, 37] (by decide +kernel) (by decide +kernel)
set_option maxRecDepth 20000 in
theorem gX8_cellSet_X8_sourceCell : GoodIn wsX8_cellSet (wsV RX8 73 RX8 yX8_sourceCell wsX8_sourceCell) := goodIn_app (goodIn_of _ (by decide +kernel)) ggX8_cellSet_X8_sourceCell
theorem dX8_cellSet_0 : decode cX8_cellSet 0 = .ok (.aload_n 0, 1) := by decide +kernel
theorem dX8_cellSet_1 : decode cX8_cellSet 1 = .ok (.aload_n 0, 1) := by decide +kernel
theorem dX8_cellSet_2 : decode cX8_cellSet 2 = .ok (.iload_n 1, 1) := by decide +kernel
theorem dX8_cellSet_3 : decode cX8_cellSet 3 = .ok (.invokevirtual 157, 3) := by decide +kernel
theorem dX8_cellSet_6 : decode cX8_cellSet 6 = .ok (.ifCond .eq 7, 3) := by decide +kernel
theorem dX8_cellSet_9 : decode cX8_cellSet 9 = .ok (.iconst 0, 1) := by decide +kernel
theorem dX8_cellSet_10 : decode cX8_cellSet 10 = .ok (.goto 4, 3) := by decide +kernel
theorem dX8_cellSet_13 : decode cX8_cellSet 13 = .ok (.iconst 1, 1) := by decide +kernel
theorem dX8_cellSet_14 : decode cX8_cellSet 14 = .ok (.putfield 28, 3) := by decide +kernel
theorem dX8_cellSet_17 : decode cX8_cellSet 17 = .ok (.aload_n 0, 1) := by decide +kernel
theorem dX8_cellSet_18 : decode cX8_cellSet 18 = .ok (.getfield 28, 3) := by decide +kernel
theorem dX8_cellSet_21 : decode cX8_cellSet 21 = .ok (.ifCond .le 5, 3) := by decide +kernel
theorem dX8_cellSet_24 : decode cX8_cellSet 24 = .ok (.lconst 0, 1) := by decide +kernel
theorem dX8_cellSet_25 : decode cX8_cellSet 25 = .ok (.lreturn, 1) := by decide +kernel
theorem dX8_cellSet_26 : decode cX8_cellSet 26 = .ok (.lconst 0, 1) := by decide +kernel
theorem dX8_cellSet_27 : decode cX8_cellSet 27 = .ok (.lstore_n 3, 1) := by decide +kernel
theorem dX8_cellSet_28 : decode cX8_cellSet 28 = .ok (.iconst 0, 1) := by decide +kernel
theorem dX8_cellSet_29 : decode cX8_cellSet 29 = .ok (.istore 5, 2) := by decide +kernel
theorem dX8_cellSet_31 : decode cX8_cellSet 31 = .ok (.iload 5, 2) := by decide +kernel
theorem dX8_cellSet_33 : decode cX8_cellSet 33 = .ok (.aload_n 0, 1) := by decide +kernel
theorem dX8_cellSet_34 : decode cX8_cellSet 34 = .ok (.iload_n 1, 1) := by decide +kernel
theorem dX8_cellSet_35 : decode cX8_cellSet 35 = .ok (.iconst 4, 1) := by decide +kernel
theorem dX8_cellSet_36 : decode cX8_cellSet 36 = .ok (.invokevirtual 70, 3) := by decide +kernel
theorem dX8_cellSet_39 : decode cX8_cellSet 39 = .ok (.if_icmp .ge 35, 3) := by decide +kernel
theorem dX8_cellSet_42 : decode cX8_cellSet 42 = .ok (.lload_n 3, 1) := by decide +kernel
theorem dX8_cellSet_43 : decode cX8_cellSet 43 = .ok (.lconst 1, 1) := by decide +kernel
theorem dX8_cellSet_44 : decode cX8_cellSet 44 = .ok (.iload_n 2, 1) := by decide +kernel
theorem dX8_cellSet_45 : decode cX8_cellSet 45 = .ok (.ifCond .eq 13, 3) := by decide +kernel
theorem dX8_cellSet_48 : decode cX8_cellSet 48 = .ok (.aload_n 0, 1) := by decide +kernel
theorem dX8_cellSet_49 : decode cX8_cellSet 49 = .ok (.iload_n 1, 1) := by decide +kernel
theorem dX8_cellSet_50 : decode cX8_cellSet 50 = .ok (.iload 5, 2) := by decide +kernel
theorem dX8_cellSet_52 : decode cX8_cellSet 52 = .ok (.invokevirtual 76, 3) := by decide +kernel
theorem dX8_cellSet_55 : decode cX8_cellSet 55 = .ok (.goto 10, 3) := by decide +kernel
theorem dX8_cellSet_58 : decode cX8_cellSet 58 = .ok (.aload_n 0, 1) := by decide +kernel
theorem dX8_cellSet_59 : decode cX8_cellSet 59 = .ok (.iload_n 1, 1) := by decide +kernel
theorem dX8_cellSet_60 : decode cX8_cellSet 60 = .ok (.iload 5, 2) := by decide +kernel
theorem dX8_cellSet_62 : decode cX8_cellSet 62 = .ok (.invokevirtual 73, 3) := by decide +kernel
theorem dX8_cellSet_65 : decode cX8_cellSet 65 = .ok (.lshl, 1) := by decide +kernel
theorem dX8_cellSet_66 : decode cX8_cellSet 66 = .ok (.lor, 1) := by decide +kernel
theorem dX8_cellSet_67 : decode cX8_cellSet 67 = .ok (.lstore_n 3, 1) := by decide +kernel
theorem dX8_cellSet_68 : decode cX8_cellSet 68 = .ok (.iinc 5 1, 3) := by decide +kernel
theorem dX8_cellSet_71 : decode cX8_cellSet 71 = .ok (.goto (-40), 3) := by decide +kernel
theorem dX8_cellSet_74 : decode cX8_cellSet 74 = .ok (.lload_n 3, 1) := by decide +kernel
theorem dX8_cellSet_75 : decode cX8_cellSet 75 = .ok (.lreturn, 1) := by decide +kernel
set_option maxRecDepth 20000 in
theorem ggX8_heldCells_X8_holds : GoodIn wsX8_heldCells wsX8_holds := goodIn_r _ [6, 7, 8, 9, 5, 10, 1, 11, 12, 13, 14, 15, 16, 17, 18, 19, 20, 21, 22, 23, 24, 25, 26, 27, 28, 29, 30, 31, 32, 33] (by decide +kernel) (by decide +kernel)
set_option maxRecDepth 20000 in
theorem gX8_heldCells_X8_holds : GoodIn wsX8_heldCells (wsV RX8 83 RX8 yX8_holds wsX8_holds) := goodIn_app (goodIn_of _ (by decide +kernel)) ggX8_heldCells_X8_holds
theorem dX8_heldCells_0 : decode cX8_heldCells 0 = .ok (.lconst 0, 1) := by decide +kernel
theorem dX8_heldCells_1 : decode cX8_heldCells 1 = .ok (.lstore_n 1, 1) := by decide +kernel
theorem dX8_heldCells_2 : decode cX8_heldCells 2 = .ok (.iconst 0, 1) := by decide +kernel
theorem dX8_heldCells_3 : decode cX8_heldCells 3 = .ok (.istore_n 3, 1) := by decide +kernel
theorem dX8_heldCells_4 : decode cX8_heldCells 4 = .ok (.iload_n 3, 1) := by decide +kernel
theorem dX8_heldCells_5 : decode cX8_heldCells 5 = .ok (.bipush 48, 2) := by decide +kernel
theorem dX8_heldCells_7 : decode cX8_heldCells 7 = .ok (.if_icmp .ge 49, 3) := by decide +kernel
theorem dX8_heldCells_10 : decode cX8_heldCells 10 = .ok (.iconst 0, 1) := by decide +kernel
theorem dX8_heldCells_11 : decode cX8_heldCells 11 = .ok (.istore 4, 2) := by decide +kernel
theorem dX8_heldCells_13 : decode cX8_heldCells 13 = .ok (.iload 4, 2) := by decide +kernel
theorem dX8_heldCells_15 : decode cX8_heldCells 15 = .ok (.aload_n 0, 1) := by decide +kernel
theorem dX8_heldCells_16 : decode cX8_heldCells 16 = .ok (.getfield 7, 3) := by decide +kernel
theorem dX8_heldCells_19 : decode cX8_heldCells 19 = .ok (.iconst 4, 1) := by decide +kernel
theorem dX8_heldCells_20 : decode cX8_heldCells 20 = .ok (.iaload, 1) := by decide +kernel
theorem dX8_heldCells_21 : decode cX8_heldCells 21 = .ok (.if_icmp .ge 29, 3) := by decide +kernel
theorem dX8_heldCells_24 : decode cX8_heldCells 24 = .ok (.lload_n 1, 1) := by decide +kernel
theorem dX8_heldCells_25 : decode cX8_heldCells 25 = .ok (.aload_n 0, 1) := by decide +kernel
theorem dX8_heldCells_26 : decode cX8_heldCells 26 = .ok (.iload 4, 2) := by decide +kernel
theorem dX8_heldCells_28 : decode cX8_heldCells 28 = .ok (.iload_n 3, 1) := by decide +kernel
theorem dX8_heldCells_29 : decode cX8_heldCells 29 = .ok (.invokevirtual 83, 3) := by decide +kernel
theorem dX8_heldCells_32 : decode cX8_heldCells 32 = .ok (.ifCond .eq 9, 3) := by decide +kernel
theorem dX8_heldCells_35 : decode cX8_heldCells 35 = .ok (.lconst 1, 1) := by decide +kernel
theorem dX8_heldCells_36 : decode cX8_heldCells 36 = .ok (.iload_n 3, 1) := by decide +kernel
theorem dX8_heldCells_37 : decode cX8_heldCells 37 = .ok (.lshl, 1) := by decide +kernel
theorem dX8_heldCells_38 : decode cX8_heldCells 38 = .ok (.goto 4, 3) := by decide +kernel
theorem dX8_heldCells_41 : decode cX8_heldCells 41 = .ok (.lconst 0, 1) := by decide +kernel
theorem dX8_heldCells_42 : decode cX8_heldCells 42 = .ok (.lor, 1) := by decide +kernel
theorem dX8_heldCells_43 : decode cX8_heldCells 43 = .ok (.lstore_n 1, 1) := by decide +kernel
theorem dX8_heldCells_44 : decode cX8_heldCells 44 = .ok (.iinc 4 1, 3) := by decide +kernel
theorem dX8_heldCells_47 : decode cX8_heldCells 47 = .ok (.goto (-34), 3) := by decide +kernel
theorem dX8_heldCells_50 : decode cX8_heldCells 50 = .ok (.iinc 3 1, 3) := by decide +kernel
theorem dX8_heldCells_53 : decode cX8_heldCells 53 = .ok (.goto (-49), 3) := by decide +kernel
theorem dX8_heldCells_56 : decode cX8_heldCells 56 = .ok (.lload_n 1, 1) := by decide +kernel
theorem dX8_heldCells_57 : decode cX8_heldCells 57 = .ok (.lreturn, 1) := by decide +kernel
set_option maxRecDepth 20000 in
theorem ggX8_held_X8_heldCells : GoodIn wsX8_held wsX8_heldCells := goodIn_r _ [6, 7, 8, 9, 10, 5, 11, 12, 13, 14, 15, 16, 17, 18, 19, 20, 21, 22, 23, 24, 25, 26, 27, 28, 29, 30, 31, 32, 33, 34, 35, 36, 37, 38] (by decide +kernel) (by decide +kernel)
set_option maxRecDepth 20000 in
theorem gX8_held_X8_heldCells : GoodIn wsX8_held (wsV RX8 166 RX8 yX8_heldCells wsX8_heldCells) := goodIn_app (goodIn_of _ (by decide +kernel)) ggX8_held_X8_heldCells
theorem dX8_held_0 : decode cX8_held 0 = .ok (.aload_n 0, 1) := by decide +kernel
theorem dX8_held_1 : decode cX8_held 1 = .ok (.iconst 0, 1) := by decide +kernel
theorem dX8_held_2 : decode cX8_held 2 = .ok (.putfield 28, 3) := by decide +kernel
theorem dX8_held_5 : decode cX8_held 5 = .ok (.aload_n 0, 1) := by decide +kernel
theorem dX8_held_6 : decode cX8_held 6 = .ok (.invokevirtual 166, 3) := by decide +kernel
theorem dX8_held_9 : decode cX8_held 9 = .ok (.lreturn, 1) := by decide +kernel
set_option maxRecDepth 20000 in
theorem ggX8_wholeValue_X8_heldCells : GoodIn wsX8_wholeValue wsX8_heldCells := goodIn_r _ [7, 1, 8, 9, 10, 6, 11, 12, 13, 14, 15, 16, 17, 18, 19, 20, 21, 22, 23, 24, 25, 26, 27, 32, 33, 34, 35, 36, 37, 38, 39, 40, 41, 42] (by decide +kernel) (by decide +kernel)
set_option maxRecDepth 20000 in
theorem gX8_wholeValue_X8_heldCells : GoodIn wsX8_wholeValue (wsV RX8 166 RX8 yX8_heldCells wsX8_heldCells) := goodIn_app (goodIn_of _ (by decide +kernel)) ggX8_wholeValue_X8_heldCells
set_option maxRecDepth 20000 in
theorem ggX8_wholeValue_X8_movesIn : GoodIn wsX8_wholeValue wsX8_movesIn := goodIn_r _ [31, 1, 12, 13, 14, 6, 15, 32, 33, 34, 35, 36, 37, 38, 39, 40, 41, 42] (by decide +kernel) (by decide +kernel)
set_option maxRecDepth 20000 in
theorem gX8_wholeValue_X8_movesIn : GoodIn wsX8_wholeValue (wsV RX8 135 RX8 yX8_movesIn wsX8_movesIn) := goodIn_app (goodIn_of _ (by decide +kernel)) ggX8_wholeValue_X8_movesIn
theorem dX8_wholeValue_0 : decode cX8_wholeValue 0 = .ok (.iconst 0, 1) := by decide +kernel
theorem dX8_wholeValue_1 : decode cX8_wholeValue 1 = .ok (.istore_n 2, 1) := by decide +kernel
theorem dX8_wholeValue_2 : decode cX8_wholeValue 2 = .ok (.iconst 0, 1) := by decide +kernel
theorem dX8_wholeValue_3 : decode cX8_wholeValue 3 = .ok (.istore_n 3, 1) := by decide +kernel
theorem dX8_wholeValue_4 : decode cX8_wholeValue 4 = .ok (.aload_n 0, 1) := by decide +kernel
theorem dX8_wholeValue_5 : decode cX8_wholeValue 5 = .ok (.invokevirtual 166, 3) := by decide +kernel
theorem dX8_wholeValue_8 : decode cX8_wholeValue 8 = .ok (.lstore 4, 2) := by decide +kernel
theorem dX8_wholeValue_10 : decode cX8_wholeValue 10 = .ok (.iconst 0, 1) := by decide +kernel
theorem dX8_wholeValue_11 : decode cX8_wholeValue 11 = .ok (.istore 6, 2) := by decide +kernel
theorem dX8_wholeValue_13 : decode cX8_wholeValue 13 = .ok (.iload 6, 2) := by decide +kernel
theorem dX8_wholeValue_15 : decode cX8_wholeValue 15 = .ok (.bipush 48, 2) := by decide +kernel
theorem dX8_wholeValue_17 : decode cX8_wholeValue 17 = .ok (.if_icmp .ge 42, 3) := by decide +kernel
theorem dX8_wholeValue_20 : decode cX8_wholeValue 20 = .ok (.iload_n 2, 1) := by decide +kernel
theorem dX8_wholeValue_21 : decode cX8_wholeValue 21 = .ok (.lload 4, 2) := by decide +kernel
theorem dX8_wholeValue_23 : decode cX8_wholeValue 23 = .ok (.iload 6, 2) := by decide +kernel
theorem dX8_wholeValue_25 : decode cX8_wholeValue 25 = .ok (.lshr, 1) := by decide +kernel
theorem dX8_wholeValue_26 : decode cX8_wholeValue 26 = .ok (.lconst 1, 1) := by decide +kernel
theorem dX8_wholeValue_27 : decode cX8_wholeValue 27 = .ok (.land, 1) := by decide +kernel
theorem dX8_wholeValue_28 : decode cX8_wholeValue 28 = .ok (.lconst 1, 1) := by decide +kernel
theorem dX8_wholeValue_29 : decode cX8_wholeValue 29 = .ok (.lcmp, 1) := by decide +kernel
theorem dX8_wholeValue_30 : decode cX8_wholeValue 30 = .ok (.ifCond .ne 7, 3) := by decide +kernel
theorem dX8_wholeValue_33 : decode cX8_wholeValue 33 = .ok (.iconst 1, 1) := by decide +kernel
theorem dX8_wholeValue_34 : decode cX8_wholeValue 34 = .ok (.goto 4, 3) := by decide +kernel
theorem dX8_wholeValue_37 : decode cX8_wholeValue 37 = .ok (.iconst 0, 1) := by decide +kernel
theorem dX8_wholeValue_38 : decode cX8_wholeValue 38 = .ok (.iadd, 1) := by decide +kernel
theorem dX8_wholeValue_39 : decode cX8_wholeValue 39 = .ok (.istore_n 2, 1) := by decide +kernel
theorem dX8_wholeValue_40 : decode cX8_wholeValue 40 = .ok (.iload_n 3, 1) := by decide +kernel
theorem dX8_wholeValue_41 : decode cX8_wholeValue 41 = .ok (.aload_n 0, 1) := by decide +kernel
theorem dX8_wholeValue_42 : decode cX8_wholeValue 42 = .ok (.getfield 7, 3) := by decide +kernel
theorem dX8_wholeValue_45 : decode cX8_wholeValue 45 = .ok (.bipush 8, 2) := by decide +kernel
theorem dX8_wholeValue_47 : decode cX8_wholeValue 47 = .ok (.iload 6, 2) := by decide +kernel
theorem dX8_wholeValue_49 : decode cX8_wholeValue 49 = .ok (.iadd, 1) := by decide +kernel
theorem dX8_wholeValue_50 : decode cX8_wholeValue 50 = .ok (.iaload, 1) := by decide +kernel
theorem dX8_wholeValue_51 : decode cX8_wholeValue 51 = .ok (.iadd, 1) := by decide +kernel
theorem dX8_wholeValue_52 : decode cX8_wholeValue 52 = .ok (.istore_n 3, 1) := by decide +kernel
theorem dX8_wholeValue_53 : decode cX8_wholeValue 53 = .ok (.iinc 6 1, 3) := by decide +kernel
theorem dX8_wholeValue_56 : decode cX8_wholeValue 56 = .ok (.goto (-43), 3) := by decide +kernel
theorem dX8_wholeValue_59 : decode cX8_wholeValue 59 = .ok (.iload_n 1, 1) := by decide +kernel
theorem dX8_wholeValue_60 : decode cX8_wholeValue 60 = .ok (.tableswitch 142 0 13 #[72, 79, 86, 86, 86, 86, 94, 101, 108, 115, 117, 124, 132, 140], 72) := by decide +kernel
theorem dX8_wholeValue_132 : decode cX8_wholeValue 132 = .ok (.aload_n 0, 1) := by decide +kernel
theorem dX8_wholeValue_133 : decode cX8_wholeValue 133 = .ok (.getfield 7, 3) := by decide +kernel
theorem dX8_wholeValue_136 : decode cX8_wholeValue 136 = .ok (.iconst 3, 1) := by decide +kernel
theorem dX8_wholeValue_137 : decode cX8_wholeValue 137 = .ok (.iaload, 1) := by decide +kernel
theorem dX8_wholeValue_138 : decode cX8_wholeValue 138 = .ok (.ireturn, 1) := by decide +kernel
theorem dX8_wholeValue_139 : decode cX8_wholeValue 139 = .ok (.aload_n 0, 1) := by decide +kernel
theorem dX8_wholeValue_140 : decode cX8_wholeValue 140 = .ok (.getfield 7, 3) := by decide +kernel
theorem dX8_wholeValue_143 : decode cX8_wholeValue 143 = .ok (.iconst 4, 1) := by decide +kernel
theorem dX8_wholeValue_144 : decode cX8_wholeValue 144 = .ok (.iaload, 1) := by decide +kernel
theorem dX8_wholeValue_145 : decode cX8_wholeValue 145 = .ok (.ireturn, 1) := by decide +kernel
theorem dX8_wholeValue_146 : decode cX8_wholeValue 146 = .ok (.aload_n 0, 1) := by decide +kernel
theorem dX8_wholeValue_147 : decode cX8_wholeValue 147 = .ok (.iload_n 1, 1) := by decide +kernel
theorem dX8_wholeValue_148 : decode cX8_wholeValue 148 = .ok (.iconst 2, 1) := by decide +kernel
theorem dX8_wholeValue_149 : decode cX8_wholeValue 149 = .ok (.isub, 1) := by decide +kernel
theorem dX8_wholeValue_150 : decode cX8_wholeValue 150 = .ok (.invokevirtual 135, 3) := by decide +kernel
theorem dX8_wholeValue_153 : decode cX8_wholeValue 153 = .ok (.ireturn, 1) := by decide +kernel
theorem dX8_wholeValue_154 : decode cX8_wholeValue 154 = .ok (.aload_n 0, 1) := by decide +kernel
theorem dX8_wholeValue_155 : decode cX8_wholeValue 155 = .ok (.getfield 7, 3) := by decide +kernel
theorem dX8_wholeValue_158 : decode cX8_wholeValue 158 = .ok (.iconst 1, 1) := by decide +kernel
theorem dX8_wholeValue_159 : decode cX8_wholeValue 159 = .ok (.iaload, 1) := by decide +kernel
theorem dX8_wholeValue_160 : decode cX8_wholeValue 160 = .ok (.ireturn, 1) := by decide +kernel
theorem dX8_wholeValue_161 : decode cX8_wholeValue 161 = .ok (.aload_n 0, 1) := by decide +kernel
theorem dX8_wholeValue_162 : decode cX8_wholeValue 162 = .ok (.getfield 7, 3) := by decide +kernel
theorem dX8_wholeValue_165 : decode cX8_wholeValue 165 = .ok (.iconst 2, 1) := by decide +kernel
theorem dX8_wholeValue_166 : decode cX8_wholeValue 166 = .ok (.iaload, 1) := by decide +kernel
theorem dX8_wholeValue_167 : decode cX8_wholeValue 167 = .ok (.ireturn, 1) := by decide +kernel
theorem dX8_wholeValue_168 : decode cX8_wholeValue 168 = .ok (.aload_n 0, 1) := by decide +kernel
theorem dX8_wholeValue_169 : decode cX8_wholeValue 169 = .ok (.getfield 7, 3) := by decide +kernel
theorem dX8_wholeValue_172 : decode cX8_wholeValue 172 = .ok (.iconst 0, 1) := by decide +kernel
theorem dX8_wholeValue_173 : decode cX8_wholeValue 173 = .ok (.iaload, 1) := by decide +kernel
theorem dX8_wholeValue_174 : decode cX8_wholeValue 174 = .ok (.ireturn, 1) := by decide +kernel
theorem dX8_wholeValue_175 : decode cX8_wholeValue 175 = .ok (.iload_n 2, 1) := by decide +kernel
theorem dX8_wholeValue_176 : decode cX8_wholeValue 176 = .ok (.ireturn, 1) := by decide +kernel
theorem dX8_wholeValue_177 : decode cX8_wholeValue 177 = .ok (.aload_n 0, 1) := by decide +kernel
theorem dX8_wholeValue_178 : decode cX8_wholeValue 178 = .ok (.getfield 7, 3) := by decide +kernel
theorem dX8_wholeValue_181 : decode cX8_wholeValue 181 = .ok (.iconst 5, 1) := by decide +kernel
theorem dX8_wholeValue_182 : decode cX8_wholeValue 182 = .ok (.iaload, 1) := by decide +kernel
theorem dX8_wholeValue_183 : decode cX8_wholeValue 183 = .ok (.ireturn, 1) := by decide +kernel
theorem dX8_wholeValue_184 : decode cX8_wholeValue 184 = .ok (.aload_n 0, 1) := by decide +kernel
theorem dX8_wholeValue_185 : decode cX8_wholeValue 185 = .ok (.getfield 7, 3) := by decide +kernel
theorem dX8_wholeValue_188 : decode cX8_wholeValue 188 = .ok (.bipush 6, 2) := by decide +kernel
theorem dX8_wholeValue_190 : decode cX8_wholeValue 190 = .ok (.iaload, 1) := by decide +kernel
theorem dX8_wholeValue_191 : decode cX8_wholeValue 191 = .ok (.ireturn, 1) := by decide +kernel
theorem dX8_wholeValue_192 : decode cX8_wholeValue 192 = .ok (.aload_n 0, 1) := by decide +kernel
theorem dX8_wholeValue_193 : decode cX8_wholeValue 193 = .ok (.getfield 7, 3) := by decide +kernel
theorem dX8_wholeValue_196 : decode cX8_wholeValue 196 = .ok (.bipush 7, 2) := by decide +kernel
theorem dX8_wholeValue_198 : decode cX8_wholeValue 198 = .ok (.iaload, 1) := by decide +kernel
theorem dX8_wholeValue_199 : decode cX8_wholeValue 199 = .ok (.ireturn, 1) := by decide +kernel
theorem dX8_wholeValue_200 : decode cX8_wholeValue 200 = .ok (.iload_n 3, 1) := by decide +kernel
theorem dX8_wholeValue_201 : decode cX8_wholeValue 201 = .ok (.ireturn, 1) := by decide +kernel
theorem dX8_wholeValue_202 : decode cX8_wholeValue 202 = .ok (.aload_n 0, 1) := by decide +kernel
theorem dX8_wholeValue_203 : decode cX8_wholeValue 203 = .ok (.getfield 170, 3) := by decide +kernel
theorem dX8_wholeValue_206 : decode cX8_wholeValue 206 = .ok (.ireturn, 1) := by decide +kernel
set_option maxRecDepth 20000 in
theorem ggX8_whole_X8_within : GoodIn wsX8_whole wsX8_within := goodIn_r _ [5] (by decide +kernel) (by decide +kernel)
set_option maxRecDepth 20000 in
theorem gX8_whole_X8_within : GoodIn wsX8_whole (va_wsS RX8 39 yX8_within wsX8_within) := goodIn_app (goodIn_of _ (by decide +kernel)) ggX8_whole_X8_within
set_option maxRecDepth 20000 in
theorem ggX8_whole_X8_wholeValue : GoodIn wsX8_whole wsX8_wholeValue := goodIn_r _ [9, 10, 11, 12, 13, 14, 4, 15, 16, 17, 18, 19, 20, 21, 22, 23, 24, 25, 26, 27, 28, 29, 30, 31, 32, 33, 34, 35, 36, 37, 38, 39, 40, 41, 42, 43, 44, 45, 46, 47, 48, 49, 50] (by decide +kernel) (by decide +kernel)
set_option maxRecDepth 20000 in
theorem gX8_whole_X8_wholeValue : GoodIn wsX8_whole (wsV RX8 173 RX8 yX8_wholeValue wsX8_wholeValue) := goodIn_app (goodIn_of _ (by decide +kernel)) ggX8_whole_X8_wholeValue
theorem dX8_whole_0 : decode cX8_whole 0 = .ok (.aload_n 0, 1) := by decide +kernel
theorem dX8_whole_1 : decode cX8_whole 1 = .ok (.iload_n 1, 1) := by decide +kernel
theorem dX8_whole_2 : decode cX8_whole 2 = .ok (.iconst 0, 1) := by decide +kernel
theorem dX8_whole_3 : decode cX8_whole 3 = .ok (.bipush 14, 2) := by decide +kernel
theorem dX8_whole_5 : decode cX8_whole 5 = .ok (.invokestatic 39, 3) := by decide +kernel
theorem dX8_whole_8 : decode cX8_whole 8 = .ok (.ifCond .eq 7, 3) := by decide +kernel
theorem dX8_whole_11 : decode cX8_whole 11 = .ok (.iconst 0, 1) := by decide +kernel
theorem dX8_whole_12 : decode cX8_whole 12 = .ok (.goto 4, 3) := by decide +kernel
theorem dX8_whole_15 : decode cX8_whole 15 = .ok (.iconst 1, 1) := by decide +kernel
theorem dX8_whole_16 : decode cX8_whole 16 = .ok (.putfield 28, 3) := by decide +kernel
theorem dX8_whole_19 : decode cX8_whole 19 = .ok (.aload_n 0, 1) := by decide +kernel
theorem dX8_whole_20 : decode cX8_whole 20 = .ok (.getfield 28, 3) := by decide +kernel
theorem dX8_whole_23 : decode cX8_whole 23 = .ok (.ifCond .le 7, 3) := by decide +kernel
theorem dX8_whole_26 : decode cX8_whole 26 = .ok (.iconst 0, 1) := by decide +kernel
theorem dX8_whole_27 : decode cX8_whole 27 = .ok (.goto 8, 3) := by decide +kernel
theorem dX8_whole_30 : decode cX8_whole 30 = .ok (.aload_n 0, 1) := by decide +kernel
theorem dX8_whole_31 : decode cX8_whole 31 = .ok (.iload_n 1, 1) := by decide +kernel
theorem dX8_whole_32 : decode cX8_whole 32 = .ok (.invokevirtual 173, 3) := by decide +kernel
theorem dX8_whole_35 : decode cX8_whole 35 = .ok (.ireturn, 1) := by decide +kernel
set_option maxRecDepth 20000 in
theorem ggX8_reason_X8_isCell : GoodIn wsX8_reason wsX8_isCell := goodIn_r _ [6, 7, 8, 5, 9] (by decide +kernel) (by decide +kernel)
set_option maxRecDepth 20000 in
theorem gX8_reason_X8_isCell : GoodIn wsX8_reason (wsV RX8 43 RX8 yX8_isCell wsX8_isCell) := goodIn_app (goodIn_of _ (by decide +kernel)) ggX8_reason_X8_isCell
set_option maxRecDepth 20000 in
theorem ggX8_reason_X8_reasonOf : GoodIn wsX8_reason wsX8_reasonOf := goodIn_r _ [13, 14, 15, 16, 17, 5, 18, 19, 20, 21, 22, 23, 24, 25, 26, 27, 28, 29, 30, 31, 32, 33, 34, 35, 36, 37, 38, 39, 40, 41, 42, 43, 44, 45, 46, 47, 48, 49, 50, 51, 52, 53] (by decide +kernel) (by decide +kernel)
set_option maxRecDepth 20000 in
theorem gX8_reason_X8_reasonOf : GoodIn wsX8_reason (wsV RX8 89 RX8 yX8_reasonOf wsX8_reasonOf) := goodIn_app (goodIn_of _ (by decide +kernel)) ggX8_reason_X8_reasonOf
theorem dX8_reason_0 : decode cX8_reason 0 = .ok (.aload_n 0, 1) := by decide +kernel
theorem dX8_reason_1 : decode cX8_reason 1 = .ok (.aload_n 0, 1) := by decide +kernel
theorem dX8_reason_2 : decode cX8_reason 2 = .ok (.iload_n 1, 1) := by decide +kernel
theorem dX8_reason_3 : decode cX8_reason 3 = .ok (.invokevirtual 43, 3) := by decide +kernel
theorem dX8_reason_6 : decode cX8_reason 6 = .ok (.ifCond .eq 7, 3) := by decide +kernel
theorem dX8_reason_9 : decode cX8_reason 9 = .ok (.iconst 0, 1) := by decide +kernel
theorem dX8_reason_10 : decode cX8_reason 10 = .ok (.goto 4, 3) := by decide +kernel
theorem dX8_reason_13 : decode cX8_reason 13 = .ok (.iconst 1, 1) := by decide +kernel
theorem dX8_reason_14 : decode cX8_reason 14 = .ok (.putfield 28, 3) := by decide +kernel
theorem dX8_reason_17 : decode cX8_reason 17 = .ok (.aload_n 0, 1) := by decide +kernel
theorem dX8_reason_18 : decode cX8_reason 18 = .ok (.getfield 28, 3) := by decide +kernel
theorem dX8_reason_21 : decode cX8_reason 21 = .ok (.ifCond .le 7, 3) := by decide +kernel
theorem dX8_reason_24 : decode cX8_reason 24 = .ok (.iconst 0, 1) := by decide +kernel
theorem dX8_reason_25 : decode cX8_reason 25 = .ok (.goto 8, 3) := by decide +kernel
theorem dX8_reason_28 : decode cX8_reason 28 = .ok (.aload_n 0, 1) := by decide +kernel
theorem dX8_reason_29 : decode cX8_reason 29 = .ok (.iload_n 1, 1) := by decide +kernel
theorem dX8_reason_30 : decode cX8_reason 30 = .ok (.invokevirtual 89, 3) := by decide +kernel
theorem dX8_reason_33 : decode cX8_reason 33 = .ok (.ireturn, 1) := by decide +kernel
set_option maxRecDepth 20000 in
theorem ggX8_waitsFor_X8_isMove : GoodIn wsX8_waitsFor wsX8_isMove := goodIn_r _ [6, 7, 8, 9, 5, 10, 43, 44, 45, 46, 47, 48, 49, 50, 51, 52, 53] (by decide +kernel) (by decide +kernel)
set_option maxRecDepth 20000 in
theorem gX8_waitsFor_X8_isMove : GoodIn wsX8_waitsFor (wsV RX8 157 RX8 yX8_isMove wsX8_isMove) := goodIn_app (goodIn_of _ (by decide +kernel)) ggX8_waitsFor_X8_isMove
set_option maxRecDepth 20000 in
theorem ggX8_waitsFor_X8_waitsOf : GoodIn wsX8_waitsFor wsX8_waitsOf := goodIn_r _ [14, 15, 16, 17, 5, 18, 7, 19, 20, 21, 22, 23, 24, 25, 26, 27, 28, 29, 30, 31, 32, 33, 34, 35, 36, 37, 38, 39, 40, 41, 42, 43, 44, 45, 46, 47, 48, 49, 50, 51, 52, 53] (by decide +kernel) (by decide +kernel)
set_option maxRecDepth 20000 in
theorem gX8_waitsFor_X8_waitsOf : GoodIn wsX8_waitsFor (wsV RX8 132 RX8 yX8_waitsOf wsX8_waitsOf) := goodIn_app (goodIn_of _ (by decide +kernel)) ggX8_waitsFor_X8_waitsOf
theorem dX8_waitsFor_0 : decode cX8_waitsFor 0 = .ok (.aload_n 0, 1) := by decide +kernel
theorem dX8_waitsFor_1 : decode cX8_waitsFor 1 = .ok (.aload_n 0, 1) := by decide +kernel
theorem dX8_waitsFor_2 : decode cX8_waitsFor 2 = .ok (.iload_n 1, 1) := by decide +kernel
theorem dX8_waitsFor_3 : decode cX8_waitsFor 3 = .ok (.invokevirtual 157, 3) := by decide +kernel
theorem dX8_waitsFor_6 : decode cX8_waitsFor 6 = .ok (.ifCond .eq 7, 3) := by decide +kernel
theorem dX8_waitsFor_9 : decode cX8_waitsFor 9 = .ok (.iconst 0, 1) := by decide +kernel
theorem dX8_waitsFor_10 : decode cX8_waitsFor 10 = .ok (.goto 4, 3) := by decide +kernel
theorem dX8_waitsFor_13 : decode cX8_waitsFor 13 = .ok (.iconst 1, 1) := by decide +kernel
theorem dX8_waitsFor_14 : decode cX8_waitsFor 14 = .ok (.putfield 28, 3) := by decide +kernel
theorem dX8_waitsFor_17 : decode cX8_waitsFor 17 = .ok (.aload_n 0, 1) := by decide +kernel
theorem dX8_waitsFor_18 : decode cX8_waitsFor 18 = .ok (.getfield 28, 3) := by decide +kernel
theorem dX8_waitsFor_21 : decode cX8_waitsFor 21 = .ok (.ifCond .le 7, 3) := by decide +kernel
theorem dX8_waitsFor_24 : decode cX8_waitsFor 24 = .ok (.iconst 0, 1) := by decide +kernel
theorem dX8_waitsFor_25 : decode cX8_waitsFor 25 = .ok (.goto 8, 3) := by decide +kernel
theorem dX8_waitsFor_28 : decode cX8_waitsFor 28 = .ok (.aload_n 0, 1) := by decide +kernel
theorem dX8_waitsFor_29 : decode cX8_waitsFor 29 = .ok (.iload_n 1, 1) := by decide +kernel
theorem dX8_waitsFor_30 : decode cX8_waitsFor 30 = .ok (.invokevirtual 132, 3) := by decide +kernel
theorem dX8_waitsFor_33 : decode cX8_waitsFor 33 = .ok (.ireturn, 1) := by decide +kernel
set_option maxRecDepth 20000 in
theorem ggX8_depthOf_X8_waitsOf : GoodIn wsX8_depthOf wsX8_waitsOf := goodIn_r _ [6, 7, 8, 9, 5, 10, 11, 12, 13, 14, 15, 16, 17, 18, 19, 20, 21, 22, 23, 24, 25, 26, 27, 28, 29, 30, 31, 32, 33, 34, 35, 36, 37, 38, 39, 40, 41, 42, 43, 44, 45, 46] (by decide +kernel) (by decide +kernel)
set_option maxRecDepth 20000 in
theorem gX8_depthOf_X8_waitsOf : GoodIn wsX8_depthOf (wsV RX8 132 RX8 yX8_waitsOf wsX8_waitsOf) := goodIn_app (goodIn_of _ (by decide +kernel)) ggX8_depthOf_X8_waitsOf
theorem dX8_depthOf_0 : decode cX8_depthOf 0 = .ok (.iconst 0, 1) := by decide +kernel
theorem dX8_depthOf_1 : decode cX8_depthOf 1 = .ok (.istore_n 2, 1) := by decide +kernel
theorem dX8_depthOf_2 : decode cX8_depthOf 2 = .ok (.iload_n 2, 1) := by decide +kernel
theorem dX8_depthOf_3 : decode cX8_depthOf 3 = .ok (.iload_n 1, 1) := by decide +kernel
theorem dX8_depthOf_4 : decode cX8_depthOf 4 = .ok (.if_icmp .gt 90, 3) := by decide +kernel
theorem dX8_depthOf_7 : decode cX8_depthOf 7 = .ok (.aload_n 0, 1) := by decide +kernel
theorem dX8_depthOf_8 : decode cX8_depthOf 8 = .ok (.iload_n 2, 1) := by decide +kernel
theorem dX8_depthOf_9 : decode cX8_depthOf 9 = .ok (.invokevirtual 132, 3) := by decide +kernel
theorem dX8_depthOf_12 : decode cX8_depthOf 12 = .ok (.istore_n 3, 1) := by decide +kernel
theorem dX8_depthOf_13 : decode cX8_depthOf 13 = .ok (.aload_n 0, 1) := by decide +kernel
theorem dX8_depthOf_14 : decode cX8_depthOf 14 = .ok (.getfield 25, 3) := by decide +kernel
theorem dX8_depthOf_17 : decode cX8_depthOf 17 = .ok (.iload_n 2, 1) := by decide +kernel
theorem dX8_depthOf_18 : decode cX8_depthOf 18 = .ok (.iconst 0, 1) := by decide +kernel
theorem dX8_depthOf_19 : decode cX8_depthOf 19 = .ok (.iastore, 1) := by decide +kernel
theorem dX8_depthOf_20 : decode cX8_depthOf 20 = .ok (.iconst 0, 1) := by decide +kernel
theorem dX8_depthOf_21 : decode cX8_depthOf 21 = .ok (.istore 4, 2) := by decide +kernel
theorem dX8_depthOf_23 : decode cX8_depthOf 23 = .ok (.iload 4, 2) := by decide +kernel
theorem dX8_depthOf_25 : decode cX8_depthOf 25 = .ok (.iload_n 2, 1) := by decide +kernel
theorem dX8_depthOf_26 : decode cX8_depthOf 26 = .ok (.if_icmp .ge 62, 3) := by decide +kernel
theorem dX8_depthOf_29 : decode cX8_depthOf 29 = .ok (.iload_n 3, 1) := by decide +kernel
theorem dX8_depthOf_30 : decode cX8_depthOf 30 = .ok (.iload 4, 2) := by decide +kernel
theorem dX8_depthOf_32 : decode cX8_depthOf 32 = .ok (.ishr, 1) := by decide +kernel
theorem dX8_depthOf_33 : decode cX8_depthOf 33 = .ok (.iconst 1, 1) := by decide +kernel
theorem dX8_depthOf_34 : decode cX8_depthOf 34 = .ok (.iand, 1) := by decide +kernel
theorem dX8_depthOf_35 : decode cX8_depthOf 35 = .ok (.iconst 1, 1) := by decide +kernel
theorem dX8_depthOf_36 : decode cX8_depthOf 36 = .ok (.if_icmp .ne 15, 3) := by decide +kernel
theorem dX8_depthOf_39 : decode cX8_depthOf 39 = .ok (.aload_n 0, 1) := by decide +kernel
theorem dX8_depthOf_40 : decode cX8_depthOf 40 = .ok (.getfield 25, 3) := by decide +kernel
theorem dX8_depthOf_43 : decode cX8_depthOf 43 = .ok (.iload 4, 2) := by decide +kernel
theorem dX8_depthOf_45 : decode cX8_depthOf 45 = .ok (.iaload, 1) := by decide +kernel
theorem dX8_depthOf_46 : decode cX8_depthOf 46 = .ok (.iconst 1, 1) := by decide +kernel
theorem dX8_depthOf_47 : decode cX8_depthOf 47 = .ok (.iadd, 1) := by decide +kernel
theorem dX8_depthOf_48 : decode cX8_depthOf 48 = .ok (.goto 4, 3) := by decide +kernel
theorem dX8_depthOf_51 : decode cX8_depthOf 51 = .ok (.iconst 0, 1) := by decide +kernel
theorem dX8_depthOf_52 : decode cX8_depthOf 52 = .ok (.istore 5, 2) := by decide +kernel
theorem dX8_depthOf_54 : decode cX8_depthOf 54 = .ok (.aload_n 0, 1) := by decide +kernel
theorem dX8_depthOf_55 : decode cX8_depthOf 55 = .ok (.getfield 25, 3) := by decide +kernel
theorem dX8_depthOf_58 : decode cX8_depthOf 58 = .ok (.iload_n 2, 1) := by decide +kernel
theorem dX8_depthOf_59 : decode cX8_depthOf 59 = .ok (.iload 5, 2) := by decide +kernel
theorem dX8_depthOf_61 : decode cX8_depthOf 61 = .ok (.aload_n 0, 1) := by decide +kernel
theorem dX8_depthOf_62 : decode cX8_depthOf 62 = .ok (.getfield 25, 3) := by decide +kernel
theorem dX8_depthOf_65 : decode cX8_depthOf 65 = .ok (.iload_n 2, 1) := by decide +kernel
theorem dX8_depthOf_66 : decode cX8_depthOf 66 = .ok (.iaload, 1) := by decide +kernel
theorem dX8_depthOf_67 : decode cX8_depthOf 67 = .ok (.if_icmp .le 8, 3) := by decide +kernel
theorem dX8_depthOf_70 : decode cX8_depthOf 70 = .ok (.iload 5, 2) := by decide +kernel
theorem dX8_depthOf_72 : decode cX8_depthOf 72 = .ok (.goto 9, 3) := by decide +kernel
theorem dX8_depthOf_75 : decode cX8_depthOf 75 = .ok (.aload_n 0, 1) := by decide +kernel
theorem dX8_depthOf_76 : decode cX8_depthOf 76 = .ok (.getfield 25, 3) := by decide +kernel
theorem dX8_depthOf_79 : decode cX8_depthOf 79 = .ok (.iload_n 2, 1) := by decide +kernel
theorem dX8_depthOf_80 : decode cX8_depthOf 80 = .ok (.iaload, 1) := by decide +kernel
theorem dX8_depthOf_81 : decode cX8_depthOf 81 = .ok (.iastore, 1) := by decide +kernel
theorem dX8_depthOf_82 : decode cX8_depthOf 82 = .ok (.iinc 4 1, 3) := by decide +kernel
theorem dX8_depthOf_85 : decode cX8_depthOf 85 = .ok (.goto (-62), 3) := by decide +kernel
theorem dX8_depthOf_88 : decode cX8_depthOf 88 = .ok (.iinc 2 1, 3) := by decide +kernel
theorem dX8_depthOf_91 : decode cX8_depthOf 91 = .ok (.goto (-89), 3) := by decide +kernel
theorem dX8_depthOf_94 : decode cX8_depthOf 94 = .ok (.aload_n 0, 1) := by decide +kernel
theorem dX8_depthOf_95 : decode cX8_depthOf 95 = .ok (.getfield 25, 3) := by decide +kernel
theorem dX8_depthOf_98 : decode cX8_depthOf 98 = .ok (.iload_n 1, 1) := by decide +kernel
theorem dX8_depthOf_99 : decode cX8_depthOf 99 = .ok (.iaload, 1) := by decide +kernel
theorem dX8_depthOf_100 : decode cX8_depthOf 100 = .ok (.ireturn, 1) := by decide +kernel
set_option maxRecDepth 20000 in
theorem ggX8_depth_X8_isMove : GoodIn wsX8_depth wsX8_isMove := goodIn_r _ [6, 7, 8, 9, 5, 10, 48, 49, 50, 51, 52, 53, 54, 55, 56, 57, 58] (by decide +kernel) (by decide +kernel)
set_option maxRecDepth 20000 in
theorem gX8_depth_X8_isMove : GoodIn wsX8_depth (wsV RX8 157 RX8 yX8_isMove wsX8_isMove) := goodIn_app (goodIn_of _ (by decide +kernel)) ggX8_depth_X8_isMove
set_option maxRecDepth 20000 in
theorem ggX8_depth_X8_depthOf : GoodIn wsX8_depth wsX8_depthOf := goodIn_r _ [14, 15, 16, 17, 18, 5, 19, 20, 21, 22, 23, 7, 24, 25, 26, 27, 28, 29, 30, 31, 32, 33, 34, 35, 36, 37, 38, 39, 40, 41, 42, 43, 44, 45, 46, 47, 48, 49, 50, 51, 52, 53, 54, 55, 56, 57, 58] (by decide +kernel) (by decide +kernel)
set_option maxRecDepth 20000 in
theorem gX8_depth_X8_depthOf : GoodIn wsX8_depth (wsV RX8 176 RX8 yX8_depthOf wsX8_depthOf) := goodIn_app (goodIn_of _ (by decide +kernel)) ggX8_depth_X8_depthOf
theorem dX8_depth_0 : decode cX8_depth 0 = .ok (.aload_n 0, 1) := by decide +kernel
theorem dX8_depth_1 : decode cX8_depth 1 = .ok (.aload_n 0, 1) := by decide +kernel
theorem dX8_depth_2 : decode cX8_depth 2 = .ok (.iload_n 1, 1) := by decide +kernel
theorem dX8_depth_3 : decode cX8_depth 3 = .ok (.invokevirtual 157, 3) := by decide +kernel
theorem dX8_depth_6 : decode cX8_depth 6 = .ok (.ifCond .eq 7, 3) := by decide +kernel
theorem dX8_depth_9 : decode cX8_depth 9 = .ok (.iconst 0, 1) := by decide +kernel
theorem dX8_depth_10 : decode cX8_depth 10 = .ok (.goto 4, 3) := by decide +kernel
theorem dX8_depth_13 : decode cX8_depth 13 = .ok (.iconst 1, 1) := by decide +kernel
theorem dX8_depth_14 : decode cX8_depth 14 = .ok (.putfield 28, 3) := by decide +kernel
theorem dX8_depth_17 : decode cX8_depth 17 = .ok (.aload_n 0, 1) := by decide +kernel
theorem dX8_depth_18 : decode cX8_depth 18 = .ok (.getfield 28, 3) := by decide +kernel
theorem dX8_depth_21 : decode cX8_depth 21 = .ok (.ifCond .le 7, 3) := by decide +kernel
theorem dX8_depth_24 : decode cX8_depth 24 = .ok (.iconst 0, 1) := by decide +kernel
theorem dX8_depth_25 : decode cX8_depth 25 = .ok (.goto 8, 3) := by decide +kernel
theorem dX8_depth_28 : decode cX8_depth 28 = .ok (.aload_n 0, 1) := by decide +kernel
theorem dX8_depth_29 : decode cX8_depth 29 = .ok (.iload_n 1, 1) := by decide +kernel
theorem dX8_depth_30 : decode cX8_depth 30 = .ok (.invokevirtual 176, 3) := by decide +kernel
theorem dX8_depth_33 : decode cX8_depth 33 = .ok (.ireturn, 1) := by decide +kernel
set_option maxRecDepth 20000 in
theorem ggX8_finish_X8_movePart : GoodIn wsX8_finish wsX8_movePart := goodIn_r _ [6, 1, 31, 32, 33, 34, 35, 36, 37, 38, 39, 40, 41] (by decide +kernel) (by decide +kernel)
set_option maxRecDepth 20000 in
theorem gX8_finish_X8_movePart : GoodIn wsX8_finish (wsV RX8 70 RX8 yX8_movePart wsX8_movePart) := goodIn_app (goodIn_of _ (by decide +kernel)) ggX8_finish_X8_movePart
set_option maxRecDepth 20000 in
theorem ggX8_finish_X8_startMove : GoodIn wsX8_finish wsX8_startMove := goodIn_r _ [10, 1, 11, 12, 13, 5, 14, 2, 3, 4, 6, 15, 16, 17, 18, 19, 20, 21, 22, 31, 32, 33, 34, 35, 36, 37, 38, 39, 40, 41] (by decide +kernel) (by decide +kernel)
set_option maxRecDepth 20000 in
theorem gX8_finish_X8_startMove : GoodIn wsX8_finish (wsV RX8 138 RX8 yX8_startMove wsX8_startMove) := goodIn_app (goodIn_of _ (by decide +kernel)) ggX8_finish_X8_startMove
set_option maxRecDepth 20000 in
theorem ggX8_finish_X8_writesOn : GoodIn wsX8_finish wsX8_writesOn := goodIn_r _ [26, 1, 2, 3, 4, 5, 6, 27, 28, 29, 30, 19, 20, 21, 22, 11, 12, 13, 14, 31, 32, 33, 34, 35, 36, 37, 38, 39, 40, 41] (by decide +kernel) (by decide +kernel)
set_option maxRecDepth 20000 in
theorem gX8_finish_X8_writesOn : GoodIn wsX8_finish (wsV RX8 141 RX8 yX8_writesOn wsX8_writesOn) := goodIn_app (goodIn_of _ (by decide +kernel)) ggX8_finish_X8_writesOn
theorem dX8_finish_0 : decode cX8_finish 0 = .ok (.iconst 0, 1) := by decide +kernel
theorem dX8_finish_1 : decode cX8_finish 1 = .ok (.istore_n 1, 1) := by decide +kernel
theorem dX8_finish_2 : decode cX8_finish 2 = .ok (.iload_n 1, 1) := by decide +kernel
theorem dX8_finish_3 : decode cX8_finish 3 = .ok (.aload_n 0, 1) := by decide +kernel
theorem dX8_finish_4 : decode cX8_finish 4 = .ok (.getfield 7, 3) := by decide +kernel
theorem dX8_finish_7 : decode cX8_finish 7 = .ok (.iconst 4, 1) := by decide +kernel
theorem dX8_finish_8 : decode cX8_finish 8 = .ok (.iaload, 1) := by decide +kernel
theorem dX8_finish_9 : decode cX8_finish 9 = .ok (.if_icmp .ge 41, 3) := by decide +kernel
theorem dX8_finish_12 : decode cX8_finish 12 = .ok (.aload_n 0, 1) := by decide +kernel
theorem dX8_finish_13 : decode cX8_finish 13 = .ok (.iload_n 1, 1) := by decide +kernel
theorem dX8_finish_14 : decode cX8_finish 14 = .ok (.iconst 5, 1) := by decide +kernel
theorem dX8_finish_15 : decode cX8_finish 15 = .ok (.invokevirtual 70, 3) := by decide +kernel
theorem dX8_finish_18 : decode cX8_finish 18 = .ok (.ifCond .ne 8, 3) := by decide +kernel
theorem dX8_finish_21 : decode cX8_finish 21 = .ok (.aload_n 0, 1) := by decide +kernel
theorem dX8_finish_22 : decode cX8_finish 22 = .ok (.iload_n 1, 1) := by decide +kernel
theorem dX8_finish_23 : decode cX8_finish 23 = .ok (.invokevirtual 138, 3) := by decide +kernel
theorem dX8_finish_26 : decode cX8_finish 26 = .ok (.aload_n 0, 1) := by decide +kernel
theorem dX8_finish_27 : decode cX8_finish 27 = .ok (.iload_n 1, 1) := by decide +kernel
theorem dX8_finish_28 : decode cX8_finish 28 = .ok (.iconst 5, 1) := by decide +kernel
theorem dX8_finish_29 : decode cX8_finish 29 = .ok (.invokevirtual 70, 3) := by decide +kernel
theorem dX8_finish_32 : decode cX8_finish 32 = .ok (.iconst 1, 1) := by decide +kernel
theorem dX8_finish_33 : decode cX8_finish 33 = .ok (.if_icmp .ne 11, 3) := by decide +kernel
theorem dX8_finish_36 : decode cX8_finish 36 = .ok (.aload_n 0, 1) := by decide +kernel
theorem dX8_finish_37 : decode cX8_finish 37 = .ok (.iload_n 1, 1) := by decide +kernel
theorem dX8_finish_38 : decode cX8_finish 38 = .ok (.bipush 16, 2) := by decide +kernel
theorem dX8_finish_40 : decode cX8_finish 40 = .ok (.invokevirtual 141, 3) := by decide +kernel
theorem dX8_finish_43 : decode cX8_finish 43 = .ok (.pop, 1) := by decide +kernel
theorem dX8_finish_44 : decode cX8_finish 44 = .ok (.iinc 1 1, 3) := by decide +kernel
theorem dX8_finish_47 : decode cX8_finish 47 = .ok (.goto (-45), 3) := by decide +kernel
theorem dX8_finish_50 : decode cX8_finish 50 = .ok (.return_, 1) := by decide +kernel
set_option maxRecDepth 20000 in
theorem ggX8_finalValue_X8_isCell : GoodIn wsX8_finalValue wsX8_isCell := goodIn_r _ [8, 9, 10, 7, 11] (by decide +kernel) (by decide +kernel)
set_option maxRecDepth 20000 in
theorem gX8_finalValue_X8_isCell : GoodIn wsX8_finalValue (wsV RX8 43 RX8 yX8_isCell wsX8_isCell) := goodIn_app (goodIn_of _ (by decide +kernel)) ggX8_finalValue_X8_isCell
set_option maxRecDepth 20000 in
theorem ggX8_finalValue_X8_copy : GoodIn wsX8_finalValue wsX8_copy := goodIn_r _ [14] (by decide +kernel) (by decide +kernel)
set_option maxRecDepth 20000 in
theorem gX8_finalValue_X8_copy : GoodIn wsX8_finalValue (va_wsS RX8 35 yX8_copy wsX8_copy) := goodIn_app (goodIn_of _ (by decide +kernel)) ggX8_finalValue_X8_copy
set_option maxRecDepth 20000 in
theorem ggX8_finalValue_X8_finish : GoodIn wsX8_finalValue wsX8_finish := goodIn_r _ [18, 2, 19, 20, 21, 7, 22, 23, 24, 25, 26, 27, 28, 29, 30, 31, 32, 33, 34, 35, 36, 37, 38, 39, 40, 41, 42, 43, 44, 45, 46, 47, 48, 49, 50, 51, 52, 53, 54, 55, 56, 57] (by decide +kernel) (by decide +kernel)
set_option maxRecDepth 20000 in
theorem gX8_finalValue_X8_finish : GoodIn wsX8_finalValue (wsV RX8 179 RX8 yX8_finish wsX8_finish) := goodIn_app (goodIn_of _ (by decide +kernel)) ggX8_finalValue_X8_finish
theorem dX8_finalValue_0 : decode cX8_finalValue 0 = .ok (.aload_n 0, 1) := by decide +kernel
theorem dX8_finalValue_1 : decode cX8_finalValue 1 = .ok (.aload_n 0, 1) := by decide +kernel
theorem dX8_finalValue_2 : decode cX8_finalValue 2 = .ok (.iload_n 1, 1) := by decide +kernel
theorem dX8_finalValue_3 : decode cX8_finalValue 3 = .ok (.invokevirtual 43, 3) := by decide +kernel
theorem dX8_finalValue_6 : decode cX8_finalValue 6 = .ok (.ifCond .eq 7, 3) := by decide +kernel
theorem dX8_finalValue_9 : decode cX8_finalValue 9 = .ok (.iconst 0, 1) := by decide +kernel
theorem dX8_finalValue_10 : decode cX8_finalValue 10 = .ok (.goto 4, 3) := by decide +kernel
theorem dX8_finalValue_13 : decode cX8_finalValue 13 = .ok (.iconst 1, 1) := by decide +kernel
theorem dX8_finalValue_14 : decode cX8_finalValue 14 = .ok (.putfield 28, 3) := by decide +kernel
theorem dX8_finalValue_17 : decode cX8_finalValue 17 = .ok (.aload_n 0, 1) := by decide +kernel
theorem dX8_finalValue_18 : decode cX8_finalValue 18 = .ok (.getfield 28, 3) := by decide +kernel
theorem dX8_finalValue_21 : decode cX8_finalValue 21 = .ok (.ifCond .le 5, 3) := by decide +kernel
theorem dX8_finalValue_24 : decode cX8_finalValue 24 = .ok (.iconst 0, 1) := by decide +kernel
theorem dX8_finalValue_25 : decode cX8_finalValue 25 = .ok (.ireturn, 1) := by decide +kernel
theorem dX8_finalValue_26 : decode cX8_finalValue 26 = .ok (.aload_n 0, 1) := by decide +kernel
theorem dX8_finalValue_27 : decode cX8_finalValue 27 = .ok (.getfield 7, 3) := by decide +kernel
theorem dX8_finalValue_30 : decode cX8_finalValue 30 = .ok (.iconst 0, 1) := by decide +kernel
theorem dX8_finalValue_31 : decode cX8_finalValue 31 = .ok (.aload_n 0, 1) := by decide +kernel
theorem dX8_finalValue_32 : decode cX8_finalValue 32 = .ok (.getfield 13, 3) := by decide +kernel
theorem dX8_finalValue_35 : decode cX8_finalValue 35 = .ok (.iconst 0, 1) := by decide +kernel
theorem dX8_finalValue_36 : decode cX8_finalValue 36 = .ok (.invokestatic 35, 3) := by decide +kernel
theorem dX8_finalValue_39 : decode cX8_finalValue 39 = .ok (.aload_n 0, 1) := by decide +kernel
theorem dX8_finalValue_40 : decode cX8_finalValue 40 = .ok (.invokevirtual 179, 3) := by decide +kernel
theorem dX8_finalValue_43 : decode cX8_finalValue 43 = .ok (.aload_n 0, 1) := by decide +kernel
theorem dX8_finalValue_44 : decode cX8_finalValue 44 = .ok (.getfield 7, 3) := by decide +kernel
theorem dX8_finalValue_47 : decode cX8_finalValue 47 = .ok (.bipush 8, 2) := by decide +kernel
theorem dX8_finalValue_49 : decode cX8_finalValue 49 = .ok (.iload_n 1, 1) := by decide +kernel
theorem dX8_finalValue_50 : decode cX8_finalValue 50 = .ok (.iadd, 1) := by decide +kernel
theorem dX8_finalValue_51 : decode cX8_finalValue 51 = .ok (.iaload, 1) := by decide +kernel
theorem dX8_finalValue_52 : decode cX8_finalValue 52 = .ok (.istore_n 2, 1) := by decide +kernel
theorem dX8_finalValue_53 : decode cX8_finalValue 53 = .ok (.aload_n 0, 1) := by decide +kernel
theorem dX8_finalValue_54 : decode cX8_finalValue 54 = .ok (.getfield 13, 3) := by decide +kernel
theorem dX8_finalValue_57 : decode cX8_finalValue 57 = .ok (.iconst 0, 1) := by decide +kernel
theorem dX8_finalValue_58 : decode cX8_finalValue 58 = .ok (.aload_n 0, 1) := by decide +kernel
theorem dX8_finalValue_59 : decode cX8_finalValue 59 = .ok (.getfield 7, 3) := by decide +kernel
theorem dX8_finalValue_62 : decode cX8_finalValue 62 = .ok (.iconst 0, 1) := by decide +kernel
theorem dX8_finalValue_63 : decode cX8_finalValue 63 = .ok (.invokestatic 35, 3) := by decide +kernel
theorem dX8_finalValue_66 : decode cX8_finalValue 66 = .ok (.iload_n 2, 1) := by decide +kernel
theorem dX8_finalValue_67 : decode cX8_finalValue 67 = .ok (.ireturn, 1) := by decide +kernel
set_option maxRecDepth 20000 in
theorem ggX8_copiedIn_X8_isMove : GoodIn wsX8_copiedIn wsX8_isMove := goodIn_r _ [8, 2, 9, 10, 7, 11, 75, 76, 77, 78, 79, 80, 81, 82, 83, 84, 85] (by decide +kernel) (by decide +kernel)
set_option maxRecDepth 20000 in
theorem gX8_copiedIn_X8_isMove : GoodIn wsX8_copiedIn (wsV RX8 157 RX8 yX8_isMove wsX8_isMove) := goodIn_app (goodIn_of _ (by decide +kernel)) ggX8_copiedIn_X8_isMove
set_option maxRecDepth 20000 in
theorem ggX8_copiedIn_X8_copy : GoodIn wsX8_copiedIn wsX8_copy := goodIn_r _ [14] (by decide +kernel) (by decide +kernel)
set_option maxRecDepth 20000 in
theorem gX8_copiedIn_X8_copy : GoodIn wsX8_copiedIn (va_wsS RX8 35 yX8_copy wsX8_copy) := goodIn_app (goodIn_of _ (by decide +kernel)) ggX8_copiedIn_X8_copy
set_option maxRecDepth 20000 in
theorem ggX8_copiedIn_X8_movePart : GoodIn wsX8_copiedIn wsX8_movePart := goodIn_r _ [18, 2, 75, 76, 77, 78, 79, 80, 81, 82, 83, 84, 85] (by decide +kernel) (by decide +kernel)
set_option maxRecDepth 20000 in
theorem gX8_copiedIn_X8_movePart : GoodIn wsX8_copiedIn (wsV RX8 70 RX8 yX8_movePart wsX8_movePart) := goodIn_app (goodIn_of _ (by decide +kernel)) ggX8_copiedIn_X8_movePart
set_option maxRecDepth 20000 in
theorem ggX8_copiedIn_X8_tick : GoodIn wsX8_copiedIn wsX8_tick := goodIn_r _ [22, 2, 23, 24, 25, 7, 26, 27, 28, 29, 30, 15, 16, 17, 18, 31, 32, 33, 34, 35, 36, 37, 38, 39, 40, 41, 42, 43, 44, 45, 46, 47, 48, 49, 50, 51, 52, 53, 54, 55, 56, 57, 58, 59, 60, 61, 62, 63, 64, 65, 66, 67, 68, 69, 70, 71, 72, 73, 74, 75, 76, 77, 78, 79, 80, 81, 82, 83, 84, 85] (by decide +kernel) (by decide +kernel)
set_option maxRecDepth 20000 in
theorem gX8_copiedIn_X8_tick : GoodIn wsX8_copiedIn (wsV RX8 144 RX8 yX8_tick wsX8_tick) := goodIn_app (goodIn_of _ (by decide +kernel)) ggX8_copiedIn_X8_tick
theorem dX8_copiedIn_0 : decode cX8_copiedIn 0 = .ok (.aload_n 0, 1) := by decide +kernel
theorem dX8_copiedIn_1 : decode cX8_copiedIn 1 = .ok (.aload_n 0, 1) := by decide +kernel
theorem dX8_copiedIn_2 : decode cX8_copiedIn 2 = .ok (.iload_n 1, 1) := by decide +kernel
theorem dX8_copiedIn_3 : decode cX8_copiedIn 3 = .ok (.invokevirtual 157, 3) := by decide +kernel
theorem dX8_copiedIn_6 : decode cX8_copiedIn 6 = .ok (.ifCond .eq 7, 3) := by decide +kernel
theorem dX8_copiedIn_9 : decode cX8_copiedIn 9 = .ok (.iconst 0, 1) := by decide +kernel
theorem dX8_copiedIn_10 : decode cX8_copiedIn 10 = .ok (.goto 4, 3) := by decide +kernel
theorem dX8_copiedIn_13 : decode cX8_copiedIn 13 = .ok (.iconst 1, 1) := by decide +kernel
theorem dX8_copiedIn_14 : decode cX8_copiedIn 14 = .ok (.putfield 28, 3) := by decide +kernel
theorem dX8_copiedIn_17 : decode cX8_copiedIn 17 = .ok (.aload_n 0, 1) := by decide +kernel
theorem dX8_copiedIn_18 : decode cX8_copiedIn 18 = .ok (.getfield 28, 3) := by decide +kernel
theorem dX8_copiedIn_21 : decode cX8_copiedIn 21 = .ok (.ifCond .le 5, 3) := by decide +kernel
theorem dX8_copiedIn_24 : decode cX8_copiedIn 24 = .ok (.iconst 0, 1) := by decide +kernel
theorem dX8_copiedIn_25 : decode cX8_copiedIn 25 = .ok (.ireturn, 1) := by decide +kernel
theorem dX8_copiedIn_26 : decode cX8_copiedIn 26 = .ok (.aload_n 0, 1) := by decide +kernel
theorem dX8_copiedIn_27 : decode cX8_copiedIn 27 = .ok (.getfield 7, 3) := by decide +kernel
theorem dX8_copiedIn_30 : decode cX8_copiedIn 30 = .ok (.iconst 0, 1) := by decide +kernel
theorem dX8_copiedIn_31 : decode cX8_copiedIn 31 = .ok (.aload_n 0, 1) := by decide +kernel
theorem dX8_copiedIn_32 : decode cX8_copiedIn 32 = .ok (.getfield 13, 3) := by decide +kernel
theorem dX8_copiedIn_35 : decode cX8_copiedIn 35 = .ok (.iconst 0, 1) := by decide +kernel
theorem dX8_copiedIn_36 : decode cX8_copiedIn 36 = .ok (.invokestatic 35, 3) := by decide +kernel
theorem dX8_copiedIn_39 : decode cX8_copiedIn 39 = .ok (.iconst 0, 1) := by decide +kernel
theorem dX8_copiedIn_40 : decode cX8_copiedIn 40 = .ok (.istore_n 2, 1) := by decide +kernel
theorem dX8_copiedIn_41 : decode cX8_copiedIn 41 = .ok (.iload_n 2, 1) := by decide +kernel
theorem dX8_copiedIn_42 : decode cX8_copiedIn 42 = .ok (.sipush 300, 3) := by decide +kernel
theorem dX8_copiedIn_45 : decode cX8_copiedIn 45 = .ok (.if_icmp .ge 24, 3) := by decide +kernel
theorem dX8_copiedIn_48 : decode cX8_copiedIn 48 = .ok (.aload_n 0, 1) := by decide +kernel
theorem dX8_copiedIn_49 : decode cX8_copiedIn 49 = .ok (.iload_n 1, 1) := by decide +kernel
theorem dX8_copiedIn_50 : decode cX8_copiedIn 50 = .ok (.iconst 5, 1) := by decide +kernel
theorem dX8_copiedIn_51 : decode cX8_copiedIn 51 = .ok (.invokevirtual 70, 3) := by decide +kernel
theorem dX8_copiedIn_54 : decode cX8_copiedIn 54 = .ok (.iconst 2, 1) := by decide +kernel
theorem dX8_copiedIn_55 : decode cX8_copiedIn 55 = .ok (.if_icmp .ge 14, 3) := by decide +kernel
theorem dX8_copiedIn_58 : decode cX8_copiedIn 58 = .ok (.aload_n 0, 1) := by decide +kernel
theorem dX8_copiedIn_59 : decode cX8_copiedIn 59 = .ok (.invokevirtual 144, 3) := by decide +kernel
theorem dX8_copiedIn_62 : decode cX8_copiedIn 62 = .ok (.pop, 1) := by decide +kernel
theorem dX8_copiedIn_63 : decode cX8_copiedIn 63 = .ok (.iinc 2 1, 3) := by decide +kernel
theorem dX8_copiedIn_66 : decode cX8_copiedIn 66 = .ok (.goto (-25), 3) := by decide +kernel
theorem dX8_copiedIn_69 : decode cX8_copiedIn 69 = .ok (.aload_n 0, 1) := by decide +kernel
theorem dX8_copiedIn_70 : decode cX8_copiedIn 70 = .ok (.iload_n 1, 1) := by decide +kernel
theorem dX8_copiedIn_71 : decode cX8_copiedIn 71 = .ok (.iconst 5, 1) := by decide +kernel
theorem dX8_copiedIn_72 : decode cX8_copiedIn 72 = .ok (.invokevirtual 70, 3) := by decide +kernel
theorem dX8_copiedIn_75 : decode cX8_copiedIn 75 = .ok (.iconst 2, 1) := by decide +kernel
theorem dX8_copiedIn_76 : decode cX8_copiedIn 76 = .ok (.if_icmp .ge 9, 3) := by decide +kernel
theorem dX8_copiedIn_79 : decode cX8_copiedIn 79 = .ok (.sipush (-1000), 3) := by decide +kernel
theorem dX8_copiedIn_82 : decode cX8_copiedIn 82 = .ok (.goto 4, 3) := by decide +kernel
theorem dX8_copiedIn_85 : decode cX8_copiedIn 85 = .ok (.iload_n 2, 1) := by decide +kernel
theorem dX8_copiedIn_86 : decode cX8_copiedIn 86 = .ok (.istore_n 3, 1) := by decide +kernel
theorem dX8_copiedIn_87 : decode cX8_copiedIn 87 = .ok (.aload_n 0, 1) := by decide +kernel
theorem dX8_copiedIn_88 : decode cX8_copiedIn 88 = .ok (.getfield 13, 3) := by decide +kernel
theorem dX8_copiedIn_91 : decode cX8_copiedIn 91 = .ok (.iconst 0, 1) := by decide +kernel
theorem dX8_copiedIn_92 : decode cX8_copiedIn 92 = .ok (.aload_n 0, 1) := by decide +kernel
theorem dX8_copiedIn_93 : decode cX8_copiedIn 93 = .ok (.getfield 7, 3) := by decide +kernel
theorem dX8_copiedIn_96 : decode cX8_copiedIn 96 = .ok (.iconst 0, 1) := by decide +kernel
theorem dX8_copiedIn_97 : decode cX8_copiedIn 97 = .ok (.invokestatic 35, 3) := by decide +kernel
theorem dX8_copiedIn_100 : decode cX8_copiedIn 100 = .ok (.iload_n 3, 1) := by decide +kernel
theorem dX8_copiedIn_101 : decode cX8_copiedIn 101 = .ok (.ireturn, 1) := by decide +kernel
set_option maxRecDepth 20000 in
theorem ggX8_stuck_X8_movesIn : GoodIn wsX8_stuck wsX8_movesIn := goodIn_r _ [8, 2, 9, 10, 11, 7, 12, 68, 69, 70, 71, 72, 73, 74, 75, 76, 77, 78] (by decide +kernel) (by decide +kernel)
set_option maxRecDepth 20000 in
theorem gX8_stuck_X8_movesIn : GoodIn wsX8_stuck (wsV RX8 135 RX8 yX8_movesIn wsX8_movesIn) := goodIn_app (goodIn_of _ (by decide +kernel)) ggX8_stuck_X8_movesIn
set_option maxRecDepth 20000 in
theorem ggX8_stuck_X8_copy : GoodIn wsX8_stuck wsX8_copy := goodIn_r _ [15] (by decide +kernel) (by decide +kernel)
set_option maxRecDepth 20000 in
theorem gX8_stuck_X8_copy : GoodIn wsX8_stuck (va_wsS RX8 35 yX8_copy wsX8_copy) := goodIn_app (goodIn_of _ (by decide +kernel)) ggX8_stuck_X8_copy
set_option maxRecDepth 20000 in
theorem ggX8_stuck_X8_tick : GoodIn wsX8_stuck wsX8_tick := goodIn_r _ [19, 2, 20, 21, 22, 7, 23, 24, 25, 26, 27, 9, 10, 11, 12, 28, 29, 30, 31, 32, 33, 34, 35, 36, 37, 38, 39, 40, 41, 42, 43, 44, 45, 46, 47, 48, 49, 50, 51, 52, 53, 54, 55, 56, 57, 58, 59, 4, 5, 6, 8, 60, 61, 62, 63, 64, 65, 66, 67, 68, 69, 70, 71, 72, 73, 74, 75, 76, 77, 78] (by decide +kernel) (by decide +kernel)
set_option maxRecDepth 20000 in
theorem gX8_stuck_X8_tick : GoodIn wsX8_stuck (wsV RX8 144 RX8 yX8_tick wsX8_tick) := goodIn_app (goodIn_of _ (by decide +kernel)) ggX8_stuck_X8_tick
theorem dX8_stuck_0 : decode cX8_stuck 0 = .ok (.aload_n 0, 1) := by decide +kernel
theorem dX8_stuck_1 : decode cX8_stuck 1 = .ok (.iconst 0, 1) := by decide +kernel
theorem dX8_stuck_2 : decode cX8_stuck 2 = .ok (.putfield 28, 3) := by decide +kernel
theorem dX8_stuck_5 : decode cX8_stuck 5 = .ok (.aload_n 0, 1) := by decide +kernel
theorem dX8_stuck_6 : decode cX8_stuck 6 = .ok (.iconst 0, 1) := by decide +kernel
theorem dX8_stuck_7 : decode cX8_stuck 7 = .ok (.invokevirtual 135, 3) := by decide +kernel
theorem dX8_stuck_10 : decode cX8_stuck 10 = .ok (.istore_n 1, 1) := by decide +kernel
theorem dX8_stuck_11 : decode cX8_stuck 11 = .ok (.iload_n 1, 1) := by decide +kernel
theorem dX8_stuck_12 : decode cX8_stuck 12 = .ok (.ifCond .eq 11, 3) := by decide +kernel
theorem dX8_stuck_15 : decode cX8_stuck 15 = .ok (.aload_n 0, 1) := by decide +kernel
theorem dX8_stuck_16 : decode cX8_stuck 16 = .ok (.iconst 1, 1) := by decide +kernel
theorem dX8_stuck_17 : decode cX8_stuck 17 = .ok (.invokevirtual 135, 3) := by decide +kernel
theorem dX8_stuck_20 : decode cX8_stuck 20 = .ok (.ifCond .le 5, 3) := by decide +kernel
theorem dX8_stuck_23 : decode cX8_stuck 23 = .ok (.iconst 0, 1) := by decide +kernel
theorem dX8_stuck_24 : decode cX8_stuck 24 = .ok (.ireturn, 1) := by decide +kernel
theorem dX8_stuck_25 : decode cX8_stuck 25 = .ok (.aload_n 0, 1) := by decide +kernel
theorem dX8_stuck_26 : decode cX8_stuck 26 = .ok (.getfield 7, 3) := by decide +kernel
theorem dX8_stuck_29 : decode cX8_stuck 29 = .ok (.iconst 0, 1) := by decide +kernel
theorem dX8_stuck_30 : decode cX8_stuck 30 = .ok (.aload_n 0, 1) := by decide +kernel
theorem dX8_stuck_31 : decode cX8_stuck 31 = .ok (.getfield 13, 3) := by decide +kernel
theorem dX8_stuck_34 : decode cX8_stuck 34 = .ok (.iconst 0, 1) := by decide +kernel
theorem dX8_stuck_35 : decode cX8_stuck 35 = .ok (.invokestatic 35, 3) := by decide +kernel
theorem dX8_stuck_38 : decode cX8_stuck 38 = .ok (.iconst 0, 1) := by decide +kernel
theorem dX8_stuck_39 : decode cX8_stuck 39 = .ok (.istore_n 2, 1) := by decide +kernel
theorem dX8_stuck_40 : decode cX8_stuck 40 = .ok (.iload_n 2, 1) := by decide +kernel
theorem dX8_stuck_41 : decode cX8_stuck 41 = .ok (.bipush 60, 2) := by decide +kernel
theorem dX8_stuck_43 : decode cX8_stuck 43 = .ok (.if_icmp .ge 14, 3) := by decide +kernel
theorem dX8_stuck_46 : decode cX8_stuck 46 = .ok (.aload_n 0, 1) := by decide +kernel
theorem dX8_stuck_47 : decode cX8_stuck 47 = .ok (.invokevirtual 144, 3) := by decide +kernel
theorem dX8_stuck_50 : decode cX8_stuck 50 = .ok (.pop, 1) := by decide +kernel
theorem dX8_stuck_51 : decode cX8_stuck 51 = .ok (.iinc 2 1, 3) := by decide +kernel
theorem dX8_stuck_54 : decode cX8_stuck 54 = .ok (.goto (-14), 3) := by decide +kernel
theorem dX8_stuck_57 : decode cX8_stuck 57 = .ok (.aload_n 0, 1) := by decide +kernel
theorem dX8_stuck_58 : decode cX8_stuck 58 = .ok (.iconst 0, 1) := by decide +kernel
theorem dX8_stuck_59 : decode cX8_stuck 59 = .ok (.invokevirtual 135, 3) := by decide +kernel
theorem dX8_stuck_62 : decode cX8_stuck 62 = .ok (.iload_n 1, 1) := by decide +kernel
theorem dX8_stuck_63 : decode cX8_stuck 63 = .ok (.if_icmp .ne 7, 3) := by decide +kernel
theorem dX8_stuck_66 : decode cX8_stuck 66 = .ok (.iconst 1, 1) := by decide +kernel
theorem dX8_stuck_67 : decode cX8_stuck 67 = .ok (.goto 4, 3) := by decide +kernel
theorem dX8_stuck_70 : decode cX8_stuck 70 = .ok (.iconst 0, 1) := by decide +kernel
theorem dX8_stuck_71 : decode cX8_stuck 71 = .ok (.istore_n 2, 1) := by decide +kernel
theorem dX8_stuck_72 : decode cX8_stuck 72 = .ok (.aload_n 0, 1) := by decide +kernel
theorem dX8_stuck_73 : decode cX8_stuck 73 = .ok (.getfield 13, 3) := by decide +kernel
theorem dX8_stuck_76 : decode cX8_stuck 76 = .ok (.iconst 0, 1) := by decide +kernel
theorem dX8_stuck_77 : decode cX8_stuck 77 = .ok (.aload_n 0, 1) := by decide +kernel
theorem dX8_stuck_78 : decode cX8_stuck 78 = .ok (.getfield 7, 3) := by decide +kernel
theorem dX8_stuck_81 : decode cX8_stuck 81 = .ok (.iconst 0, 1) := by decide +kernel
theorem dX8_stuck_82 : decode cX8_stuck 82 = .ok (.invokestatic 35, 3) := by decide +kernel
theorem dX8_stuck_85 : decode cX8_stuck 85 = .ok (.iload_n 2, 1) := by decide +kernel
theorem dX8_stuck_86 : decode cX8_stuck 86 = .ok (.ireturn, 1) := by decide +kernel
set_option maxRecDepth 20000 in
theorem ggX8_type_X8_within : GoodIn wsX8_type wsX8_within := goodIn_r _ [7] (by decide +kernel) (by decide +kernel)
set_option maxRecDepth 20000 in
theorem gX8_type_X8_within : GoodIn wsX8_type (va_wsS RX8 39 yX8_within wsX8_within) := goodIn_app (goodIn_of _ (by decide +kernel)) ggX8_type_X8_within
theorem dX8_type_0 : decode cX8_type 0 = .ok (.aload_n 0, 1) := by decide +kernel
theorem dX8_type_1 : decode cX8_type 1 = .ok (.iload_n 1, 1) := by decide +kernel
theorem dX8_type_2 : decode cX8_type 2 = .ok (.iconst 0, 1) := by decide +kernel
theorem dX8_type_3 : decode cX8_type 3 = .ok (.bipush 127, 2) := by decide +kernel
theorem dX8_type_5 : decode cX8_type 5 = .ok (.invokestatic 39, 3) := by decide +kernel
theorem dX8_type_8 : decode cX8_type 8 = .ok (.ifCond .ne 7, 3) := by decide +kernel
theorem dX8_type_11 : decode cX8_type 11 = .ok (.iconst 1, 1) := by decide +kernel
theorem dX8_type_12 : decode cX8_type 12 = .ok (.goto 18, 3) := by decide +kernel
theorem dX8_type_15 : decode cX8_type 15 = .ok (.aload_n 0, 1) := by decide +kernel
theorem dX8_type_16 : decode cX8_type 16 = .ok (.getfield 170, 3) := by decide +kernel
theorem dX8_type_19 : decode cX8_type 19 = .ok (.sipush 150, 3) := by decide +kernel
theorem dX8_type_22 : decode cX8_type 22 = .ok (.if_icmp .ne 7, 3) := by decide +kernel
theorem dX8_type_25 : decode cX8_type 25 = .ok (.iconst 2, 1) := by decide +kernel
theorem dX8_type_26 : decode cX8_type 26 = .ok (.goto 4, 3) := by decide +kernel
theorem dX8_type_29 : decode cX8_type 29 = .ok (.iconst 0, 1) := by decide +kernel
theorem dX8_type_30 : decode cX8_type 30 = .ok (.putfield 28, 3) := by decide +kernel
theorem dX8_type_33 : decode cX8_type 33 = .ok (.aload_n 0, 1) := by decide +kernel
theorem dX8_type_34 : decode cX8_type 34 = .ok (.getfield 28, 3) := by decide +kernel
theorem dX8_type_37 : decode cX8_type 37 = .ok (.ifCond .le 5, 3) := by decide +kernel
theorem dX8_type_40 : decode cX8_type 40 = .ok (.iconst 0, 1) := by decide +kernel
theorem dX8_type_41 : decode cX8_type 41 = .ok (.ireturn, 1) := by decide +kernel
theorem dX8_type_42 : decode cX8_type 42 = .ok (.aload_n 0, 1) := by decide +kernel
theorem dX8_type_43 : decode cX8_type 43 = .ok (.getfield 19, 3) := by decide +kernel
theorem dX8_type_46 : decode cX8_type 46 = .ok (.aload_n 0, 1) := by decide +kernel
theorem dX8_type_47 : decode cX8_type 47 = .ok (.getfield 170, 3) := by decide +kernel
theorem dX8_type_50 : decode cX8_type 50 = .ok (.iload_n 1, 1) := by decide +kernel
theorem dX8_type_51 : decode cX8_type 51 = .ok (.iastore, 1) := by decide +kernel
theorem dX8_type_52 : decode cX8_type 52 = .ok (.aload_n 0, 1) := by decide +kernel
theorem dX8_type_53 : decode cX8_type 53 = .ok (.dup, 1) := by decide +kernel
theorem dX8_type_54 : decode cX8_type 54 = .ok (.getfield 170, 3) := by decide +kernel
theorem dX8_type_57 : decode cX8_type 57 = .ok (.iconst 1, 1) := by decide +kernel
theorem dX8_type_58 : decode cX8_type 58 = .ok (.iadd, 1) := by decide +kernel
theorem dX8_type_59 : decode cX8_type 59 = .ok (.putfield 170, 3) := by decide +kernel
theorem dX8_type_62 : decode cX8_type 62 = .ok (.aload_n 0, 1) := by decide +kernel
theorem dX8_type_63 : decode cX8_type 63 = .ok (.getfield 170, 3) := by decide +kernel
theorem dX8_type_66 : decode cX8_type 66 = .ok (.ireturn, 1) := by decide +kernel
theorem dX8_clearCommands_0 : decode cX8_clearCommands 0 = .ok (.aload_n 0, 1) := by decide +kernel
theorem dX8_clearCommands_1 : decode cX8_clearCommands 1 = .ok (.iconst 0, 1) := by decide +kernel
theorem dX8_clearCommands_2 : decode cX8_clearCommands 2 = .ok (.putfield 28, 3) := by decide +kernel
theorem dX8_clearCommands_5 : decode cX8_clearCommands 5 = .ok (.aload_n 0, 1) := by decide +kernel
theorem dX8_clearCommands_6 : decode cX8_clearCommands 6 = .ok (.getfield 170, 3) := by decide +kernel
theorem dX8_clearCommands_9 : decode cX8_clearCommands 9 = .ok (.istore_n 1, 1) := by decide +kernel
theorem dX8_clearCommands_10 : decode cX8_clearCommands 10 = .ok (.aload_n 0, 1) := by decide +kernel
theorem dX8_clearCommands_11 : decode cX8_clearCommands 11 = .ok (.iconst 0, 1) := by decide +kernel
theorem dX8_clearCommands_12 : decode cX8_clearCommands 12 = .ok (.putfield 170, 3) := by decide +kernel
theorem dX8_clearCommands_15 : decode cX8_clearCommands 15 = .ok (.iload_n 1, 1) := by decide +kernel
theorem dX8_clearCommands_16 : decode cX8_clearCommands 16 = .ok (.ireturn, 1) := by decide +kernel
theorem dX8_byteAt_0 : decode cX8_byteAt 0 = .ok (.iload_n 1, 1) := by decide +kernel
theorem dX8_byteAt_1 : decode cX8_byteAt 1 = .ok (.aload_n 0, 1) := by decide +kernel
theorem dX8_byteAt_2 : decode cX8_byteAt 2 = .ok (.getfield 170, 3) := by decide +kernel
theorem dX8_byteAt_5 : decode cX8_byteAt 5 = .ok (.if_icmp .ge 12, 3) := by decide +kernel
theorem dX8_byteAt_8 : decode cX8_byteAt 8 = .ok (.aload_n 0, 1) := by decide +kernel
theorem dX8_byteAt_9 : decode cX8_byteAt 9 = .ok (.getfield 19, 3) := by decide +kernel
theorem dX8_byteAt_12 : decode cX8_byteAt 12 = .ok (.iload_n 1, 1) := by decide +kernel
theorem dX8_byteAt_13 : decode cX8_byteAt 13 = .ok (.iaload, 1) := by decide +kernel
theorem dX8_byteAt_14 : decode cX8_byteAt 14 = .ok (.goto 4, 3) := by decide +kernel
theorem dX8_byteAt_17 : decode cX8_byteAt 17 = .ok (.iconst (-1), 1) := by decide +kernel
theorem dX8_byteAt_18 : decode cX8_byteAt 18 = .ok (.ireturn, 1) := by decide +kernel
set_option maxRecDepth 20000 in
theorem ggX8_skipSpaces_X8_byteAt : GoodIn wsX8_skipSpaces wsX8_byteAt := goodIn_r _ [6, 7, 8, 9, 10, 11, 12, 13, 14, 15, 16, 17, 18, 19] (by decide +kernel) (by decide +kernel)
set_option maxRecDepth 20000 in
theorem gX8_skipSpaces_X8_byteAt : GoodIn wsX8_skipSpaces (wsV RX8 185 RX8 yX8_byteAt wsX8_byteAt) := goodIn_app (goodIn_of _ (by decide +kernel)) ggX8_skipSpaces_X8_byteAt
theorem dX8_skipSpaces_0 : decode cX8_skipSpaces 0 = .ok (.aload_n 0, 1) := by decide +kernel
theorem dX8_skipSpaces_1 : decode cX8_skipSpaces 1 = .ok (.aload_n 0, 1) := by decide +kernel
theorem dX8_skipSpaces_2 : decode cX8_skipSpaces 2 = .ok (.getfield 182, 3) := by decide +kernel
theorem dX8_skipSpaces_5 : decode cX8_skipSpaces 5 = .ok (.invokevirtual 185, 3) := by decide +kernel
theorem dX8_skipSpaces_8 : decode cX8_skipSpaces 8 = .ok (.bipush 32, 2) := by decide +kernel
theorem dX8_skipSpaces_10 : decode cX8_skipSpaces 10 = .ok (.if_icmp .ne 16, 3) := by decide +kernel
theorem dX8_skipSpaces_13 : decode cX8_skipSpaces 13 = .ok (.aload_n 0, 1) := by decide +kernel
theorem dX8_skipSpaces_14 : decode cX8_skipSpaces 14 = .ok (.dup, 1) := by decide +kernel
theorem dX8_skipSpaces_15 : decode cX8_skipSpaces 15 = .ok (.getfield 182, 3) := by decide +kernel
theorem dX8_skipSpaces_18 : decode cX8_skipSpaces 18 = .ok (.iconst 1, 1) := by decide +kernel
theorem dX8_skipSpaces_19 : decode cX8_skipSpaces 19 = .ok (.iadd, 1) := by decide +kernel
theorem dX8_skipSpaces_20 : decode cX8_skipSpaces 20 = .ok (.putfield 182, 3) := by decide +kernel
theorem dX8_skipSpaces_23 : decode cX8_skipSpaces 23 = .ok (.goto (-23), 3) := by decide +kernel
theorem dX8_skipSpaces_26 : decode cX8_skipSpaces 26 = .ok (.return_, 1) := by decide +kernel
set_option maxRecDepth 20000 in
theorem ggX8_hasWord_X8_byteAt : GoodIn wsX8_hasWord wsX8_byteAt := goodIn_r _ [6, 7, 8, 9, 10, 11, 12, 13, 14, 15, 16, 17, 18, 19] (by decide +kernel) (by decide +kernel)
set_option maxRecDepth 20000 in
theorem gX8_hasWord_X8_byteAt : GoodIn wsX8_hasWord (wsV RX8 185 RX8 yX8_byteAt wsX8_byteAt) := goodIn_app (goodIn_of _ (by decide +kernel)) ggX8_hasWord_X8_byteAt
theorem dX8_hasWord_0 : decode cX8_hasWord 0 = .ok (.aload_n 0, 1) := by decide +kernel
theorem dX8_hasWord_1 : decode cX8_hasWord 1 = .ok (.iload_n 1, 1) := by decide +kernel
theorem dX8_hasWord_2 : decode cX8_hasWord 2 = .ok (.invokevirtual 185, 3) := by decide +kernel
theorem dX8_hasWord_5 : decode cX8_hasWord 5 = .ok (.iload_n 3, 1) := by decide +kernel
theorem dX8_hasWord_6 : decode cX8_hasWord 6 = .ok (.if_icmp .ne 31, 3) := by decide +kernel
theorem dX8_hasWord_9 : decode cX8_hasWord 9 = .ok (.aload_n 0, 1) := by decide +kernel
theorem dX8_hasWord_10 : decode cX8_hasWord 10 = .ok (.iload_n 1, 1) := by decide +kernel
theorem dX8_hasWord_11 : decode cX8_hasWord 11 = .ok (.iconst 1, 1) := by decide +kernel
theorem dX8_hasWord_12 : decode cX8_hasWord 12 = .ok (.iadd, 1) := by decide +kernel
theorem dX8_hasWord_13 : decode cX8_hasWord 13 = .ok (.invokevirtual 185, 3) := by decide +kernel
theorem dX8_hasWord_16 : decode cX8_hasWord 16 = .ok (.iload 4, 2) := by decide +kernel
theorem dX8_hasWord_18 : decode cX8_hasWord 18 = .ok (.if_icmp .ne 19, 3) := by decide +kernel
theorem dX8_hasWord_21 : decode cX8_hasWord 21 = .ok (.aload_n 0, 1) := by decide +kernel
theorem dX8_hasWord_22 : decode cX8_hasWord 22 = .ok (.iload_n 1, 1) := by decide +kernel
theorem dX8_hasWord_23 : decode cX8_hasWord 23 = .ok (.iconst 2, 1) := by decide +kernel
theorem dX8_hasWord_24 : decode cX8_hasWord 24 = .ok (.iadd, 1) := by decide +kernel
theorem dX8_hasWord_25 : decode cX8_hasWord 25 = .ok (.invokevirtual 185, 3) := by decide +kernel
theorem dX8_hasWord_28 : decode cX8_hasWord 28 = .ok (.iload 5, 2) := by decide +kernel
theorem dX8_hasWord_30 : decode cX8_hasWord 30 = .ok (.if_icmp .ne 7, 3) := by decide +kernel
theorem dX8_hasWord_33 : decode cX8_hasWord 33 = .ok (.iconst 1, 1) := by decide +kernel
theorem dX8_hasWord_34 : decode cX8_hasWord 34 = .ok (.goto 4, 3) := by decide +kernel
theorem dX8_hasWord_37 : decode cX8_hasWord 37 = .ok (.iconst 0, 1) := by decide +kernel
theorem dX8_hasWord_38 : decode cX8_hasWord 38 = .ok (.istore 9, 2) := by decide +kernel
theorem dX8_hasWord_40 : decode cX8_hasWord 40 = .ok (.iload 9, 2) := by decide +kernel
theorem dX8_hasWord_42 : decode cX8_hasWord 42 = .ok (.ifCond .eq 24, 3) := by decide +kernel
theorem dX8_hasWord_45 : decode cX8_hasWord 45 = .ok (.iload_n 2, 1) := by decide +kernel
theorem dX8_hasWord_46 : decode cX8_hasWord 46 = .ok (.iconst 4, 1) := by decide +kernel
theorem dX8_hasWord_47 : decode cX8_hasWord 47 = .ok (.if_icmp .lt 15, 3) := by decide +kernel
theorem dX8_hasWord_50 : decode cX8_hasWord 50 = .ok (.aload_n 0, 1) := by decide +kernel
theorem dX8_hasWord_51 : decode cX8_hasWord 51 = .ok (.iload_n 1, 1) := by decide +kernel
theorem dX8_hasWord_52 : decode cX8_hasWord 52 = .ok (.iconst 3, 1) := by decide +kernel
theorem dX8_hasWord_53 : decode cX8_hasWord 53 = .ok (.iadd, 1) := by decide +kernel
theorem dX8_hasWord_54 : decode cX8_hasWord 54 = .ok (.invokevirtual 185, 3) := by decide +kernel
theorem dX8_hasWord_57 : decode cX8_hasWord 57 = .ok (.iload 6, 2) := by decide +kernel
theorem dX8_hasWord_59 : decode cX8_hasWord 59 = .ok (.if_icmp .ne 7, 3) := by decide +kernel
theorem dX8_hasWord_62 : decode cX8_hasWord 62 = .ok (.iconst 1, 1) := by decide +kernel
theorem dX8_hasWord_63 : decode cX8_hasWord 63 = .ok (.goto 4, 3) := by decide +kernel
theorem dX8_hasWord_66 : decode cX8_hasWord 66 = .ok (.iconst 0, 1) := by decide +kernel
theorem dX8_hasWord_67 : decode cX8_hasWord 67 = .ok (.istore 9, 2) := by decide +kernel
theorem dX8_hasWord_69 : decode cX8_hasWord 69 = .ok (.iload 9, 2) := by decide +kernel
theorem dX8_hasWord_71 : decode cX8_hasWord 71 = .ok (.ifCond .eq 24, 3) := by decide +kernel
theorem dX8_hasWord_74 : decode cX8_hasWord 74 = .ok (.iload_n 2, 1) := by decide +kernel
theorem dX8_hasWord_75 : decode cX8_hasWord 75 = .ok (.iconst 5, 1) := by decide +kernel
theorem dX8_hasWord_76 : decode cX8_hasWord 76 = .ok (.if_icmp .lt 15, 3) := by decide +kernel
theorem dX8_hasWord_79 : decode cX8_hasWord 79 = .ok (.aload_n 0, 1) := by decide +kernel
theorem dX8_hasWord_80 : decode cX8_hasWord 80 = .ok (.iload_n 1, 1) := by decide +kernel
theorem dX8_hasWord_81 : decode cX8_hasWord 81 = .ok (.iconst 4, 1) := by decide +kernel
theorem dX8_hasWord_82 : decode cX8_hasWord 82 = .ok (.iadd, 1) := by decide +kernel
theorem dX8_hasWord_83 : decode cX8_hasWord 83 = .ok (.invokevirtual 185, 3) := by decide +kernel
theorem dX8_hasWord_86 : decode cX8_hasWord 86 = .ok (.iload 7, 2) := by decide +kernel
theorem dX8_hasWord_88 : decode cX8_hasWord 88 = .ok (.if_icmp .ne 7, 3) := by decide +kernel
theorem dX8_hasWord_91 : decode cX8_hasWord 91 = .ok (.iconst 1, 1) := by decide +kernel
theorem dX8_hasWord_92 : decode cX8_hasWord 92 = .ok (.goto 4, 3) := by decide +kernel
theorem dX8_hasWord_95 : decode cX8_hasWord 95 = .ok (.iconst 0, 1) := by decide +kernel
theorem dX8_hasWord_96 : decode cX8_hasWord 96 = .ok (.istore 9, 2) := by decide +kernel
theorem dX8_hasWord_98 : decode cX8_hasWord 98 = .ok (.iload 9, 2) := by decide +kernel
theorem dX8_hasWord_100 : decode cX8_hasWord 100 = .ok (.ifCond .eq 25, 3) := by decide +kernel
theorem dX8_hasWord_103 : decode cX8_hasWord 103 = .ok (.iload_n 2, 1) := by decide +kernel
theorem dX8_hasWord_104 : decode cX8_hasWord 104 = .ok (.bipush 6, 2) := by decide +kernel
theorem dX8_hasWord_106 : decode cX8_hasWord 106 = .ok (.if_icmp .lt 15, 3) := by decide +kernel
theorem dX8_hasWord_109 : decode cX8_hasWord 109 = .ok (.aload_n 0, 1) := by decide +kernel
theorem dX8_hasWord_110 : decode cX8_hasWord 110 = .ok (.iload_n 1, 1) := by decide +kernel
theorem dX8_hasWord_111 : decode cX8_hasWord 111 = .ok (.iconst 5, 1) := by decide +kernel
theorem dX8_hasWord_112 : decode cX8_hasWord 112 = .ok (.iadd, 1) := by decide +kernel
theorem dX8_hasWord_113 : decode cX8_hasWord 113 = .ok (.invokevirtual 185, 3) := by decide +kernel
theorem dX8_hasWord_116 : decode cX8_hasWord 116 = .ok (.iload 8, 2) := by decide +kernel
theorem dX8_hasWord_118 : decode cX8_hasWord 118 = .ok (.if_icmp .ne 7, 3) := by decide +kernel
theorem dX8_hasWord_121 : decode cX8_hasWord 121 = .ok (.iconst 1, 1) := by decide +kernel
theorem dX8_hasWord_122 : decode cX8_hasWord 122 = .ok (.goto 4, 3) := by decide +kernel
theorem dX8_hasWord_125 : decode cX8_hasWord 125 = .ok (.iconst 0, 1) := by decide +kernel
theorem dX8_hasWord_126 : decode cX8_hasWord 126 = .ok (.istore 9, 2) := by decide +kernel
theorem dX8_hasWord_128 : decode cX8_hasWord 128 = .ok (.iload 9, 2) := by decide +kernel
theorem dX8_hasWord_130 : decode cX8_hasWord 130 = .ok (.ifCond .eq 17, 3) := by decide +kernel
theorem dX8_hasWord_133 : decode cX8_hasWord 133 = .ok (.aload_n 0, 1) := by decide +kernel
theorem dX8_hasWord_134 : decode cX8_hasWord 134 = .ok (.getfield 182, 3) := by decide +kernel
theorem dX8_hasWord_137 : decode cX8_hasWord 137 = .ok (.iload_n 1, 1) := by decide +kernel
theorem dX8_hasWord_138 : decode cX8_hasWord 138 = .ok (.isub, 1) := by decide +kernel
theorem dX8_hasWord_139 : decode cX8_hasWord 139 = .ok (.iload_n 2, 1) := by decide +kernel
theorem dX8_hasWord_140 : decode cX8_hasWord 140 = .ok (.if_icmp .ne 7, 3) := by decide +kernel
theorem dX8_hasWord_143 : decode cX8_hasWord 143 = .ok (.iconst 1, 1) := by decide +kernel
theorem dX8_hasWord_144 : decode cX8_hasWord 144 = .ok (.goto 4, 3) := by decide +kernel
theorem dX8_hasWord_147 : decode cX8_hasWord 147 = .ok (.iconst 0, 1) := by decide +kernel
theorem dX8_hasWord_148 : decode cX8_hasWord 148 = .ok (.ireturn, 1) := by decide +kernel
set_option maxRecDepth 20000 in
theorem ggX8_kindFrom_X8_hasWord : GoodIn wsX8_kindFrom wsX8_hasWord := goodIn_r _ [5, 6, 7, 8, 9, 4, 10, 11, 12, 13, 14, 15, 16, 17, 18, 19, 20, 21, 22, 23] (by decide +kernel) (by decide +kernel)
set_option maxRecDepth 20000 in
theorem gX8_kindFrom_X8_hasWord : GoodIn wsX8_kindFrom (wsV RX8 188 RX8 yX8_hasWord wsX8_hasWord) := goodIn_app (goodIn_of _ (by decide +kernel)) ggX8_kindFrom_X8_hasWord
theorem dX8_kindFrom_0 : decode cX8_kindFrom 0 = .ok (.aload_n 0, 1) := by decide +kernel
theorem dX8_kindFrom_1 : decode cX8_kindFrom 1 = .ok (.iload_n 1, 1) := by decide +kernel
theorem dX8_kindFrom_2 : decode cX8_kindFrom 2 = .ok (.iconst 4, 1) := by decide +kernel
theorem dX8_kindFrom_3 : decode cX8_kindFrom 3 = .ok (.bipush 114, 2) := by decide +kernel
theorem dX8_kindFrom_5 : decode cX8_kindFrom 5 = .ok (.bipush 105, 2) := by decide +kernel
theorem dX8_kindFrom_7 : decode cX8_kindFrom 7 = .ok (.bipush 110, 2) := by decide +kernel
theorem dX8_kindFrom_9 : decode cX8_kindFrom 9 = .ok (.bipush 103, 2) := by decide +kernel
theorem dX8_kindFrom_11 : decode cX8_kindFrom 11 = .ok (.iconst 0, 1) := by decide +kernel
theorem dX8_kindFrom_12 : decode cX8_kindFrom 12 = .ok (.iconst 0, 1) := by decide +kernel
theorem dX8_kindFrom_13 : decode cX8_kindFrom 13 = .ok (.invokevirtual 188, 3) := by decide +kernel
theorem dX8_kindFrom_16 : decode cX8_kindFrom 16 = .ok (.ifCond .eq 5, 3) := by decide +kernel
theorem dX8_kindFrom_19 : decode cX8_kindFrom 19 = .ok (.iconst 0, 1) := by decide +kernel
theorem dX8_kindFrom_20 : decode cX8_kindFrom 20 = .ok (.ireturn, 1) := by decide +kernel
theorem dX8_kindFrom_21 : decode cX8_kindFrom 21 = .ok (.aload_n 0, 1) := by decide +kernel
theorem dX8_kindFrom_22 : decode cX8_kindFrom 22 = .ok (.iload_n 1, 1) := by decide +kernel
theorem dX8_kindFrom_23 : decode cX8_kindFrom 23 = .ok (.iconst 4, 1) := by decide +kernel
theorem dX8_kindFrom_24 : decode cX8_kindFrom 24 = .ok (.bipush 109, 2) := by decide +kernel
theorem dX8_kindFrom_26 : decode cX8_kindFrom 26 = .ok (.bipush 111, 2) := by decide +kernel
theorem dX8_kindFrom_28 : decode cX8_kindFrom 28 = .ok (.bipush 118, 2) := by decide +kernel
theorem dX8_kindFrom_30 : decode cX8_kindFrom 30 = .ok (.bipush 101, 2) := by decide +kernel
theorem dX8_kindFrom_32 : decode cX8_kindFrom 32 = .ok (.iconst 0, 1) := by decide +kernel
theorem dX8_kindFrom_33 : decode cX8_kindFrom 33 = .ok (.iconst 0, 1) := by decide +kernel
theorem dX8_kindFrom_34 : decode cX8_kindFrom 34 = .ok (.invokevirtual 188, 3) := by decide +kernel
theorem dX8_kindFrom_37 : decode cX8_kindFrom 37 = .ok (.ifCond .eq 5, 3) := by decide +kernel
theorem dX8_kindFrom_40 : decode cX8_kindFrom 40 = .ok (.iconst 1, 1) := by decide +kernel
theorem dX8_kindFrom_41 : decode cX8_kindFrom 41 = .ok (.ireturn, 1) := by decide +kernel
theorem dX8_kindFrom_42 : decode cX8_kindFrom 42 = .ok (.aload_n 0, 1) := by decide +kernel
theorem dX8_kindFrom_43 : decode cX8_kindFrom 43 = .ok (.iload_n 1, 1) := by decide +kernel
theorem dX8_kindFrom_44 : decode cX8_kindFrom 44 = .ok (.iconst 4, 1) := by decide +kernel
theorem dX8_kindFrom_45 : decode cX8_kindFrom 45 = .ok (.bipush 115, 2) := by decide +kernel
theorem dX8_kindFrom_47 : decode cX8_kindFrom 47 = .ok (.bipush 105, 2) := by decide +kernel
theorem dX8_kindFrom_49 : decode cX8_kindFrom 49 = .ok (.bipush 103, 2) := by decide +kernel
theorem dX8_kindFrom_51 : decode cX8_kindFrom 51 = .ok (.bipush 110, 2) := by decide +kernel
theorem dX8_kindFrom_53 : decode cX8_kindFrom 53 = .ok (.iconst 0, 1) := by decide +kernel
theorem dX8_kindFrom_54 : decode cX8_kindFrom 54 = .ok (.iconst 0, 1) := by decide +kernel
theorem dX8_kindFrom_55 : decode cX8_kindFrom 55 = .ok (.invokevirtual 188, 3) := by decide +kernel
theorem dX8_kindFrom_58 : decode cX8_kindFrom 58 = .ok (.ifCond .eq 5, 3) := by decide +kernel
theorem dX8_kindFrom_61 : decode cX8_kindFrom 61 = .ok (.iconst 2, 1) := by decide +kernel
theorem dX8_kindFrom_62 : decode cX8_kindFrom 62 = .ok (.ireturn, 1) := by decide +kernel
theorem dX8_kindFrom_63 : decode cX8_kindFrom 63 = .ok (.aload_n 0, 1) := by decide +kernel
theorem dX8_kindFrom_64 : decode cX8_kindFrom 64 = .ok (.iload_n 1, 1) := by decide +kernel
theorem dX8_kindFrom_65 : decode cX8_kindFrom 65 = .ok (.bipush 6, 2) := by decide +kernel
theorem dX8_kindFrom_67 : decode cX8_kindFrom 67 = .ok (.bipush 115, 2) := by decide +kernel
theorem dX8_kindFrom_69 : decode cX8_kindFrom 69 = .ok (.bipush 116, 2) := by decide +kernel
theorem dX8_kindFrom_71 : decode cX8_kindFrom 71 = .ok (.bipush 114, 2) := by decide +kernel
theorem dX8_kindFrom_73 : decode cX8_kindFrom 73 = .ok (.bipush 105, 2) := by decide +kernel
theorem dX8_kindFrom_75 : decode cX8_kindFrom 75 = .ok (.bipush 107, 2) := by decide +kernel
theorem dX8_kindFrom_77 : decode cX8_kindFrom 77 = .ok (.bipush 101, 2) := by decide +kernel
theorem dX8_kindFrom_79 : decode cX8_kindFrom 79 = .ok (.invokevirtual 188, 3) := by decide +kernel
theorem dX8_kindFrom_82 : decode cX8_kindFrom 82 = .ok (.ifCond .eq 5, 3) := by decide +kernel
theorem dX8_kindFrom_85 : decode cX8_kindFrom 85 = .ok (.iconst 3, 1) := by decide +kernel
theorem dX8_kindFrom_86 : decode cX8_kindFrom 86 = .ok (.ireturn, 1) := by decide +kernel
theorem dX8_kindFrom_87 : decode cX8_kindFrom 87 = .ok (.aload_n 0, 1) := by decide +kernel
theorem dX8_kindFrom_88 : decode cX8_kindFrom 88 = .ok (.iload_n 1, 1) := by decide +kernel
theorem dX8_kindFrom_89 : decode cX8_kindFrom 89 = .ok (.iconst 4, 1) := by decide +kernel
theorem dX8_kindFrom_90 : decode cX8_kindFrom 90 = .ok (.bipush 119, 2) := by decide +kernel
theorem dX8_kindFrom_92 : decode cX8_kindFrom 92 = .ok (.bipush 111, 2) := by decide +kernel
theorem dX8_kindFrom_94 : decode cX8_kindFrom 94 = .ok (.bipush 114, 2) := by decide +kernel
theorem dX8_kindFrom_96 : decode cX8_kindFrom 96 = .ok (.bipush 107, 2) := by decide +kernel
theorem dX8_kindFrom_98 : decode cX8_kindFrom 98 = .ok (.iconst 0, 1) := by decide +kernel
theorem dX8_kindFrom_99 : decode cX8_kindFrom 99 = .ok (.iconst 0, 1) := by decide +kernel
theorem dX8_kindFrom_100 : decode cX8_kindFrom 100 = .ok (.invokevirtual 188, 3) := by decide +kernel
theorem dX8_kindFrom_103 : decode cX8_kindFrom 103 = .ok (.ifCond .eq 5, 3) := by decide +kernel
theorem dX8_kindFrom_106 : decode cX8_kindFrom 106 = .ok (.iconst 4, 1) := by decide +kernel
theorem dX8_kindFrom_107 : decode cX8_kindFrom 107 = .ok (.ireturn, 1) := by decide +kernel
theorem dX8_kindFrom_108 : decode cX8_kindFrom 108 = .ok (.aload_n 0, 1) := by decide +kernel
theorem dX8_kindFrom_109 : decode cX8_kindFrom 109 = .ok (.iload_n 1, 1) := by decide +kernel
theorem dX8_kindFrom_110 : decode cX8_kindFrom 110 = .ok (.iconst 3, 1) := by decide +kernel
theorem dX8_kindFrom_111 : decode cX8_kindFrom 111 = .ok (.bipush 112, 2) := by decide +kernel
theorem dX8_kindFrom_113 : decode cX8_kindFrom 113 = .ok (.bipush 117, 2) := by decide +kernel
theorem dX8_kindFrom_115 : decode cX8_kindFrom 115 = .ok (.bipush 116, 2) := by decide +kernel
theorem dX8_kindFrom_117 : decode cX8_kindFrom 117 = .ok (.iconst 0, 1) := by decide +kernel
theorem dX8_kindFrom_118 : decode cX8_kindFrom 118 = .ok (.iconst 0, 1) := by decide +kernel
theorem dX8_kindFrom_119 : decode cX8_kindFrom 119 = .ok (.iconst 0, 1) := by decide +kernel
theorem dX8_kindFrom_120 : decode cX8_kindFrom 120 = .ok (.invokevirtual 188, 3) := by decide +kernel
theorem dX8_kindFrom_123 : decode cX8_kindFrom 123 = .ok (.ifCond .eq 5, 3) := by decide +kernel
theorem dX8_kindFrom_126 : decode cX8_kindFrom 126 = .ok (.iconst 5, 1) := by decide +kernel
theorem dX8_kindFrom_127 : decode cX8_kindFrom 127 = .ok (.ireturn, 1) := by decide +kernel
theorem dX8_kindFrom_128 : decode cX8_kindFrom 128 = .ok (.aload_n 0, 1) := by decide +kernel
theorem dX8_kindFrom_129 : decode cX8_kindFrom 129 = .ok (.iload_n 1, 1) := by decide +kernel
theorem dX8_kindFrom_130 : decode cX8_kindFrom 130 = .ok (.iconst 3, 1) := by decide +kernel
theorem dX8_kindFrom_131 : decode cX8_kindFrom 131 = .ok (.bipush 115, 2) := by decide +kernel
theorem dX8_kindFrom_133 : decode cX8_kindFrom 133 = .ok (.bipush 101, 2) := by decide +kernel
theorem dX8_kindFrom_135 : decode cX8_kindFrom 135 = .ok (.bipush 116, 2) := by decide +kernel
theorem dX8_kindFrom_137 : decode cX8_kindFrom 137 = .ok (.iconst 0, 1) := by decide +kernel
theorem dX8_kindFrom_138 : decode cX8_kindFrom 138 = .ok (.iconst 0, 1) := by decide +kernel
theorem dX8_kindFrom_139 : decode cX8_kindFrom 139 = .ok (.iconst 0, 1) := by decide +kernel
theorem dX8_kindFrom_140 : decode cX8_kindFrom 140 = .ok (.invokevirtual 188, 3) := by decide +kernel
theorem dX8_kindFrom_143 : decode cX8_kindFrom 143 = .ok (.ifCond .eq 6, 3) := by decide +kernel
theorem dX8_kindFrom_146 : decode cX8_kindFrom 146 = .ok (.bipush 6, 2) := by decide +kernel
theorem dX8_kindFrom_148 : decode cX8_kindFrom 148 = .ok (.ireturn, 1) := by decide +kernel
theorem dX8_kindFrom_149 : decode cX8_kindFrom 149 = .ok (.aload_n 0, 1) := by decide +kernel
theorem dX8_kindFrom_150 : decode cX8_kindFrom 150 = .ok (.iload_n 1, 1) := by decide +kernel
theorem dX8_kindFrom_151 : decode cX8_kindFrom 151 = .ok (.iconst 5, 1) := by decide +kernel
theorem dX8_kindFrom_152 : decode cX8_kindFrom 152 = .ok (.bipush 116, 2) := by decide +kernel
theorem dX8_kindFrom_154 : decode cX8_kindFrom 154 = .ok (.bipush 105, 2) := by decide +kernel
theorem dX8_kindFrom_156 : decode cX8_kindFrom 156 = .ok (.bipush 99, 2) := by decide +kernel
theorem dX8_kindFrom_158 : decode cX8_kindFrom 158 = .ok (.bipush 107, 2) := by decide +kernel
theorem dX8_kindFrom_160 : decode cX8_kindFrom 160 = .ok (.bipush 115, 2) := by decide +kernel
theorem dX8_kindFrom_162 : decode cX8_kindFrom 162 = .ok (.iconst 0, 1) := by decide +kernel
theorem dX8_kindFrom_163 : decode cX8_kindFrom 163 = .ok (.invokevirtual 188, 3) := by decide +kernel
theorem dX8_kindFrom_166 : decode cX8_kindFrom 166 = .ok (.ifCond .eq 8, 3) := by decide +kernel
theorem dX8_kindFrom_169 : decode cX8_kindFrom 169 = .ok (.bipush 7, 2) := by decide +kernel
theorem dX8_kindFrom_171 : decode cX8_kindFrom 171 = .ok (.goto 6, 3) := by decide +kernel
theorem dX8_kindFrom_174 : decode cX8_kindFrom 174 = .ok (.sipush (-1000), 3) := by decide +kernel
theorem dX8_kindFrom_177 : decode cX8_kindFrom 177 = .ok (.ireturn, 1) := by decide +kernel
theorem dX8_numbersOf_0 : decode cX8_numbersOf 0 = .ok (.iload_n 0, 1) := by decide +kernel
theorem dX8_numbersOf_1 : decode cX8_numbersOf 1 = .ok (.ifCond .ne 7, 3) := by decide +kernel
theorem dX8_numbersOf_4 : decode cX8_numbersOf 4 = .ok (.iconst 3, 1) := by decide +kernel
theorem dX8_numbersOf_5 : decode cX8_numbersOf 5 = .ok (.goto 28, 3) := by decide +kernel
theorem dX8_numbersOf_8 : decode cX8_numbersOf 8 = .ok (.iload_n 0, 1) := by decide +kernel
theorem dX8_numbersOf_9 : decode cX8_numbersOf 9 = .ok (.iconst 1, 1) := by decide +kernel
theorem dX8_numbersOf_10 : decode cX8_numbersOf 10 = .ok (.if_icmp .ne 7, 3) := by decide +kernel
theorem dX8_numbersOf_13 : decode cX8_numbersOf 13 = .ok (.iconst 5, 1) := by decide +kernel
theorem dX8_numbersOf_14 : decode cX8_numbersOf 14 = .ok (.goto 19, 3) := by decide +kernel
theorem dX8_numbersOf_17 : decode cX8_numbersOf 17 = .ok (.iload_n 0, 1) := by decide +kernel
theorem dX8_numbersOf_18 : decode cX8_numbersOf 18 = .ok (.iconst 5, 1) := by decide +kernel
theorem dX8_numbersOf_19 : decode cX8_numbersOf 19 = .ok (.if_icmp .eq 9, 3) := by decide +kernel
theorem dX8_numbersOf_22 : decode cX8_numbersOf 22 = .ok (.iload_n 0, 1) := by decide +kernel
theorem dX8_numbersOf_23 : decode cX8_numbersOf 23 = .ok (.bipush 6, 2) := by decide +kernel
theorem dX8_numbersOf_25 : decode cX8_numbersOf 25 = .ok (.if_icmp .ne 7, 3) := by decide +kernel
theorem dX8_numbersOf_28 : decode cX8_numbersOf 28 = .ok (.iconst 2, 1) := by decide +kernel
theorem dX8_numbersOf_29 : decode cX8_numbersOf 29 = .ok (.goto 4, 3) := by decide +kernel
theorem dX8_numbersOf_32 : decode cX8_numbersOf 32 = .ok (.iconst 1, 1) := by decide +kernel
theorem dX8_numbersOf_33 : decode cX8_numbersOf 33 = .ok (.ireturn, 1) := by decide +kernel
set_option maxRecDepth 20000 in
theorem ggX8_readsNumber_X8_byteAt : GoodIn wsX8_readsNumber wsX8_byteAt := goodIn_r _ [7, 8, 9, 17, 18, 19, 20, 21, 22, 23, 24, 25, 26, 27] (by decide +kernel) (by decide +kernel)
set_option maxRecDepth 20000 in
theorem gX8_readsNumber_X8_byteAt : GoodIn wsX8_readsNumber (wsV RX8 185 RX8 yX8_byteAt wsX8_byteAt) := goodIn_app (goodIn_of _ (by decide +kernel)) ggX8_readsNumber_X8_byteAt
set_option maxRecDepth 20000 in
theorem ggX8_readsNumber_X8_skipSpaces : GoodIn wsX8_readsNumber wsX8_skipSpaces := goodIn_r _ [13, 1, 3, 4, 5, 6, 7, 8, 9, 17, 18, 19, 20, 21, 22, 23, 24, 25, 26, 27] (by decide +kernel) (by decide +kernel)
set_option maxRecDepth 20000 in
theorem gX8_readsNumber_X8_skipSpaces : GoodIn wsX8_readsNumber (wsV RX8 192 RX8 yX8_skipSpaces wsX8_skipSpaces) := goodIn_app (goodIn_of _ (by decide +kernel)) ggX8_readsNumber_X8_skipSpaces
set_option maxRecDepth 20000 in
theorem ggX8_readsNumber_X8_within : GoodIn wsX8_readsNumber wsX8_within := goodIn_r _ [16] (by decide +kernel) (by decide +kernel)
set_option maxRecDepth 20000 in
theorem gX8_readsNumber_X8_within : GoodIn wsX8_readsNumber (va_wsS RX8 39 yX8_within wsX8_within) := goodIn_app (goodIn_of _ (by decide +kernel)) ggX8_readsNumber_X8_within
theorem dX8_readsNumber_0 : decode cX8_readsNumber 0 = .ok (.aload_n 0, 1) := by decide +kernel
theorem dX8_readsNumber_1 : decode cX8_readsNumber 1 = .ok (.aload_n 0, 1) := by decide +kernel
theorem dX8_readsNumber_2 : decode cX8_readsNumber 2 = .ok (.getfield 182, 3) := by decide +kernel
theorem dX8_readsNumber_5 : decode cX8_readsNumber 5 = .ok (.invokevirtual 185, 3) := by decide +kernel
theorem dX8_readsNumber_8 : decode cX8_readsNumber 8 = .ok (.bipush 32, 2) := by decide +kernel
theorem dX8_readsNumber_10 : decode cX8_readsNumber 10 = .ok (.if_icmp .eq 5, 3) := by decide +kernel
theorem dX8_readsNumber_13 : decode cX8_readsNumber 13 = .ok (.iconst 0, 1) := by decide +kernel
theorem dX8_readsNumber_14 : decode cX8_readsNumber 14 = .ok (.ireturn, 1) := by decide +kernel
theorem dX8_readsNumber_15 : decode cX8_readsNumber 15 = .ok (.aload_n 0, 1) := by decide +kernel
theorem dX8_readsNumber_16 : decode cX8_readsNumber 16 = .ok (.invokevirtual 192, 3) := by decide +kernel
theorem dX8_readsNumber_19 : decode cX8_readsNumber 19 = .ok (.aload_n 0, 1) := by decide +kernel
theorem dX8_readsNumber_20 : decode cX8_readsNumber 20 = .ok (.aload_n 0, 1) := by decide +kernel
theorem dX8_readsNumber_21 : decode cX8_readsNumber 21 = .ok (.getfield 182, 3) := by decide +kernel
theorem dX8_readsNumber_24 : decode cX8_readsNumber 24 = .ok (.invokevirtual 185, 3) := by decide +kernel
theorem dX8_readsNumber_27 : decode cX8_readsNumber 27 = .ok (.bipush 48, 2) := by decide +kernel
theorem dX8_readsNumber_29 : decode cX8_readsNumber 29 = .ok (.bipush 57, 2) := by decide +kernel
theorem dX8_readsNumber_31 : decode cX8_readsNumber 31 = .ok (.invokestatic 39, 3) := by decide +kernel
theorem dX8_readsNumber_34 : decode cX8_readsNumber 34 = .ok (.ifCond .ne 5, 3) := by decide +kernel
theorem dX8_readsNumber_37 : decode cX8_readsNumber 37 = .ok (.iconst 0, 1) := by decide +kernel
theorem dX8_readsNumber_38 : decode cX8_readsNumber 38 = .ok (.ireturn, 1) := by decide +kernel
theorem dX8_readsNumber_39 : decode cX8_readsNumber 39 = .ok (.aload_n 0, 1) := by decide +kernel
theorem dX8_readsNumber_40 : decode cX8_readsNumber 40 = .ok (.getfield 22, 3) := by decide +kernel
theorem dX8_readsNumber_43 : decode cX8_readsNumber 43 = .ok (.iload_n 1, 1) := by decide +kernel
theorem dX8_readsNumber_44 : decode cX8_readsNumber 44 = .ok (.iconst 0, 1) := by decide +kernel
theorem dX8_readsNumber_45 : decode cX8_readsNumber 45 = .ok (.iastore, 1) := by decide +kernel
theorem dX8_readsNumber_46 : decode cX8_readsNumber 46 = .ok (.iconst 0, 1) := by decide +kernel
theorem dX8_readsNumber_47 : decode cX8_readsNumber 47 = .ok (.istore_n 2, 1) := by decide +kernel
theorem dX8_readsNumber_48 : decode cX8_readsNumber 48 = .ok (.iload_n 2, 1) := by decide +kernel
theorem dX8_readsNumber_49 : decode cX8_readsNumber 49 = .ok (.iconst 3, 1) := by decide +kernel
theorem dX8_readsNumber_50 : decode cX8_readsNumber 50 = .ok (.if_icmp .ge 64, 3) := by decide +kernel
theorem dX8_readsNumber_53 : decode cX8_readsNumber 53 = .ok (.aload_n 0, 1) := by decide +kernel
theorem dX8_readsNumber_54 : decode cX8_readsNumber 54 = .ok (.aload_n 0, 1) := by decide +kernel
theorem dX8_readsNumber_55 : decode cX8_readsNumber 55 = .ok (.getfield 182, 3) := by decide +kernel
theorem dX8_readsNumber_58 : decode cX8_readsNumber 58 = .ok (.invokevirtual 185, 3) := by decide +kernel
theorem dX8_readsNumber_61 : decode cX8_readsNumber 61 = .ok (.bipush 48, 2) := by decide +kernel
theorem dX8_readsNumber_63 : decode cX8_readsNumber 63 = .ok (.bipush 57, 2) := by decide +kernel
theorem dX8_readsNumber_65 : decode cX8_readsNumber 65 = .ok (.invokestatic 39, 3) := by decide +kernel
theorem dX8_readsNumber_68 : decode cX8_readsNumber 68 = .ok (.ifCond .eq 46, 3) := by decide +kernel
theorem dX8_readsNumber_71 : decode cX8_readsNumber 71 = .ok (.aload_n 0, 1) := by decide +kernel
theorem dX8_readsNumber_72 : decode cX8_readsNumber 72 = .ok (.getfield 22, 3) := by decide +kernel
theorem dX8_readsNumber_75 : decode cX8_readsNumber 75 = .ok (.iload_n 1, 1) := by decide +kernel
theorem dX8_readsNumber_76 : decode cX8_readsNumber 76 = .ok (.bipush 10, 2) := by decide +kernel
theorem dX8_readsNumber_78 : decode cX8_readsNumber 78 = .ok (.aload_n 0, 1) := by decide +kernel
theorem dX8_readsNumber_79 : decode cX8_readsNumber 79 = .ok (.getfield 22, 3) := by decide +kernel
theorem dX8_readsNumber_82 : decode cX8_readsNumber 82 = .ok (.iload_n 1, 1) := by decide +kernel
theorem dX8_readsNumber_83 : decode cX8_readsNumber 83 = .ok (.iaload, 1) := by decide +kernel
theorem dX8_readsNumber_84 : decode cX8_readsNumber 84 = .ok (.imul, 1) := by decide +kernel
theorem dX8_readsNumber_85 : decode cX8_readsNumber 85 = .ok (.aload_n 0, 1) := by decide +kernel
theorem dX8_readsNumber_86 : decode cX8_readsNumber 86 = .ok (.aload_n 0, 1) := by decide +kernel
theorem dX8_readsNumber_87 : decode cX8_readsNumber 87 = .ok (.getfield 182, 3) := by decide +kernel
theorem dX8_readsNumber_90 : decode cX8_readsNumber 90 = .ok (.invokevirtual 185, 3) := by decide +kernel
theorem dX8_readsNumber_93 : decode cX8_readsNumber 93 = .ok (.iadd, 1) := by decide +kernel
theorem dX8_readsNumber_94 : decode cX8_readsNumber 94 = .ok (.bipush 48, 2) := by decide +kernel
theorem dX8_readsNumber_96 : decode cX8_readsNumber 96 = .ok (.isub, 1) := by decide +kernel
theorem dX8_readsNumber_97 : decode cX8_readsNumber 97 = .ok (.iastore, 1) := by decide +kernel
theorem dX8_readsNumber_98 : decode cX8_readsNumber 98 = .ok (.aload_n 0, 1) := by decide +kernel
theorem dX8_readsNumber_99 : decode cX8_readsNumber 99 = .ok (.dup, 1) := by decide +kernel
theorem dX8_readsNumber_100 : decode cX8_readsNumber 100 = .ok (.getfield 182, 3) := by decide +kernel
theorem dX8_readsNumber_103 : decode cX8_readsNumber 103 = .ok (.iconst 1, 1) := by decide +kernel
theorem dX8_readsNumber_104 : decode cX8_readsNumber 104 = .ok (.iadd, 1) := by decide +kernel
theorem dX8_readsNumber_105 : decode cX8_readsNumber 105 = .ok (.putfield 182, 3) := by decide +kernel
theorem dX8_readsNumber_108 : decode cX8_readsNumber 108 = .ok (.iinc 2 1, 3) := by decide +kernel
theorem dX8_readsNumber_111 : decode cX8_readsNumber 111 = .ok (.goto (-63), 3) := by decide +kernel
theorem dX8_readsNumber_114 : decode cX8_readsNumber 114 = .ok (.iconst 1, 1) := by decide +kernel
theorem dX8_readsNumber_115 : decode cX8_readsNumber 115 = .ok (.ireturn, 1) := by decide +kernel
set_option maxRecDepth 20000 in
theorem ggX8_readsCommand_X8_byteAt : GoodIn wsX8_readsCommand wsX8_byteAt := goodIn_r _ [7, 8, 9, 33, 34, 35, 36, 37, 38, 39, 40, 41, 42, 43] (by decide +kernel) (by decide +kernel)
set_option maxRecDepth 20000 in
theorem gX8_readsCommand_X8_byteAt : GoodIn wsX8_readsCommand (wsV RX8 185 RX8 yX8_byteAt wsX8_byteAt) := goodIn_app (goodIn_of _ (by decide +kernel)) ggX8_readsCommand_X8_byteAt
set_option maxRecDepth 20000 in
theorem ggX8_readsCommand_X8_within : GoodIn wsX8_readsCommand wsX8_within := goodIn_r _ [12] (by decide +kernel) (by decide +kernel)
set_option maxRecDepth 20000 in
theorem gX8_readsCommand_X8_within : GoodIn wsX8_readsCommand (va_wsS RX8 39 yX8_within wsX8_within) := goodIn_app (goodIn_of _ (by decide +kernel)) ggX8_readsCommand_X8_within
set_option maxRecDepth 20000 in
theorem ggX8_readsCommand_X8_kindFrom : GoodIn wsX8_readsCommand wsX8_kindFrom := goodIn_r _ [16, 17, 18, 19, 6, 20, 1, 3, 4, 5, 7, 8, 9, 33, 34, 35, 36, 37, 38, 39, 40, 41, 42, 43] (by decide +kernel) (by decide +kernel)
set_option maxRecDepth 20000 in
theorem gX8_readsCommand_X8_kindFrom : GoodIn wsX8_readsCommand (wsV RX8 195 RX8 yX8_kindFrom wsX8_kindFrom) := goodIn_app (goodIn_of _ (by decide +kernel)) ggX8_readsCommand_X8_kindFrom
set_option maxRecDepth 20000 in
theorem ggX8_readsCommand_X8_numbersOf : GoodIn wsX8_readsCommand wsX8_numbersOf := goodIn_r _ [23] (by decide +kernel) (by decide +kernel)
set_option maxRecDepth 20000 in
theorem gX8_readsCommand_X8_numbersOf : GoodIn wsX8_readsCommand (va_wsS RX8 201 yX8_numbersOf wsX8_numbersOf) := goodIn_app (goodIn_of _ (by decide +kernel)) ggX8_readsCommand_X8_numbersOf
set_option maxRecDepth 20000 in
theorem ggX8_readsCommand_X8_readsNumber : GoodIn wsX8_readsCommand wsX8_readsNumber := goodIn_r _ [27, 1, 28, 3, 4, 5, 6, 7, 8, 9, 29, 30, 31, 32, 10, 11, 12, 33, 34, 35, 36, 37, 38, 39, 40, 41, 42, 43] (by decide +kernel) (by decide +kernel)
set_option maxRecDepth 20000 in
theorem gX8_readsCommand_X8_readsNumber : GoodIn wsX8_readsCommand (wsV RX8 204 RX8 yX8_readsNumber wsX8_readsNumber) := goodIn_app (goodIn_of _ (by decide +kernel)) ggX8_readsCommand_X8_readsNumber
set_option maxRecDepth 20000 in
theorem ggX8_readsCommand_X8_skipSpaces : GoodIn wsX8_readsCommand wsX8_skipSpaces := goodIn_r _ [32, 1, 3, 4, 5, 6, 7, 8, 9, 33, 34, 35, 36, 37, 38, 39, 40, 41, 42, 43] (by decide +kernel) (by decide +kernel)
set_option maxRecDepth 20000 in
theorem gX8_readsCommand_X8_skipSpaces : GoodIn wsX8_readsCommand (wsV RX8 192 RX8 yX8_skipSpaces wsX8_skipSpaces) := goodIn_app (goodIn_of _ (by decide +kernel)) ggX8_readsCommand_X8_skipSpaces
theorem dX8_readsCommand_0 : decode cX8_readsCommand 0 = .ok (.aload_n 0, 1) := by decide +kernel
theorem dX8_readsCommand_1 : decode cX8_readsCommand 1 = .ok (.getfield 182, 3) := by decide +kernel
theorem dX8_readsCommand_4 : decode cX8_readsCommand 4 = .ok (.istore_n 1, 1) := by decide +kernel
theorem dX8_readsCommand_5 : decode cX8_readsCommand 5 = .ok (.aload_n 0, 1) := by decide +kernel
theorem dX8_readsCommand_6 : decode cX8_readsCommand 6 = .ok (.aload_n 0, 1) := by decide +kernel
theorem dX8_readsCommand_7 : decode cX8_readsCommand 7 = .ok (.getfield 182, 3) := by decide +kernel
theorem dX8_readsCommand_10 : decode cX8_readsCommand 10 = .ok (.invokevirtual 185, 3) := by decide +kernel
theorem dX8_readsCommand_13 : decode cX8_readsCommand 13 = .ok (.bipush 97, 2) := by decide +kernel
theorem dX8_readsCommand_15 : decode cX8_readsCommand 15 = .ok (.bipush 122, 2) := by decide +kernel
theorem dX8_readsCommand_17 : decode cX8_readsCommand 17 = .ok (.invokestatic 39, 3) := by decide +kernel
theorem dX8_readsCommand_20 : decode cX8_readsCommand 20 = .ok (.ifCond .eq 16, 3) := by decide +kernel
theorem dX8_readsCommand_23 : decode cX8_readsCommand 23 = .ok (.aload_n 0, 1) := by decide +kernel
theorem dX8_readsCommand_24 : decode cX8_readsCommand 24 = .ok (.dup, 1) := by decide +kernel
theorem dX8_readsCommand_25 : decode cX8_readsCommand 25 = .ok (.getfield 182, 3) := by decide +kernel
theorem dX8_readsCommand_28 : decode cX8_readsCommand 28 = .ok (.iconst 1, 1) := by decide +kernel
theorem dX8_readsCommand_29 : decode cX8_readsCommand 29 = .ok (.iadd, 1) := by decide +kernel
theorem dX8_readsCommand_30 : decode cX8_readsCommand 30 = .ok (.putfield 182, 3) := by decide +kernel
theorem dX8_readsCommand_33 : decode cX8_readsCommand 33 = .ok (.goto (-28), 3) := by decide +kernel
theorem dX8_readsCommand_36 : decode cX8_readsCommand 36 = .ok (.aload_n 0, 1) := by decide +kernel
theorem dX8_readsCommand_37 : decode cX8_readsCommand 37 = .ok (.aload_n 0, 1) := by decide +kernel
theorem dX8_readsCommand_38 : decode cX8_readsCommand 38 = .ok (.iload_n 1, 1) := by decide +kernel
theorem dX8_readsCommand_39 : decode cX8_readsCommand 39 = .ok (.invokevirtual 195, 3) := by decide +kernel
theorem dX8_readsCommand_42 : decode cX8_readsCommand 42 = .ok (.putfield 198, 3) := by decide +kernel
theorem dX8_readsCommand_45 : decode cX8_readsCommand 45 = .ok (.aload_n 0, 1) := by decide +kernel
theorem dX8_readsCommand_46 : decode cX8_readsCommand 46 = .ok (.getfield 198, 3) := by decide +kernel
theorem dX8_readsCommand_49 : decode cX8_readsCommand 49 = .ok (.sipush (-1000), 3) := by decide +kernel
theorem dX8_readsCommand_52 : decode cX8_readsCommand 52 = .ok (.if_icmp .ne 10, 3) := by decide +kernel
theorem dX8_readsCommand_55 : decode cX8_readsCommand 55 = .ok (.aload_n 0, 1) := by decide +kernel
theorem dX8_readsCommand_56 : decode cX8_readsCommand 56 = .ok (.iload_n 1, 1) := by decide +kernel
theorem dX8_readsCommand_57 : decode cX8_readsCommand 57 = .ok (.putfield 182, 3) := by decide +kernel
theorem dX8_readsCommand_60 : decode cX8_readsCommand 60 = .ok (.iconst 0, 1) := by decide +kernel
theorem dX8_readsCommand_61 : decode cX8_readsCommand 61 = .ok (.ireturn, 1) := by decide +kernel
theorem dX8_readsCommand_62 : decode cX8_readsCommand 62 = .ok (.iconst 0, 1) := by decide +kernel
theorem dX8_readsCommand_63 : decode cX8_readsCommand 63 = .ok (.istore_n 2, 1) := by decide +kernel
theorem dX8_readsCommand_64 : decode cX8_readsCommand 64 = .ok (.iload_n 2, 1) := by decide +kernel
theorem dX8_readsCommand_65 : decode cX8_readsCommand 65 = .ok (.aload_n 0, 1) := by decide +kernel
theorem dX8_readsCommand_66 : decode cX8_readsCommand 66 = .ok (.getfield 198, 3) := by decide +kernel
theorem dX8_readsCommand_69 : decode cX8_readsCommand 69 = .ok (.invokestatic 201, 3) := by decide +kernel
theorem dX8_readsCommand_72 : decode cX8_readsCommand 72 = .ok (.if_icmp .ge 19, 3) := by decide +kernel
theorem dX8_readsCommand_75 : decode cX8_readsCommand 75 = .ok (.aload_n 0, 1) := by decide +kernel
theorem dX8_readsCommand_76 : decode cX8_readsCommand 76 = .ok (.iload_n 2, 1) := by decide +kernel
theorem dX8_readsCommand_77 : decode cX8_readsCommand 77 = .ok (.invokevirtual 204, 3) := by decide +kernel
theorem dX8_readsCommand_80 : decode cX8_readsCommand 80 = .ok (.ifCond .ne 5, 3) := by decide +kernel
theorem dX8_readsCommand_83 : decode cX8_readsCommand 83 = .ok (.iconst 0, 1) := by decide +kernel
theorem dX8_readsCommand_84 : decode cX8_readsCommand 84 = .ok (.ireturn, 1) := by decide +kernel
theorem dX8_readsCommand_85 : decode cX8_readsCommand 85 = .ok (.iinc 2 1, 3) := by decide +kernel
theorem dX8_readsCommand_88 : decode cX8_readsCommand 88 = .ok (.goto (-24), 3) := by decide +kernel
theorem dX8_readsCommand_91 : decode cX8_readsCommand 91 = .ok (.aload_n 0, 1) := by decide +kernel
theorem dX8_readsCommand_92 : decode cX8_readsCommand 92 = .ok (.invokevirtual 192, 3) := by decide +kernel
theorem dX8_readsCommand_95 : decode cX8_readsCommand 95 = .ok (.aload_n 0, 1) := by decide +kernel
theorem dX8_readsCommand_96 : decode cX8_readsCommand 96 = .ok (.aload_n 0, 1) := by decide +kernel
theorem dX8_readsCommand_97 : decode cX8_readsCommand 97 = .ok (.getfield 182, 3) := by decide +kernel
theorem dX8_readsCommand_100 : decode cX8_readsCommand 100 = .ok (.invokevirtual 185, 3) := by decide +kernel
theorem dX8_readsCommand_103 : decode cX8_readsCommand 103 = .ok (.bipush 59, 2) := by decide +kernel
theorem dX8_readsCommand_105 : decode cX8_readsCommand 105 = .ok (.if_icmp .eq 5, 3) := by decide +kernel
theorem dX8_readsCommand_108 : decode cX8_readsCommand 108 = .ok (.iconst 0, 1) := by decide +kernel
theorem dX8_readsCommand_109 : decode cX8_readsCommand 109 = .ok (.ireturn, 1) := by decide +kernel
theorem dX8_readsCommand_110 : decode cX8_readsCommand 110 = .ok (.aload_n 0, 1) := by decide +kernel
theorem dX8_readsCommand_111 : decode cX8_readsCommand 111 = .ok (.dup, 1) := by decide +kernel
theorem dX8_readsCommand_112 : decode cX8_readsCommand 112 = .ok (.getfield 182, 3) := by decide +kernel
theorem dX8_readsCommand_115 : decode cX8_readsCommand 115 = .ok (.iconst 1, 1) := by decide +kernel
theorem dX8_readsCommand_116 : decode cX8_readsCommand 116 = .ok (.iadd, 1) := by decide +kernel
theorem dX8_readsCommand_117 : decode cX8_readsCommand 117 = .ok (.putfield 182, 3) := by decide +kernel
theorem dX8_readsCommand_120 : decode cX8_readsCommand 120 = .ok (.aload_n 0, 1) := by decide +kernel
theorem dX8_readsCommand_121 : decode cX8_readsCommand 121 = .ok (.invokevirtual 192, 3) := by decide +kernel
theorem dX8_readsCommand_124 : decode cX8_readsCommand 124 = .ok (.iconst 1, 1) := by decide +kernel
theorem dX8_readsCommand_125 : decode cX8_readsCommand 125 = .ok (.ireturn, 1) := by decide +kernel
set_option maxRecDepth 20000 in
theorem ggX8_carriesOut_X8_whyNoRing : GoodIn wsX8_carriesOut wsX8_whyNoRing := goodIn_r _ [8, 3, 9, 10, 11, 7, 12, 13, 14, 15, 16, 17, 18, 19, 136, 137, 138, 139, 140, 141, 142, 143, 144, 145, 146] (by decide +kernel) (by decide +kernel)
set_option maxRecDepth 20000 in
theorem gX8_carriesOut_X8_whyNoRing : GoodIn wsX8_carriesOut (wsV RX8 51 RX8 yX8_whyNoRing wsX8_whyNoRing) := goodIn_app (goodIn_of _ (by decide +kernel)) ggX8_carriesOut_X8_whyNoRing
set_option maxRecDepth 20000 in
theorem ggX8_carriesOut_X8_putRing : GoodIn wsX8_carriesOut wsX8_putRing := goodIn_r _ [23, 3, 136, 137, 138, 139, 140, 141, 142, 143, 144, 145, 146] (by decide +kernel) (by decide +kernel)
set_option maxRecDepth 20000 in
theorem gX8_carriesOut_X8_putRing : GoodIn wsX8_carriesOut (wsV RX8 58 RX8 yX8_putRing wsX8_putRing) := goodIn_app (goodIn_of _ (by decide +kernel)) ggX8_carriesOut_X8_putRing
set_option maxRecDepth 20000 in
theorem ggX8_carriesOut_X8_whyNoMove : GoodIn wsX8_carriesOut wsX8_whyNoMove := goodIn_r _ [27, 3, 28, 29, 30, 7, 31, 13, 14, 15, 16, 17, 18, 19, 136, 137, 138, 139, 140, 141, 142, 143, 144, 145, 146] (by decide +kernel) (by decide +kernel)
set_option maxRecDepth 20000 in
theorem gX8_carriesOut_X8_whyNoMove : GoodIn wsX8_carriesOut (wsV RX8 103 RX8 yX8_whyNoMove wsX8_whyNoMove) := goodIn_app (goodIn_of _ (by decide +kernel)) ggX8_carriesOut_X8_whyNoMove
set_option maxRecDepth 20000 in
theorem ggX8_carriesOut_X8_putMove : GoodIn wsX8_carriesOut wsX8_putMove := goodIn_r _ [35, 3, 36, 37, 38, 7, 39, 136, 137, 138, 139, 140, 141, 142, 143, 144, 145, 146] (by decide +kernel) (by decide +kernel)
set_option maxRecDepth 20000 in
theorem gX8_carriesOut_X8_putMove : GoodIn wsX8_carriesOut (wsV RX8 107 RX8 yX8_putMove wsX8_putMove) := goodIn_app (goodIn_of _ (by decide +kernel)) ggX8_carriesOut_X8_putMove
set_option maxRecDepth 20000 in
theorem ggX8_carriesOut_X8_whyNotSigned : GoodIn wsX8_carriesOut wsX8_whyNotSigned := goodIn_r _ [43, 28, 29, 30, 7, 31, 3, 13, 14, 15, 16, 17, 18, 19, 44, 45, 46, 47, 48, 49, 50, 51, 136, 137, 138, 139, 140, 141, 142, 143, 144, 145, 146] (by decide +kernel) (by decide +kernel)
set_option maxRecDepth 20000 in
theorem gX8_carriesOut_X8_whyNotSigned : GoodIn wsX8_carriesOut (wsV RX8 113 RX8 yX8_whyNotSigned wsX8_whyNotSigned) := goodIn_app (goodIn_of _ (by decide +kernel)) ggX8_carriesOut_X8_whyNotSigned
set_option maxRecDepth 20000 in
theorem ggX8_carriesOut_X8_firstCopied : GoodIn wsX8_carriesOut wsX8_firstCopied := goodIn_r _ [47, 3, 48, 49, 50, 7, 51, 136, 137, 138, 139, 140, 141, 142, 143, 144, 145, 146] (by decide +kernel) (by decide +kernel)
set_option maxRecDepth 20000 in
theorem gX8_carriesOut_X8_firstCopied : GoodIn wsX8_carriesOut (wsV RX8 110 RX8 yX8_firstCopied wsX8_firstCopied) := goodIn_app (goodIn_of _ (by decide +kernel)) ggX8_carriesOut_X8_firstCopied
set_option maxRecDepth 20000 in
theorem ggX8_carriesOut_X8_signMove : GoodIn wsX8_carriesOut wsX8_signMove := goodIn_r _ [55, 3, 36, 37, 38, 7, 39, 136, 137, 138, 139, 140, 141, 142, 143, 144, 145, 146] (by decide +kernel) (by decide +kernel)
set_option maxRecDepth 20000 in
theorem gX8_carriesOut_X8_signMove : GoodIn wsX8_carriesOut (wsV RX8 116 RX8 yX8_signMove wsX8_signMove) := goodIn_app (goodIn_of _ (by decide +kernel)) ggX8_carriesOut_X8_signMove
set_option maxRecDepth 20000 in
theorem ggX8_carriesOut_X8_whyNoStrike : GoodIn wsX8_carriesOut wsX8_whyNoStrike := goodIn_r _ [59, 28, 29, 30, 7, 31, 3, 13, 14, 15, 16, 17, 18, 19, 136, 137, 138, 139, 140, 141, 142, 143, 144, 145, 146] (by decide +kernel) (by decide +kernel)
set_option maxRecDepth 20000 in
theorem gX8_carriesOut_X8_whyNoStrike : GoodIn wsX8_carriesOut (wsV RX8 120 RX8 yX8_whyNoStrike wsX8_whyNoStrike) := goodIn_app (goodIn_of _ (by decide +kernel)) ggX8_carriesOut_X8_whyNoStrike
set_option maxRecDepth 20000 in
theorem ggX8_carriesOut_X8_whyNotWritten : GoodIn wsX8_carriesOut wsX8_whyNotWritten := goodIn_r _ [63, 9, 10, 11, 7, 12, 13, 14, 15, 64, 65, 66, 67, 3, 48, 49, 50, 51, 68, 69, 70, 71, 72, 73, 74, 75, 76, 77, 78, 79, 16, 17, 18, 19, 80, 81, 82, 83, 84, 85, 86, 87, 136, 137, 138, 139, 140, 141, 142, 143, 144, 145, 146] (by decide +kernel) (by decide +kernel)
set_option maxRecDepth 20000 in
theorem gX8_carriesOut_X8_whyNotWritten : GoodIn wsX8_carriesOut (wsV RX8 93 RX8 yX8_whyNotWritten wsX8_whyNotWritten) := goodIn_app (goodIn_of _ (by decide +kernel)) ggX8_carriesOut_X8_whyNotWritten
set_option maxRecDepth 20000 in
theorem ggX8_carriesOut_X8_putValue : GoodIn wsX8_carriesOut wsX8_putValue := goodIn_r _ [91, 3, 136, 137, 138, 139, 140, 141, 142, 143, 144, 145, 146] (by decide +kernel) (by decide +kernel)
set_option maxRecDepth 20000 in
theorem gX8_carriesOut_X8_putValue : GoodIn wsX8_carriesOut (wsV RX8 96 RX8 yX8_putValue wsX8_putValue) := goodIn_app (goodIn_of _ (by decide +kernel)) ggX8_carriesOut_X8_putValue
set_option maxRecDepth 20000 in
theorem ggX8_carriesOut_X8_whyNoSetting : GoodIn wsX8_carriesOut wsX8_whyNoSetting := goodIn_r _ [95, 13, 14, 7, 15] (by decide +kernel) (by decide +kernel)
set_option maxRecDepth 20000 in
theorem gX8_carriesOut_X8_whyNoSetting : GoodIn wsX8_carriesOut (wsV RX8 64 RX8 yX8_whyNoSetting wsX8_whyNoSetting) := goodIn_app (goodIn_of _ (by decide +kernel)) ggX8_carriesOut_X8_whyNoSetting
set_option maxRecDepth 20000 in
theorem ggX8_carriesOut_X8_putSetting : GoodIn wsX8_carriesOut wsX8_putSetting := goodIn_r _ [99, 3, 136, 137, 138, 139, 140, 141, 142, 143, 144, 145, 146] (by decide +kernel) (by decide +kernel)
set_option maxRecDepth 20000 in
theorem gX8_carriesOut_X8_putSetting : GoodIn wsX8_carriesOut (wsV RX8 67 RX8 yX8_putSetting wsX8_putSetting) := goodIn_app (goodIn_of _ (by decide +kernel)) ggX8_carriesOut_X8_putSetting
set_option maxRecDepth 20000 in
theorem ggX8_carriesOut_X8_whyNoTicks : GoodIn wsX8_carriesOut wsX8_whyNoTicks := goodIn_r _ [103, 3, 13, 14, 7, 15, 136, 137, 138, 139, 140, 141, 142, 143, 144, 145, 146] (by decide +kernel) (by decide +kernel)
set_option maxRecDepth 20000 in
theorem gX8_carriesOut_X8_whyNoTicks : GoodIn wsX8_carriesOut (wsV RX8 148 RX8 yX8_whyNoTicks wsX8_whyNoTicks) := goodIn_app (goodIn_of _ (by decide +kernel)) ggX8_carriesOut_X8_whyNoTicks
set_option maxRecDepth 20000 in
theorem ggX8_carriesOut_X8_passTicks : GoodIn wsX8_carriesOut wsX8_passTicks := goodIn_r _ [107, 108, 109, 110, 7, 111, 3, 112, 113, 114, 115, 16, 17, 18, 19, 48, 49, 50, 51, 52, 53, 54, 55, 36, 37, 38, 39, 116, 117, 118, 119, 120, 121, 122, 123, 76, 77, 78, 79, 80, 81, 82, 83, 84, 85, 86, 87, 72, 73, 74, 75, 124, 125, 126, 127, 128, 129, 130, 131, 132, 133, 134, 135, 136, 137, 138, 139, 140, 141, 142, 143, 144, 145, 146] (by decide +kernel) (by decide +kernel)
set_option maxRecDepth 20000 in
theorem gX8_carriesOut_X8_passTicks : GoodIn wsX8_carriesOut (wsV RX8 151 RX8 yX8_passTicks wsX8_passTicks) := goodIn_app (goodIn_of _ (by decide +kernel)) ggX8_carriesOut_X8_passTicks
theorem dX8_carriesOut_0 : decode cX8_carriesOut 0 = .ok (.aload_n 0, 1) := by decide +kernel
theorem dX8_carriesOut_1 : decode cX8_carriesOut 1 = .ok (.getfield 22, 3) := by decide +kernel
theorem dX8_carriesOut_4 : decode cX8_carriesOut 4 = .ok (.iconst 0, 1) := by decide +kernel
theorem dX8_carriesOut_5 : decode cX8_carriesOut 5 = .ok (.iaload, 1) := by decide +kernel
theorem dX8_carriesOut_6 : decode cX8_carriesOut 6 = .ok (.istore_n 1, 1) := by decide +kernel
theorem dX8_carriesOut_7 : decode cX8_carriesOut 7 = .ok (.aload_n 0, 1) := by decide +kernel
theorem dX8_carriesOut_8 : decode cX8_carriesOut 8 = .ok (.getfield 22, 3) := by decide +kernel
theorem dX8_carriesOut_11 : decode cX8_carriesOut 11 = .ok (.iconst 1, 1) := by decide +kernel
theorem dX8_carriesOut_12 : decode cX8_carriesOut 12 = .ok (.iaload, 1) := by decide +kernel
theorem dX8_carriesOut_13 : decode cX8_carriesOut 13 = .ok (.istore_n 2, 1) := by decide +kernel
theorem dX8_carriesOut_14 : decode cX8_carriesOut 14 = .ok (.aload_n 0, 1) := by decide +kernel
theorem dX8_carriesOut_15 : decode cX8_carriesOut 15 = .ok (.getfield 198, 3) := by decide +kernel
theorem dX8_carriesOut_18 : decode cX8_carriesOut 18 = .ok (.tableswitch 248 0 6 #[42, 75, 132, 154, 154, 206, 227], 42) := by decide +kernel
theorem dX8_carriesOut_60 : decode cX8_carriesOut 60 = .ok (.aload_n 0, 1) := by decide +kernel
theorem dX8_carriesOut_61 : decode cX8_carriesOut 61 = .ok (.iload_n 1, 1) := by decide +kernel
theorem dX8_carriesOut_62 : decode cX8_carriesOut 62 = .ok (.iload_n 2, 1) := by decide +kernel
theorem dX8_carriesOut_63 : decode cX8_carriesOut 63 = .ok (.aload_n 0, 1) := by decide +kernel
theorem dX8_carriesOut_64 : decode cX8_carriesOut 64 = .ok (.getfield 22, 3) := by decide +kernel
theorem dX8_carriesOut_67 : decode cX8_carriesOut 67 = .ok (.iconst 2, 1) := by decide +kernel
theorem dX8_carriesOut_68 : decode cX8_carriesOut 68 = .ok (.iaload, 1) := by decide +kernel
theorem dX8_carriesOut_69 : decode cX8_carriesOut 69 = .ok (.invokevirtual 51, 3) := by decide +kernel
theorem dX8_carriesOut_72 : decode cX8_carriesOut 72 = .ok (.istore_n 3, 1) := by decide +kernel
theorem dX8_carriesOut_73 : decode cX8_carriesOut 73 = .ok (.iload_n 3, 1) := by decide +kernel
theorem dX8_carriesOut_74 : decode cX8_carriesOut 74 = .ok (.ifCond .ne 208, 3) := by decide +kernel
theorem dX8_carriesOut_77 : decode cX8_carriesOut 77 = .ok (.aload_n 0, 1) := by decide +kernel
theorem dX8_carriesOut_78 : decode cX8_carriesOut 78 = .ok (.iload_n 1, 1) := by decide +kernel
theorem dX8_carriesOut_79 : decode cX8_carriesOut 79 = .ok (.iload_n 2, 1) := by decide +kernel
theorem dX8_carriesOut_80 : decode cX8_carriesOut 80 = .ok (.aload_n 0, 1) := by decide +kernel
theorem dX8_carriesOut_81 : decode cX8_carriesOut 81 = .ok (.getfield 22, 3) := by decide +kernel
theorem dX8_carriesOut_84 : decode cX8_carriesOut 84 = .ok (.iconst 2, 1) := by decide +kernel
theorem dX8_carriesOut_85 : decode cX8_carriesOut 85 = .ok (.iaload, 1) := by decide +kernel
theorem dX8_carriesOut_86 : decode cX8_carriesOut 86 = .ok (.invokevirtual 58, 3) := by decide +kernel
theorem dX8_carriesOut_89 : decode cX8_carriesOut 89 = .ok (.pop, 1) := by decide +kernel
theorem dX8_carriesOut_90 : decode cX8_carriesOut 90 = .ok (.goto 192, 3) := by decide +kernel
theorem dX8_carriesOut_93 : decode cX8_carriesOut 93 = .ok (.aload_n 0, 1) := by decide +kernel
theorem dX8_carriesOut_94 : decode cX8_carriesOut 94 = .ok (.iload_n 1, 1) := by decide +kernel
theorem dX8_carriesOut_95 : decode cX8_carriesOut 95 = .ok (.iload_n 2, 1) := by decide +kernel
theorem dX8_carriesOut_96 : decode cX8_carriesOut 96 = .ok (.aload_n 0, 1) := by decide +kernel
theorem dX8_carriesOut_97 : decode cX8_carriesOut 97 = .ok (.getfield 22, 3) := by decide +kernel
theorem dX8_carriesOut_100 : decode cX8_carriesOut 100 = .ok (.iconst 2, 1) := by decide +kernel
theorem dX8_carriesOut_101 : decode cX8_carriesOut 101 = .ok (.iaload, 1) := by decide +kernel
theorem dX8_carriesOut_102 : decode cX8_carriesOut 102 = .ok (.aload_n 0, 1) := by decide +kernel
theorem dX8_carriesOut_103 : decode cX8_carriesOut 103 = .ok (.getfield 22, 3) := by decide +kernel
theorem dX8_carriesOut_106 : decode cX8_carriesOut 106 = .ok (.iconst 3, 1) := by decide +kernel
theorem dX8_carriesOut_107 : decode cX8_carriesOut 107 = .ok (.iaload, 1) := by decide +kernel
theorem dX8_carriesOut_108 : decode cX8_carriesOut 108 = .ok (.aload_n 0, 1) := by decide +kernel
theorem dX8_carriesOut_109 : decode cX8_carriesOut 109 = .ok (.getfield 22, 3) := by decide +kernel
theorem dX8_carriesOut_112 : decode cX8_carriesOut 112 = .ok (.iconst 4, 1) := by decide +kernel
theorem dX8_carriesOut_113 : decode cX8_carriesOut 113 = .ok (.iaload, 1) := by decide +kernel
theorem dX8_carriesOut_114 : decode cX8_carriesOut 114 = .ok (.invokevirtual 103, 3) := by decide +kernel
theorem dX8_carriesOut_117 : decode cX8_carriesOut 117 = .ok (.istore_n 3, 1) := by decide +kernel
theorem dX8_carriesOut_118 : decode cX8_carriesOut 118 = .ok (.iload_n 3, 1) := by decide +kernel
theorem dX8_carriesOut_119 : decode cX8_carriesOut 119 = .ok (.ifCond .ne 163, 3) := by decide +kernel
theorem dX8_carriesOut_122 : decode cX8_carriesOut 122 = .ok (.aload_n 0, 1) := by decide +kernel
theorem dX8_carriesOut_123 : decode cX8_carriesOut 123 = .ok (.iload_n 1, 1) := by decide +kernel
theorem dX8_carriesOut_124 : decode cX8_carriesOut 124 = .ok (.iload_n 2, 1) := by decide +kernel
theorem dX8_carriesOut_125 : decode cX8_carriesOut 125 = .ok (.aload_n 0, 1) := by decide +kernel
theorem dX8_carriesOut_126 : decode cX8_carriesOut 126 = .ok (.getfield 22, 3) := by decide +kernel
theorem dX8_carriesOut_129 : decode cX8_carriesOut 129 = .ok (.iconst 2, 1) := by decide +kernel
theorem dX8_carriesOut_130 : decode cX8_carriesOut 130 = .ok (.iaload, 1) := by decide +kernel
theorem dX8_carriesOut_131 : decode cX8_carriesOut 131 = .ok (.aload_n 0, 1) := by decide +kernel
theorem dX8_carriesOut_132 : decode cX8_carriesOut 132 = .ok (.getfield 22, 3) := by decide +kernel
theorem dX8_carriesOut_135 : decode cX8_carriesOut 135 = .ok (.iconst 3, 1) := by decide +kernel
theorem dX8_carriesOut_136 : decode cX8_carriesOut 136 = .ok (.iaload, 1) := by decide +kernel
theorem dX8_carriesOut_137 : decode cX8_carriesOut 137 = .ok (.aload_n 0, 1) := by decide +kernel
theorem dX8_carriesOut_138 : decode cX8_carriesOut 138 = .ok (.getfield 22, 3) := by decide +kernel
theorem dX8_carriesOut_141 : decode cX8_carriesOut 141 = .ok (.iconst 4, 1) := by decide +kernel
theorem dX8_carriesOut_142 : decode cX8_carriesOut 142 = .ok (.iaload, 1) := by decide +kernel
theorem dX8_carriesOut_143 : decode cX8_carriesOut 143 = .ok (.invokevirtual 107, 3) := by decide +kernel
theorem dX8_carriesOut_146 : decode cX8_carriesOut 146 = .ok (.pop, 1) := by decide +kernel
theorem dX8_carriesOut_147 : decode cX8_carriesOut 147 = .ok (.goto 135, 3) := by decide +kernel
theorem dX8_carriesOut_150 : decode cX8_carriesOut 150 = .ok (.aload_n 0, 1) := by decide +kernel
theorem dX8_carriesOut_151 : decode cX8_carriesOut 151 = .ok (.iload_n 1, 1) := by decide +kernel
theorem dX8_carriesOut_152 : decode cX8_carriesOut 152 = .ok (.invokevirtual 113, 3) := by decide +kernel
theorem dX8_carriesOut_155 : decode cX8_carriesOut 155 = .ok (.istore_n 3, 1) := by decide +kernel
theorem dX8_carriesOut_156 : decode cX8_carriesOut 156 = .ok (.iload_n 3, 1) := by decide +kernel
theorem dX8_carriesOut_157 : decode cX8_carriesOut 157 = .ok (.ifCond .ne 125, 3) := by decide +kernel
theorem dX8_carriesOut_160 : decode cX8_carriesOut 160 = .ok (.aload_n 0, 1) := by decide +kernel
theorem dX8_carriesOut_161 : decode cX8_carriesOut 161 = .ok (.aload_n 0, 1) := by decide +kernel
theorem dX8_carriesOut_162 : decode cX8_carriesOut 162 = .ok (.iload_n 1, 1) := by decide +kernel
theorem dX8_carriesOut_163 : decode cX8_carriesOut 163 = .ok (.invokevirtual 110, 3) := by decide +kernel
theorem dX8_carriesOut_166 : decode cX8_carriesOut 166 = .ok (.invokevirtual 116, 3) := by decide +kernel
theorem dX8_carriesOut_169 : decode cX8_carriesOut 169 = .ok (.goto 113, 3) := by decide +kernel
theorem dX8_carriesOut_172 : decode cX8_carriesOut 172 = .ok (.aload_n 0, 1) := by decide +kernel
theorem dX8_carriesOut_173 : decode cX8_carriesOut 173 = .ok (.iload_n 1, 1) := by decide +kernel
theorem dX8_carriesOut_174 : decode cX8_carriesOut 174 = .ok (.aload_n 0, 1) := by decide +kernel
theorem dX8_carriesOut_175 : decode cX8_carriesOut 175 = .ok (.getfield 198, 3) := by decide +kernel
theorem dX8_carriesOut_178 : decode cX8_carriesOut 178 = .ok (.iconst 3, 1) := by decide +kernel
theorem dX8_carriesOut_179 : decode cX8_carriesOut 179 = .ok (.if_icmp .ne 7, 3) := by decide +kernel
theorem dX8_carriesOut_182 : decode cX8_carriesOut 182 = .ok (.iconst 1, 1) := by decide +kernel
theorem dX8_carriesOut_183 : decode cX8_carriesOut 183 = .ok (.goto 4, 3) := by decide +kernel
theorem dX8_carriesOut_186 : decode cX8_carriesOut 186 = .ok (.iconst 0, 1) := by decide +kernel
theorem dX8_carriesOut_187 : decode cX8_carriesOut 187 = .ok (.invokevirtual 120, 3) := by decide +kernel
theorem dX8_carriesOut_190 : decode cX8_carriesOut 190 = .ok (.istore_n 3, 1) := by decide +kernel
theorem dX8_carriesOut_191 : decode cX8_carriesOut 191 = .ok (.iload_n 3, 1) := by decide +kernel
theorem dX8_carriesOut_192 : decode cX8_carriesOut 192 = .ok (.ifCond .ne 90, 3) := by decide +kernel
theorem dX8_carriesOut_195 : decode cX8_carriesOut 195 = .ok (.aload_n 0, 1) := by decide +kernel
theorem dX8_carriesOut_196 : decode cX8_carriesOut 196 = .ok (.getfield 7, 3) := by decide +kernel
theorem dX8_carriesOut_199 : decode cX8_carriesOut 199 = .ok (.bipush 56, 2) := by decide +kernel
theorem dX8_carriesOut_201 : decode cX8_carriesOut 201 = .ok (.iconst 4, 1) := by decide +kernel
theorem dX8_carriesOut_202 : decode cX8_carriesOut 202 = .ok (.iload_n 1, 1) := by decide +kernel
theorem dX8_carriesOut_203 : decode cX8_carriesOut 203 = .ok (.imul, 1) := by decide +kernel
theorem dX8_carriesOut_204 : decode cX8_carriesOut 204 = .ok (.iadd, 1) := by decide +kernel
theorem dX8_carriesOut_205 : decode cX8_carriesOut 205 = .ok (.iconst 3, 1) := by decide +kernel
theorem dX8_carriesOut_206 : decode cX8_carriesOut 206 = .ok (.iadd, 1) := by decide +kernel
theorem dX8_carriesOut_207 : decode cX8_carriesOut 207 = .ok (.aload_n 0, 1) := by decide +kernel
theorem dX8_carriesOut_208 : decode cX8_carriesOut 208 = .ok (.getfield 198, 3) := by decide +kernel
theorem dX8_carriesOut_211 : decode cX8_carriesOut 211 = .ok (.iconst 3, 1) := by decide +kernel
theorem dX8_carriesOut_212 : decode cX8_carriesOut 212 = .ok (.if_icmp .ne 7, 3) := by decide +kernel
theorem dX8_carriesOut_215 : decode cX8_carriesOut 215 = .ok (.iconst 1, 1) := by decide +kernel
theorem dX8_carriesOut_216 : decode cX8_carriesOut 216 = .ok (.goto 4, 3) := by decide +kernel
theorem dX8_carriesOut_219 : decode cX8_carriesOut 219 = .ok (.iconst 0, 1) := by decide +kernel
theorem dX8_carriesOut_220 : decode cX8_carriesOut 220 = .ok (.iastore, 1) := by decide +kernel
theorem dX8_carriesOut_221 : decode cX8_carriesOut 221 = .ok (.goto 61, 3) := by decide +kernel
theorem dX8_carriesOut_224 : decode cX8_carriesOut 224 = .ok (.aload_n 0, 1) := by decide +kernel
theorem dX8_carriesOut_225 : decode cX8_carriesOut 225 = .ok (.iload_n 1, 1) := by decide +kernel
theorem dX8_carriesOut_226 : decode cX8_carriesOut 226 = .ok (.iload_n 2, 1) := by decide +kernel
theorem dX8_carriesOut_227 : decode cX8_carriesOut 227 = .ok (.invokevirtual 93, 3) := by decide +kernel
theorem dX8_carriesOut_230 : decode cX8_carriesOut 230 = .ok (.istore_n 3, 1) := by decide +kernel
theorem dX8_carriesOut_231 : decode cX8_carriesOut 231 = .ok (.iload_n 3, 1) := by decide +kernel
theorem dX8_carriesOut_232 : decode cX8_carriesOut 232 = .ok (.ifCond .ne 50, 3) := by decide +kernel
theorem dX8_carriesOut_235 : decode cX8_carriesOut 235 = .ok (.aload_n 0, 1) := by decide +kernel
theorem dX8_carriesOut_236 : decode cX8_carriesOut 236 = .ok (.iload_n 1, 1) := by decide +kernel
theorem dX8_carriesOut_237 : decode cX8_carriesOut 237 = .ok (.iload_n 2, 1) := by decide +kernel
theorem dX8_carriesOut_238 : decode cX8_carriesOut 238 = .ok (.invokevirtual 96, 3) := by decide +kernel
theorem dX8_carriesOut_241 : decode cX8_carriesOut 241 = .ok (.pop, 1) := by decide +kernel
theorem dX8_carriesOut_242 : decode cX8_carriesOut 242 = .ok (.goto 40, 3) := by decide +kernel
theorem dX8_carriesOut_245 : decode cX8_carriesOut 245 = .ok (.aload_n 0, 1) := by decide +kernel
theorem dX8_carriesOut_246 : decode cX8_carriesOut 246 = .ok (.iload_n 1, 1) := by decide +kernel
theorem dX8_carriesOut_247 : decode cX8_carriesOut 247 = .ok (.iload_n 2, 1) := by decide +kernel
theorem dX8_carriesOut_248 : decode cX8_carriesOut 248 = .ok (.invokevirtual 64, 3) := by decide +kernel
theorem dX8_carriesOut_251 : decode cX8_carriesOut 251 = .ok (.istore_n 3, 1) := by decide +kernel
theorem dX8_carriesOut_252 : decode cX8_carriesOut 252 = .ok (.iload_n 3, 1) := by decide +kernel
theorem dX8_carriesOut_253 : decode cX8_carriesOut 253 = .ok (.ifCond .ne 29, 3) := by decide +kernel
theorem dX8_carriesOut_256 : decode cX8_carriesOut 256 = .ok (.aload_n 0, 1) := by decide +kernel
theorem dX8_carriesOut_257 : decode cX8_carriesOut 257 = .ok (.iload_n 1, 1) := by decide +kernel
theorem dX8_carriesOut_258 : decode cX8_carriesOut 258 = .ok (.iload_n 2, 1) := by decide +kernel
theorem dX8_carriesOut_259 : decode cX8_carriesOut 259 = .ok (.invokevirtual 67, 3) := by decide +kernel
theorem dX8_carriesOut_262 : decode cX8_carriesOut 262 = .ok (.pop, 1) := by decide +kernel
theorem dX8_carriesOut_263 : decode cX8_carriesOut 263 = .ok (.goto 19, 3) := by decide +kernel
theorem dX8_carriesOut_266 : decode cX8_carriesOut 266 = .ok (.aload_n 0, 1) := by decide +kernel
theorem dX8_carriesOut_267 : decode cX8_carriesOut 267 = .ok (.iload_n 1, 1) := by decide +kernel
theorem dX8_carriesOut_268 : decode cX8_carriesOut 268 = .ok (.invokevirtual 148, 3) := by decide +kernel
theorem dX8_carriesOut_271 : decode cX8_carriesOut 271 = .ok (.istore_n 3, 1) := by decide +kernel
theorem dX8_carriesOut_272 : decode cX8_carriesOut 272 = .ok (.iload_n 3, 1) := by decide +kernel
theorem dX8_carriesOut_273 : decode cX8_carriesOut 273 = .ok (.ifCond .ne 9, 3) := by decide +kernel
theorem dX8_carriesOut_276 : decode cX8_carriesOut 276 = .ok (.aload_n 0, 1) := by decide +kernel
theorem dX8_carriesOut_277 : decode cX8_carriesOut 277 = .ok (.iload_n 1, 1) := by decide +kernel
theorem dX8_carriesOut_278 : decode cX8_carriesOut 278 = .ok (.invokevirtual 151, 3) := by decide +kernel
theorem dX8_carriesOut_281 : decode cX8_carriesOut 281 = .ok (.pop, 1) := by decide +kernel
theorem dX8_carriesOut_282 : decode cX8_carriesOut 282 = .ok (.iload_n 3, 1) := by decide +kernel
theorem dX8_carriesOut_283 : decode cX8_carriesOut 283 = .ok (.ifCond .ne 7, 3) := by decide +kernel
theorem dX8_carriesOut_286 : decode cX8_carriesOut 286 = .ok (.iconst 1, 1) := by decide +kernel
theorem dX8_carriesOut_287 : decode cX8_carriesOut 287 = .ok (.goto 4, 3) := by decide +kernel
theorem dX8_carriesOut_290 : decode cX8_carriesOut 290 = .ok (.iconst 0, 1) := by decide +kernel
theorem dX8_carriesOut_291 : decode cX8_carriesOut 291 = .ok (.ireturn, 1) := by decide +kernel
set_option maxRecDepth 20000 in
theorem ggX8_runCommands_X8_skipSpaces : GoodIn wsX8_runCommands wsX8_skipSpaces := goodIn_r _ [8, 2, 9, 10, 11, 7, 12, 3, 13, 180, 181, 182, 183, 184, 185, 186, 187, 188, 189, 190] (by decide +kernel) (by decide +kernel)
set_option maxRecDepth 20000 in
theorem gX8_runCommands_X8_skipSpaces : GoodIn wsX8_runCommands (wsV RX8 192 RX8 yX8_skipSpaces wsX8_skipSpaces) := goodIn_app (goodIn_of _ (by decide +kernel)) ggX8_runCommands_X8_skipSpaces
set_option maxRecDepth 20000 in
theorem ggX8_runCommands_X8_readsCommand : GoodIn wsX8_runCommands wsX8_readsCommand := goodIn_r _ [17, 2, 18, 9, 10, 11, 7, 12, 3, 13, 19, 20, 21, 22, 23, 24, 25, 26, 27, 28, 29, 30, 31, 32, 33, 34, 35, 36, 37, 4, 5, 6, 8, 180, 181, 182, 183, 184, 185, 186, 187, 188, 189, 190] (by decide +kernel) (by decide +kernel)
set_option maxRecDepth 20000 in
theorem gX8_runCommands_X8_readsCommand : GoodIn wsX8_runCommands (wsV RX8 207 RX8 yX8_readsCommand wsX8_readsCommand) := goodIn_app (goodIn_of _ (by decide +kernel)) ggX8_runCommands_X8_readsCommand
set_option maxRecDepth 20000 in
theorem ggX8_runCommands_X8_save : GoodIn wsX8_runCommands wsX8_save := goodIn_r _ [41, 42, 43, 44, 45, 46, 7, 47, 180, 181, 182, 183, 184, 185, 186, 187, 188, 189, 190] (by decide +kernel) (by decide +kernel)
set_option maxRecDepth 20000 in
theorem gX8_runCommands_X8_save : GoodIn wsX8_runCommands (wsV RX8 55 RX8 yX8_save wsX8_save) := goodIn_app (goodIn_of _ (by decide +kernel)) ggX8_runCommands_X8_save
set_option maxRecDepth 20000 in
theorem ggX8_runCommands_X8_carriesOut : GoodIn wsX8_runCommands wsX8_carriesOut := goodIn_r _ [51, 37, 18, 44, 52, 53, 54, 7, 55, 56, 57, 58, 59, 19, 20, 21, 60, 61, 62, 63, 64, 65, 66, 67, 68, 69, 70, 71, 72, 73, 74, 75, 76, 77, 78, 79, 80, 81, 82, 83, 84, 85, 86, 87, 88, 89, 90, 91, 92, 93, 94, 95, 96, 97, 98, 99, 100, 101, 102, 103, 104, 105, 106, 107, 108, 109, 110, 111, 112, 113, 114, 115, 116, 117, 118, 119, 120, 121, 122, 123, 124, 125, 126, 127, 128, 129, 130, 131, 132, 133, 134, 135, 136, 137, 138, 139, 140, 141, 142, 143, 144, 145, 146, 147, 148, 149, 150, 151, 152, 153, 154, 155, 156, 157, 158, 159, 160, 161, 162, 163, 164, 165, 166, 167, 168, 169, 170, 171, 172, 173, 174, 175, 176, 177, 178, 179, 180, 181, 182, 183, 184, 185, 186, 187, 188, 189, 190] (by decide +kernel) (by decide +kernel)
set_option maxRecDepth 20000 in
theorem gX8_runCommands_X8_carriesOut : GoodIn wsX8_runCommands (wsV RX8 211 RX8 yX8_carriesOut wsX8_carriesOut) := goodIn_app (goodIn_of _ (by decide +kernel)) ggX8_runCommands_X8_carriesOut
theorem dX8_runCommands_0 : decode cX8_runCommands 0 = .ok (.aload_n 0, 1) := by decide +kernel
theorem dX8_runCommands_1 : decode cX8_runCommands 1 = .ok (.iconst 0, 1) := by decide +kernel
theorem dX8_runCommands_2 : decode cX8_runCommands 2 = .ok (.putfield 28, 3) := by decide +kernel
theorem dX8_runCommands_5 : decode cX8_runCommands 5 = .ok (.aload_n 0, 1) := by decide +kernel
theorem dX8_runCommands_6 : decode cX8_runCommands 6 = .ok (.iconst 0, 1) := by decide +kernel
theorem dX8_runCommands_7 : decode cX8_runCommands 7 = .ok (.putfield 182, 3) := by decide +kernel
theorem dX8_runCommands_10 : decode cX8_runCommands 10 = .ok (.aload_n 0, 1) := by decide +kernel
theorem dX8_runCommands_11 : decode cX8_runCommands 11 = .ok (.invokevirtual 192, 3) := by decide +kernel
theorem dX8_runCommands_14 : decode cX8_runCommands 14 = .ok (.iconst 1, 1) := by decide +kernel
theorem dX8_runCommands_15 : decode cX8_runCommands 15 = .ok (.istore_n 1, 1) := by decide +kernel
theorem dX8_runCommands_16 : decode cX8_runCommands 16 = .ok (.iload_n 1, 1) := by decide +kernel
theorem dX8_runCommands_17 : decode cX8_runCommands 17 = .ok (.ifCond .eq 22, 3) := by decide +kernel
theorem dX8_runCommands_20 : decode cX8_runCommands 20 = .ok (.aload_n 0, 1) := by decide +kernel
theorem dX8_runCommands_21 : decode cX8_runCommands 21 = .ok (.getfield 182, 3) := by decide +kernel
theorem dX8_runCommands_24 : decode cX8_runCommands 24 = .ok (.aload_n 0, 1) := by decide +kernel
theorem dX8_runCommands_25 : decode cX8_runCommands 25 = .ok (.getfield 170, 3) := by decide +kernel
theorem dX8_runCommands_28 : decode cX8_runCommands 28 = .ok (.if_icmp .ge 11, 3) := by decide +kernel
theorem dX8_runCommands_31 : decode cX8_runCommands 31 = .ok (.aload_n 0, 1) := by decide +kernel
theorem dX8_runCommands_32 : decode cX8_runCommands 32 = .ok (.invokevirtual 207, 3) := by decide +kernel
theorem dX8_runCommands_35 : decode cX8_runCommands 35 = .ok (.istore_n 1, 1) := by decide +kernel
theorem dX8_runCommands_36 : decode cX8_runCommands 36 = .ok (.goto (-20), 3) := by decide +kernel
theorem dX8_runCommands_39 : decode cX8_runCommands 39 = .ok (.iload_n 1, 1) := by decide +kernel
theorem dX8_runCommands_40 : decode cX8_runCommands 40 = .ok (.ifCond .ne 11, 3) := by decide +kernel
theorem dX8_runCommands_43 : decode cX8_runCommands 43 = .ok (.bipush (-10), 2) := by decide +kernel
theorem dX8_runCommands_45 : decode cX8_runCommands 45 = .ok (.aload_n 0, 1) := by decide +kernel
theorem dX8_runCommands_46 : decode cX8_runCommands 46 = .ok (.getfield 182, 3) := by decide +kernel
theorem dX8_runCommands_49 : decode cX8_runCommands 49 = .ok (.isub, 1) := by decide +kernel
theorem dX8_runCommands_50 : decode cX8_runCommands 50 = .ok (.ireturn, 1) := by decide +kernel
theorem dX8_runCommands_51 : decode cX8_runCommands 51 = .ok (.aload_n 0, 1) := by decide +kernel
theorem dX8_runCommands_52 : decode cX8_runCommands 52 = .ok (.invokevirtual 55, 3) := by decide +kernel
theorem dX8_runCommands_55 : decode cX8_runCommands 55 = .ok (.aload_n 0, 1) := by decide +kernel
theorem dX8_runCommands_56 : decode cX8_runCommands 56 = .ok (.iconst 0, 1) := by decide +kernel
theorem dX8_runCommands_57 : decode cX8_runCommands 57 = .ok (.putfield 182, 3) := by decide +kernel
theorem dX8_runCommands_60 : decode cX8_runCommands 60 = .ok (.aload_n 0, 1) := by decide +kernel
theorem dX8_runCommands_61 : decode cX8_runCommands 61 = .ok (.invokevirtual 192, 3) := by decide +kernel
theorem dX8_runCommands_64 : decode cX8_runCommands 64 = .ok (.iconst 0, 1) := by decide +kernel
theorem dX8_runCommands_65 : decode cX8_runCommands 65 = .ok (.istore_n 2, 1) := by decide +kernel
theorem dX8_runCommands_66 : decode cX8_runCommands 66 = .ok (.iconst 1, 1) := by decide +kernel
theorem dX8_runCommands_67 : decode cX8_runCommands 67 = .ok (.istore_n 3, 1) := by decide +kernel
theorem dX8_runCommands_68 : decode cX8_runCommands 68 = .ok (.iload_n 3, 1) := by decide +kernel
theorem dX8_runCommands_69 : decode cX8_runCommands 69 = .ok (.ifCond .eq 39, 3) := by decide +kernel
theorem dX8_runCommands_72 : decode cX8_runCommands 72 = .ok (.aload_n 0, 1) := by decide +kernel
theorem dX8_runCommands_73 : decode cX8_runCommands 73 = .ok (.getfield 182, 3) := by decide +kernel
theorem dX8_runCommands_76 : decode cX8_runCommands 76 = .ok (.aload_n 0, 1) := by decide +kernel
theorem dX8_runCommands_77 : decode cX8_runCommands 77 = .ok (.getfield 170, 3) := by decide +kernel
theorem dX8_runCommands_80 : decode cX8_runCommands 80 = .ok (.if_icmp .ge 28, 3) := by decide +kernel
theorem dX8_runCommands_83 : decode cX8_runCommands 83 = .ok (.aload_n 0, 1) := by decide +kernel
theorem dX8_runCommands_84 : decode cX8_runCommands 84 = .ok (.invokevirtual 207, 3) := by decide +kernel
theorem dX8_runCommands_87 : decode cX8_runCommands 87 = .ok (.pop, 1) := by decide +kernel
theorem dX8_runCommands_88 : decode cX8_runCommands 88 = .ok (.aload_n 0, 1) := by decide +kernel
theorem dX8_runCommands_89 : decode cX8_runCommands 89 = .ok (.invokevirtual 211, 3) := by decide +kernel
theorem dX8_runCommands_92 : decode cX8_runCommands 92 = .ok (.istore_n 3, 1) := by decide +kernel
theorem dX8_runCommands_93 : decode cX8_runCommands 93 = .ok (.iload_n 2, 1) := by decide +kernel
theorem dX8_runCommands_94 : decode cX8_runCommands 94 = .ok (.iload_n 3, 1) := by decide +kernel
theorem dX8_runCommands_95 : decode cX8_runCommands 95 = .ok (.ifCond .eq 7, 3) := by decide +kernel
theorem dX8_runCommands_98 : decode cX8_runCommands 98 = .ok (.iconst 1, 1) := by decide +kernel
theorem dX8_runCommands_99 : decode cX8_runCommands 99 = .ok (.goto 4, 3) := by decide +kernel
theorem dX8_runCommands_102 : decode cX8_runCommands 102 = .ok (.iconst 0, 1) := by decide +kernel
theorem dX8_runCommands_103 : decode cX8_runCommands 103 = .ok (.iadd, 1) := by decide +kernel
theorem dX8_runCommands_104 : decode cX8_runCommands 104 = .ok (.istore_n 2, 1) := by decide +kernel
theorem dX8_runCommands_105 : decode cX8_runCommands 105 = .ok (.goto (-37), 3) := by decide +kernel
theorem dX8_runCommands_108 : decode cX8_runCommands 108 = .ok (.iload_n 2, 1) := by decide +kernel
theorem dX8_runCommands_109 : decode cX8_runCommands 109 = .ok (.ireturn, 1) := by decide +kernel
set_option maxRecDepth 20000 in
theorem ggX8_undo_X8_copy : GoodIn wsX8_undo wsX8_copy := goodIn_r _ [8] (by decide +kernel) (by decide +kernel)
set_option maxRecDepth 20000 in
theorem gX8_undo_X8_copy : GoodIn wsX8_undo (va_wsS RX8 35 yX8_copy wsX8_copy) := goodIn_app (goodIn_of _ (by decide +kernel)) ggX8_undo_X8_copy
theorem dX8_undo_0 : decode cX8_undo 0 = .ok (.aload_n 0, 1) := by decide +kernel
theorem dX8_undo_1 : decode cX8_undo 1 = .ok (.aload_n 0, 1) := by decide +kernel
theorem dX8_undo_2 : decode cX8_undo 2 = .ok (.getfield 32, 3) := by decide +kernel
theorem dX8_undo_5 : decode cX8_undo 5 = .ok (.ifCond .le 7, 3) := by decide +kernel
theorem dX8_undo_8 : decode cX8_undo 8 = .ok (.iconst 0, 1) := by decide +kernel
theorem dX8_undo_9 : decode cX8_undo 9 = .ok (.goto 4, 3) := by decide +kernel
theorem dX8_undo_12 : decode cX8_undo 12 = .ok (.iconst 1, 1) := by decide +kernel
theorem dX8_undo_13 : decode cX8_undo 13 = .ok (.putfield 28, 3) := by decide +kernel
theorem dX8_undo_16 : decode cX8_undo 16 = .ok (.aload_n 0, 1) := by decide +kernel
theorem dX8_undo_17 : decode cX8_undo 17 = .ok (.getfield 28, 3) := by decide +kernel
theorem dX8_undo_20 : decode cX8_undo 20 = .ok (.ifCond .le 5, 3) := by decide +kernel
theorem dX8_undo_23 : decode cX8_undo 23 = .ok (.iconst 0, 1) := by decide +kernel
theorem dX8_undo_24 : decode cX8_undo 24 = .ok (.ireturn, 1) := by decide +kernel
theorem dX8_undo_25 : decode cX8_undo 25 = .ok (.aload_n 0, 1) := by decide +kernel
theorem dX8_undo_26 : decode cX8_undo 26 = .ok (.dup, 1) := by decide +kernel
theorem dX8_undo_27 : decode cX8_undo 27 = .ok (.getfield 32, 3) := by decide +kernel
theorem dX8_undo_30 : decode cX8_undo 30 = .ok (.iconst 1, 1) := by decide +kernel
theorem dX8_undo_31 : decode cX8_undo 31 = .ok (.isub, 1) := by decide +kernel
theorem dX8_undo_32 : decode cX8_undo 32 = .ok (.putfield 32, 3) := by decide +kernel
theorem dX8_undo_35 : decode cX8_undo 35 = .ok (.aload_n 0, 1) := by decide +kernel
theorem dX8_undo_36 : decode cX8_undo 36 = .ok (.getfield 16, 3) := by decide +kernel
theorem dX8_undo_39 : decode cX8_undo 39 = .ok (.aload_n 0, 1) := by decide +kernel
theorem dX8_undo_40 : decode cX8_undo 40 = .ok (.getfield 32, 3) := by decide +kernel
theorem dX8_undo_43 : decode cX8_undo 43 = .ok (.sipush 704, 3) := by decide +kernel
theorem dX8_undo_46 : decode cX8_undo 46 = .ok (.imul, 1) := by decide +kernel
theorem dX8_undo_47 : decode cX8_undo 47 = .ok (.aload_n 0, 1) := by decide +kernel
theorem dX8_undo_48 : decode cX8_undo 48 = .ok (.getfield 7, 3) := by decide +kernel
theorem dX8_undo_51 : decode cX8_undo 51 = .ok (.iconst 0, 1) := by decide +kernel
theorem dX8_undo_52 : decode cX8_undo 52 = .ok (.invokestatic 35, 3) := by decide +kernel
theorem dX8_undo_55 : decode cX8_undo 55 = .ok (.aload_n 0, 1) := by decide +kernel
theorem dX8_undo_56 : decode cX8_undo 56 = .ok (.getfield 32, 3) := by decide +kernel
theorem dX8_undo_59 : decode cX8_undo 59 = .ok (.ireturn, 1) := by decide +kernel
set_option maxRecDepth 20000 in
theorem ggX8_digest_X8_wholeValue : GoodIn wsX8_digest wsX8_wholeValue := goodIn_r _ [11, 5, 12, 13, 14, 15, 10, 16, 17, 18, 19, 20, 21, 22, 23, 24, 25, 26, 27, 28, 29, 30, 31, 32, 33, 34, 35, 36, 37, 38, 39, 40, 97, 98, 99, 100, 101, 102, 103, 104, 105, 106, 107] (by decide +kernel) (by decide +kernel)
set_option maxRecDepth 20000 in
theorem gX8_digest_X8_wholeValue : GoodIn wsX8_digest (wsV RX8 173 RX8 yX8_wholeValue wsX8_wholeValue) := goodIn_app (goodIn_of _ (by decide +kernel)) ggX8_digest_X8_wholeValue
set_option maxRecDepth 20000 in
theorem ggX8_digest_X8_copy : GoodIn wsX8_digest wsX8_copy := goodIn_r _ [43] (by decide +kernel) (by decide +kernel)
set_option maxRecDepth 20000 in
theorem gX8_digest_X8_copy : GoodIn wsX8_digest (va_wsS RX8 35 yX8_copy wsX8_copy) := goodIn_app (goodIn_of _ (by decide +kernel)) ggX8_digest_X8_copy
set_option maxRecDepth 20000 in
theorem ggX8_digest_X8_finish : GoodIn wsX8_digest wsX8_finish := goodIn_r _ [47, 5, 21, 22, 23, 10, 24, 48, 49, 50, 51, 52, 53, 54, 55, 29, 30, 31, 32, 33, 34, 35, 36, 56, 57, 58, 59, 60, 61, 62, 63, 97, 98, 99, 100, 101, 102, 103, 104, 105, 106, 107] (by decide +kernel) (by decide +kernel)
set_option maxRecDepth 20000 in
theorem gX8_digest_X8_finish : GoodIn wsX8_digest (wsV RX8 179 RX8 yX8_finish wsX8_finish) := goodIn_app (goodIn_of _ (by decide +kernel)) ggX8_digest_X8_finish
set_option maxRecDepth 20000 in
theorem ggX8_digest_X8_ringValue : GoodIn wsX8_digest wsX8_ringValue := goodIn_r _ [67, 5, 21, 22, 23, 10, 24, 33, 34, 35, 36, 68, 69, 70, 71, 97, 98, 99, 100, 101, 102, 103, 104, 105, 106, 107] (by decide +kernel) (by decide +kernel)
set_option maxRecDepth 20000 in
theorem gX8_digest_X8_ringValue : GoodIn wsX8_digest (wsV RX8 154 RX8 yX8_ringValue wsX8_ringValue) := goodIn_app (goodIn_of _ (by decide +kernel)) ggX8_digest_X8_ringValue
set_option maxRecDepth 20000 in
theorem ggX8_digest_X8_movePart : GoodIn wsX8_digest wsX8_movePart := goodIn_r _ [24, 5, 97, 98, 99, 100, 101, 102, 103, 104, 105, 106, 107] (by decide +kernel) (by decide +kernel)
set_option maxRecDepth 20000 in
theorem gX8_digest_X8_movePart : GoodIn wsX8_digest (wsV RX8 70 RX8 yX8_movePart wsX8_movePart) := goodIn_app (goodIn_of _ (by decide +kernel)) ggX8_digest_X8_movePart
set_option maxRecDepth 20000 in
theorem ggX8_digest_X8_hostages : GoodIn wsX8_digest wsX8_hostages := goodIn_r _ [75, 21, 22, 23, 10, 24, 5, 97, 98, 99, 100, 101, 102, 103, 104, 105, 106, 107] (by decide +kernel) (by decide +kernel)
set_option maxRecDepth 20000 in
theorem gX8_digest_X8_hostages : GoodIn wsX8_digest (wsV RX8 160 RX8 yX8_hostages wsX8_hostages) := goodIn_app (goodIn_of _ (by decide +kernel)) ggX8_digest_X8_hostages
set_option maxRecDepth 20000 in
theorem ggX8_digest_X8_hostageOf : GoodIn wsX8_digest wsX8_hostageOf := goodIn_r _ [79, 5, 21, 22, 23, 10, 24, 97, 98, 99, 100, 101, 102, 103, 104, 105, 106, 107] (by decide +kernel) (by decide +kernel)
set_option maxRecDepth 20000 in
theorem gX8_digest_X8_hostageOf : GoodIn wsX8_digest (wsV RX8 163 RX8 yX8_hostageOf wsX8_hostageOf) := goodIn_app (goodIn_of _ (by decide +kernel)) ggX8_digest_X8_hostageOf
set_option maxRecDepth 20000 in
theorem ggX8_digest_X8_waitsOf : GoodIn wsX8_digest wsX8_waitsOf := goodIn_r _ [83, 21, 22, 23, 10, 24, 5, 84, 85, 86, 87, 29, 30, 31, 32, 33, 34, 35, 36, 88, 89, 90, 91, 60, 61, 62, 63, 25, 26, 27, 28, 97, 98, 99, 100, 101, 102, 103, 104, 105, 106, 107] (by decide +kernel) (by decide +kernel)
set_option maxRecDepth 20000 in
theorem gX8_digest_X8_waitsOf : GoodIn wsX8_digest (wsV RX8 132 RX8 yX8_waitsOf wsX8_waitsOf) := goodIn_app (goodIn_of _ (by decide +kernel)) ggX8_digest_X8_waitsOf
set_option maxRecDepth 20000 in
theorem ggX8_digest_X8_depthOf : GoodIn wsX8_digest wsX8_depthOf := goodIn_r _ [95, 96, 80, 81, 82, 10, 83, 21, 22, 23, 24, 5, 84, 85, 86, 87, 29, 30, 31, 32, 33, 34, 35, 36, 88, 89, 90, 91, 60, 61, 62, 63, 25, 26, 27, 28, 97, 98, 99, 100, 101, 102, 103, 104, 105, 106, 107] (by decide +kernel) (by decide +kernel)
set_option maxRecDepth 20000 in
theorem gX8_digest_X8_depthOf : GoodIn wsX8_digest (wsV RX8 176 RX8 yX8_depthOf wsX8_depthOf) := goodIn_app (goodIn_of _ (by decide +kernel)) ggX8_digest_X8_depthOf
set_option maxRecDepth 20000 in
theorem ggX8_digest_X8_heldCells : GoodIn wsX8_digest wsX8_heldCells := goodIn_r _ [16, 5, 17, 18, 19, 10, 20, 21, 22, 23, 24, 25, 26, 27, 28, 29, 30, 31, 32, 33, 34, 35, 36, 97, 98, 99, 100, 101, 102, 103, 104, 105, 106, 107] (by decide +kernel) (by decide +kernel)
set_option maxRecDepth 20000 in
theorem gX8_digest_X8_heldCells : GoodIn wsX8_digest (wsV RX8 166 RX8 yX8_heldCells wsX8_heldCells) := goodIn_app (goodIn_of _ (by decide +kernel)) ggX8_digest_X8_heldCells
theorem dX8_digest_0 : decode cX8_digest 0 = .ok (.aload_n 0, 1) := by decide +kernel
theorem dX8_digest_1 : decode cX8_digest 1 = .ok (.iconst 0, 1) := by decide +kernel
theorem dX8_digest_2 : decode cX8_digest 2 = .ok (.putfield 28, 3) := by decide +kernel
theorem dX8_digest_5 : decode cX8_digest 5 = .ok (.ldc2_w 214, 3) := by decide +kernel
theorem dX8_digest_8 : decode cX8_digest 8 = .ok (.aload_n 0, 1) := by decide +kernel
theorem dX8_digest_9 : decode cX8_digest 9 = .ok (.getfield 32, 3) := by decide +kernel
theorem dX8_digest_12 : decode cX8_digest 12 = .ok (.i2l, 1) := by decide +kernel
theorem dX8_digest_13 : decode cX8_digest 13 = .ok (.ladd, 1) := by decide +kernel
theorem dX8_digest_14 : decode cX8_digest 14 = .ok (.lstore_n 1, 1) := by decide +kernel
theorem dX8_digest_15 : decode cX8_digest 15 = .ok (.iconst 0, 1) := by decide +kernel
theorem dX8_digest_16 : decode cX8_digest 16 = .ok (.istore_n 3, 1) := by decide +kernel
theorem dX8_digest_17 : decode cX8_digest 17 = .ok (.iload_n 3, 1) := by decide +kernel
theorem dX8_digest_18 : decode cX8_digest 18 = .ok (.bipush 14, 2) := by decide +kernel
theorem dX8_digest_20 : decode cX8_digest 20 = .ok (.if_icmp .gt 22, 3) := by decide +kernel
theorem dX8_digest_23 : decode cX8_digest 23 = .ok (.ldc2_w 216, 3) := by decide +kernel
theorem dX8_digest_26 : decode cX8_digest 26 = .ok (.lload_n 1, 1) := by decide +kernel
theorem dX8_digest_27 : decode cX8_digest 27 = .ok (.lmul, 1) := by decide +kernel
theorem dX8_digest_28 : decode cX8_digest 28 = .ok (.aload_n 0, 1) := by decide +kernel
theorem dX8_digest_29 : decode cX8_digest 29 = .ok (.iload_n 3, 1) := by decide +kernel
theorem dX8_digest_30 : decode cX8_digest 30 = .ok (.invokevirtual 173, 3) := by decide +kernel
theorem dX8_digest_33 : decode cX8_digest 33 = .ok (.i2l, 1) := by decide +kernel
theorem dX8_digest_34 : decode cX8_digest 34 = .ok (.ladd, 1) := by decide +kernel
theorem dX8_digest_35 : decode cX8_digest 35 = .ok (.lstore_n 1, 1) := by decide +kernel
theorem dX8_digest_36 : decode cX8_digest 36 = .ok (.iinc 3 1, 3) := by decide +kernel
theorem dX8_digest_39 : decode cX8_digest 39 = .ok (.goto (-22), 3) := by decide +kernel
theorem dX8_digest_42 : decode cX8_digest 42 = .ok (.aload_n 0, 1) := by decide +kernel
theorem dX8_digest_43 : decode cX8_digest 43 = .ok (.getfield 7, 3) := by decide +kernel
theorem dX8_digest_46 : decode cX8_digest 46 = .ok (.iconst 0, 1) := by decide +kernel
theorem dX8_digest_47 : decode cX8_digest 47 = .ok (.aload_n 0, 1) := by decide +kernel
theorem dX8_digest_48 : decode cX8_digest 48 = .ok (.getfield 13, 3) := by decide +kernel
theorem dX8_digest_51 : decode cX8_digest 51 = .ok (.iconst 0, 1) := by decide +kernel
theorem dX8_digest_52 : decode cX8_digest 52 = .ok (.invokestatic 35, 3) := by decide +kernel
theorem dX8_digest_55 : decode cX8_digest 55 = .ok (.aload_n 0, 1) := by decide +kernel
theorem dX8_digest_56 : decode cX8_digest 56 = .ok (.invokevirtual 179, 3) := by decide +kernel
theorem dX8_digest_59 : decode cX8_digest 59 = .ok (.iconst 0, 1) := by decide +kernel
theorem dX8_digest_60 : decode cX8_digest 60 = .ok (.istore_n 3, 1) := by decide +kernel
theorem dX8_digest_61 : decode cX8_digest 61 = .ok (.iload_n 3, 1) := by decide +kernel
theorem dX8_digest_62 : decode cX8_digest 62 = .ok (.bipush 48, 2) := by decide +kernel
theorem dX8_digest_64 : decode cX8_digest 64 = .ok (.if_icmp .ge 43, 3) := by decide +kernel
theorem dX8_digest_67 : decode cX8_digest 67 = .ok (.ldc2_w 216, 3) := by decide +kernel
theorem dX8_digest_70 : decode cX8_digest 70 = .ok (.lload_n 1, 1) := by decide +kernel
theorem dX8_digest_71 : decode cX8_digest 71 = .ok (.lmul, 1) := by decide +kernel
theorem dX8_digest_72 : decode cX8_digest 72 = .ok (.aload_n 0, 1) := by decide +kernel
theorem dX8_digest_73 : decode cX8_digest 73 = .ok (.getfield 13, 3) := by decide +kernel
theorem dX8_digest_76 : decode cX8_digest 76 = .ok (.bipush 8, 2) := by decide +kernel
theorem dX8_digest_78 : decode cX8_digest 78 = .ok (.iload_n 3, 1) := by decide +kernel
theorem dX8_digest_79 : decode cX8_digest 79 = .ok (.iadd, 1) := by decide +kernel
theorem dX8_digest_80 : decode cX8_digest 80 = .ok (.iaload, 1) := by decide +kernel
theorem dX8_digest_81 : decode cX8_digest 81 = .ok (.i2l, 1) := by decide +kernel
theorem dX8_digest_82 : decode cX8_digest 82 = .ok (.ladd, 1) := by decide +kernel
theorem dX8_digest_83 : decode cX8_digest 83 = .ok (.lstore_n 1, 1) := by decide +kernel
theorem dX8_digest_84 : decode cX8_digest 84 = .ok (.ldc2_w 216, 3) := by decide +kernel
theorem dX8_digest_87 : decode cX8_digest 87 = .ok (.lload_n 1, 1) := by decide +kernel
theorem dX8_digest_88 : decode cX8_digest 88 = .ok (.lmul, 1) := by decide +kernel
theorem dX8_digest_89 : decode cX8_digest 89 = .ok (.aload_n 0, 1) := by decide +kernel
theorem dX8_digest_90 : decode cX8_digest 90 = .ok (.getfield 7, 3) := by decide +kernel
theorem dX8_digest_93 : decode cX8_digest 93 = .ok (.bipush 8, 2) := by decide +kernel
theorem dX8_digest_95 : decode cX8_digest 95 = .ok (.iload_n 3, 1) := by decide +kernel
theorem dX8_digest_96 : decode cX8_digest 96 = .ok (.iadd, 1) := by decide +kernel
theorem dX8_digest_97 : decode cX8_digest 97 = .ok (.iaload, 1) := by decide +kernel
theorem dX8_digest_98 : decode cX8_digest 98 = .ok (.i2l, 1) := by decide +kernel
theorem dX8_digest_99 : decode cX8_digest 99 = .ok (.ladd, 1) := by decide +kernel
theorem dX8_digest_100 : decode cX8_digest 100 = .ok (.lstore_n 1, 1) := by decide +kernel
theorem dX8_digest_101 : decode cX8_digest 101 = .ok (.iinc 3 1, 3) := by decide +kernel
theorem dX8_digest_104 : decode cX8_digest 104 = .ok (.goto (-43), 3) := by decide +kernel
theorem dX8_digest_107 : decode cX8_digest 107 = .ok (.aload_n 0, 1) := by decide +kernel
theorem dX8_digest_108 : decode cX8_digest 108 = .ok (.getfield 13, 3) := by decide +kernel
theorem dX8_digest_111 : decode cX8_digest 111 = .ok (.iconst 0, 1) := by decide +kernel
theorem dX8_digest_112 : decode cX8_digest 112 = .ok (.aload_n 0, 1) := by decide +kernel
theorem dX8_digest_113 : decode cX8_digest 113 = .ok (.getfield 7, 3) := by decide +kernel
theorem dX8_digest_116 : decode cX8_digest 116 = .ok (.iconst 0, 1) := by decide +kernel
theorem dX8_digest_117 : decode cX8_digest 117 = .ok (.invokestatic 35, 3) := by decide +kernel
theorem dX8_digest_120 : decode cX8_digest 120 = .ok (.iconst 0, 1) := by decide +kernel
theorem dX8_digest_121 : decode cX8_digest 121 = .ok (.istore_n 3, 1) := by decide +kernel
theorem dX8_digest_122 : decode cX8_digest 122 = .ok (.iload_n 3, 1) := by decide +kernel
theorem dX8_digest_123 : decode cX8_digest 123 = .ok (.aload_n 0, 1) := by decide +kernel
theorem dX8_digest_124 : decode cX8_digest 124 = .ok (.getfield 7, 3) := by decide +kernel
theorem dX8_digest_127 : decode cX8_digest 127 = .ok (.iconst 3, 1) := by decide +kernel
theorem dX8_digest_128 : decode cX8_digest 128 = .ok (.iaload, 1) := by decide +kernel
theorem dX8_digest_129 : decode cX8_digest 129 = .ok (.if_icmp .ge 40, 3) := by decide +kernel
theorem dX8_digest_132 : decode cX8_digest 132 = .ok (.iconst 0, 1) := by decide +kernel
theorem dX8_digest_133 : decode cX8_digest 133 = .ok (.istore 4, 2) := by decide +kernel
theorem dX8_digest_135 : decode cX8_digest 135 = .ok (.iload 4, 2) := by decide +kernel
theorem dX8_digest_137 : decode cX8_digest 137 = .ok (.bipush 7, 2) := by decide +kernel
theorem dX8_digest_139 : decode cX8_digest 139 = .ok (.if_icmp .gt 24, 3) := by decide +kernel
theorem dX8_digest_142 : decode cX8_digest 142 = .ok (.ldc2_w 216, 3) := by decide +kernel
theorem dX8_digest_145 : decode cX8_digest 145 = .ok (.lload_n 1, 1) := by decide +kernel
theorem dX8_digest_146 : decode cX8_digest 146 = .ok (.lmul, 1) := by decide +kernel
theorem dX8_digest_147 : decode cX8_digest 147 = .ok (.aload_n 0, 1) := by decide +kernel
theorem dX8_digest_148 : decode cX8_digest 148 = .ok (.iload_n 3, 1) := by decide +kernel
theorem dX8_digest_149 : decode cX8_digest 149 = .ok (.iload 4, 2) := by decide +kernel
theorem dX8_digest_151 : decode cX8_digest 151 = .ok (.invokevirtual 154, 3) := by decide +kernel
theorem dX8_digest_154 : decode cX8_digest 154 = .ok (.i2l, 1) := by decide +kernel
theorem dX8_digest_155 : decode cX8_digest 155 = .ok (.ladd, 1) := by decide +kernel
theorem dX8_digest_156 : decode cX8_digest 156 = .ok (.lstore_n 1, 1) := by decide +kernel
theorem dX8_digest_157 : decode cX8_digest 157 = .ok (.iinc 4 1, 3) := by decide +kernel
theorem dX8_digest_160 : decode cX8_digest 160 = .ok (.goto (-25), 3) := by decide +kernel
theorem dX8_digest_163 : decode cX8_digest 163 = .ok (.iinc 3 1, 3) := by decide +kernel
theorem dX8_digest_166 : decode cX8_digest 166 = .ok (.goto (-44), 3) := by decide +kernel
theorem dX8_digest_169 : decode cX8_digest 169 = .ok (.iconst 0, 1) := by decide +kernel
theorem dX8_digest_170 : decode cX8_digest 170 = .ok (.istore_n 3, 1) := by decide +kernel
theorem dX8_digest_171 : decode cX8_digest 171 = .ok (.iload_n 3, 1) := by decide +kernel
theorem dX8_digest_172 : decode cX8_digest 172 = .ok (.aload_n 0, 1) := by decide +kernel
theorem dX8_digest_173 : decode cX8_digest 173 = .ok (.getfield 7, 3) := by decide +kernel
theorem dX8_digest_176 : decode cX8_digest 176 = .ok (.iconst 4, 1) := by decide +kernel
theorem dX8_digest_177 : decode cX8_digest 177 = .ok (.iaload, 1) := by decide +kernel
theorem dX8_digest_178 : decode cX8_digest 178 = .ok (.if_icmp .ge 100, 3) := by decide +kernel
theorem dX8_digest_181 : decode cX8_digest 181 = .ok (.iconst 0, 1) := by decide +kernel
theorem dX8_digest_182 : decode cX8_digest 182 = .ok (.istore 4, 2) := by decide +kernel
theorem dX8_digest_184 : decode cX8_digest 184 = .ok (.iload 4, 2) := by decide +kernel
theorem dX8_digest_186 : decode cX8_digest 186 = .ok (.bipush 9, 2) := by decide +kernel
theorem dX8_digest_188 : decode cX8_digest 188 = .ok (.if_icmp .gt 24, 3) := by decide +kernel
theorem dX8_digest_191 : decode cX8_digest 191 = .ok (.ldc2_w 216, 3) := by decide +kernel
theorem dX8_digest_194 : decode cX8_digest 194 = .ok (.lload_n 1, 1) := by decide +kernel
theorem dX8_digest_195 : decode cX8_digest 195 = .ok (.lmul, 1) := by decide +kernel
theorem dX8_digest_196 : decode cX8_digest 196 = .ok (.aload_n 0, 1) := by decide +kernel
theorem dX8_digest_197 : decode cX8_digest 197 = .ok (.iload_n 3, 1) := by decide +kernel
theorem dX8_digest_198 : decode cX8_digest 198 = .ok (.iload 4, 2) := by decide +kernel
theorem dX8_digest_200 : decode cX8_digest 200 = .ok (.invokevirtual 70, 3) := by decide +kernel
theorem dX8_digest_203 : decode cX8_digest 203 = .ok (.i2l, 1) := by decide +kernel
theorem dX8_digest_204 : decode cX8_digest 204 = .ok (.ladd, 1) := by decide +kernel
theorem dX8_digest_205 : decode cX8_digest 205 = .ok (.lstore_n 1, 1) := by decide +kernel
theorem dX8_digest_206 : decode cX8_digest 206 = .ok (.iinc 4 1, 3) := by decide +kernel
theorem dX8_digest_209 : decode cX8_digest 209 = .ok (.goto (-25), 3) := by decide +kernel
theorem dX8_digest_212 : decode cX8_digest 212 = .ok (.iconst 0, 1) := by decide +kernel
theorem dX8_digest_213 : decode cX8_digest 213 = .ok (.istore 4, 2) := by decide +kernel
theorem dX8_digest_215 : decode cX8_digest 215 = .ok (.iload 4, 2) := by decide +kernel
theorem dX8_digest_217 : decode cX8_digest 217 = .ok (.aload_n 0, 1) := by decide +kernel
theorem dX8_digest_218 : decode cX8_digest 218 = .ok (.iload_n 3, 1) := by decide +kernel
theorem dX8_digest_219 : decode cX8_digest 219 = .ok (.invokevirtual 160, 3) := by decide +kernel
theorem dX8_digest_222 : decode cX8_digest 222 = .ok (.if_icmp .ge 24, 3) := by decide +kernel
theorem dX8_digest_225 : decode cX8_digest 225 = .ok (.ldc2_w 216, 3) := by decide +kernel
theorem dX8_digest_228 : decode cX8_digest 228 = .ok (.lload_n 1, 1) := by decide +kernel
theorem dX8_digest_229 : decode cX8_digest 229 = .ok (.lmul, 1) := by decide +kernel
theorem dX8_digest_230 : decode cX8_digest 230 = .ok (.aload_n 0, 1) := by decide +kernel
theorem dX8_digest_231 : decode cX8_digest 231 = .ok (.iload_n 3, 1) := by decide +kernel
theorem dX8_digest_232 : decode cX8_digest 232 = .ok (.iload 4, 2) := by decide +kernel
theorem dX8_digest_234 : decode cX8_digest 234 = .ok (.invokevirtual 163, 3) := by decide +kernel
theorem dX8_digest_237 : decode cX8_digest 237 = .ok (.i2l, 1) := by decide +kernel
theorem dX8_digest_238 : decode cX8_digest 238 = .ok (.ladd, 1) := by decide +kernel
theorem dX8_digest_239 : decode cX8_digest 239 = .ok (.lstore_n 1, 1) := by decide +kernel
theorem dX8_digest_240 : decode cX8_digest 240 = .ok (.iinc 4 1, 3) := by decide +kernel
theorem dX8_digest_243 : decode cX8_digest 243 = .ok (.goto (-28), 3) := by decide +kernel
theorem dX8_digest_246 : decode cX8_digest 246 = .ok (.ldc2_w 216, 3) := by decide +kernel
theorem dX8_digest_249 : decode cX8_digest 249 = .ok (.lload_n 1, 1) := by decide +kernel
theorem dX8_digest_250 : decode cX8_digest 250 = .ok (.lmul, 1) := by decide +kernel
theorem dX8_digest_251 : decode cX8_digest 251 = .ok (.aload_n 0, 1) := by decide +kernel
theorem dX8_digest_252 : decode cX8_digest 252 = .ok (.iload_n 3, 1) := by decide +kernel
theorem dX8_digest_253 : decode cX8_digest 253 = .ok (.invokevirtual 132, 3) := by decide +kernel
theorem dX8_digest_256 : decode cX8_digest 256 = .ok (.i2l, 1) := by decide +kernel
theorem dX8_digest_257 : decode cX8_digest 257 = .ok (.ladd, 1) := by decide +kernel
theorem dX8_digest_258 : decode cX8_digest 258 = .ok (.lstore_n 1, 1) := by decide +kernel
theorem dX8_digest_259 : decode cX8_digest 259 = .ok (.ldc2_w 216, 3) := by decide +kernel
theorem dX8_digest_262 : decode cX8_digest 262 = .ok (.lload_n 1, 1) := by decide +kernel
theorem dX8_digest_263 : decode cX8_digest 263 = .ok (.lmul, 1) := by decide +kernel
theorem dX8_digest_264 : decode cX8_digest 264 = .ok (.aload_n 0, 1) := by decide +kernel
theorem dX8_digest_265 : decode cX8_digest 265 = .ok (.iload_n 3, 1) := by decide +kernel
theorem dX8_digest_266 : decode cX8_digest 266 = .ok (.invokevirtual 176, 3) := by decide +kernel
theorem dX8_digest_269 : decode cX8_digest 269 = .ok (.i2l, 1) := by decide +kernel
theorem dX8_digest_270 : decode cX8_digest 270 = .ok (.ladd, 1) := by decide +kernel
theorem dX8_digest_271 : decode cX8_digest 271 = .ok (.lstore_n 1, 1) := by decide +kernel
theorem dX8_digest_272 : decode cX8_digest 272 = .ok (.iinc 3 1, 3) := by decide +kernel
theorem dX8_digest_275 : decode cX8_digest 275 = .ok (.goto (-104), 3) := by decide +kernel
theorem dX8_digest_278 : decode cX8_digest 278 = .ok (.ldc2_w 216, 3) := by decide +kernel
theorem dX8_digest_281 : decode cX8_digest 281 = .ok (.lload_n 1, 1) := by decide +kernel
theorem dX8_digest_282 : decode cX8_digest 282 = .ok (.lmul, 1) := by decide +kernel
theorem dX8_digest_283 : decode cX8_digest 283 = .ok (.aload_n 0, 1) := by decide +kernel
theorem dX8_digest_284 : decode cX8_digest 284 = .ok (.invokevirtual 166, 3) := by decide +kernel
theorem dX8_digest_287 : decode cX8_digest 287 = .ok (.ladd, 1) := by decide +kernel
theorem dX8_digest_288 : decode cX8_digest 288 = .ok (.lreturn, 1) := by decide +kernel
