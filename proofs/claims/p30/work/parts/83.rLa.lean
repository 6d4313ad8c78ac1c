theorem dL_cell_0 : decode cL_cell 0 = .ok (.iload_n 1, 1) := by decide +kernel
theorem dL_cell_1 : decode cL_cell 1 = .ok (.aload_n 0, 1) := by decide +kernel
theorem dL_cell_2 : decode cL_cell 2 = .ok (.arraylength, 1) := by decide +kernel
theorem dL_cell_3 : decode cL_cell 3 = .ok (.if_icmp .ge 9, 3) := by decide +kernel
theorem dL_cell_6 : decode cL_cell 6 = .ok (.aload_n 0, 1) := by decide +kernel
theorem dL_cell_7 : decode cL_cell 7 = .ok (.iload_n 1, 1) := by decide +kernel
theorem dL_cell_8 : decode cL_cell 8 = .ok (.iaload, 1) := by decide +kernel
theorem dL_cell_9 : decode cL_cell 9 = .ok (.goto 12, 3) := by decide +kernel
theorem dL_cell_12 : decode cL_cell 12 = .ok (.ldc 7, 2) := by decide +kernel
theorem dL_cell_14 : decode cL_cell 14 = .ok (.iload_n 1, 1) := by decide +kernel
theorem dL_cell_15 : decode cL_cell 15 = .ok (.iconst 1, 1) := by decide +kernel
theorem dL_cell_16 : decode cL_cell 16 = .ok (.iadd, 1) := by decide +kernel
theorem dL_cell_17 : decode cL_cell 17 = .ok (.imul, 1) := by decide +kernel
theorem dL_cell_18 : decode cL_cell 18 = .ok (.ldc 8, 2) := by decide +kernel
theorem dL_cell_20 : decode cL_cell 20 = .ok (.iadd, 1) := by decide +kernel
theorem dL_cell_21 : decode cL_cell 21 = .ok (.ireturn, 1) := by decide +kernel
theorem dL_low_0 : decode cL_low 0 = .ok (.iload_n 0, 1) := by decide +kernel
theorem dL_low_1 : decode cL_low 1 = .ok (.ldc 9, 2) := by decide +kernel
theorem dL_low_3 : decode cL_low 3 = .ok (.iand, 1) := by decide +kernel
theorem dL_low_4 : decode cL_low 4 = .ok (.iload_n 1, 1) := by decide +kernel
theorem dL_low_5 : decode cL_low 5 = .ok (.irem, 1) := by decide +kernel
theorem dL_low_6 : decode cL_low 6 = .ok (.ireturn, 1) := by decide +kernel
set_option maxRecDepth 20000 in
theorem ggL_sign_X7_sign : GoodIn wsL_sign wsX7_sign := goodIn_ca (goodIn_ca (goodIn_ca (goodIn_r _ [7, 8, 9, 10, 11, 12, 13, 14, 15, 16, 17, 18, 19, 20, 21, 22, 23, 24, 25, 26, 27, 28, 29, 30, 31, 32, 33, 34, 6, 35, 36, 37, 38, 39, 40, 41, 42, 43, 44, 45, 46, 47, 48, 49, 50, 51, 52, 53, 54, 55, 56, 57, 58, 59, 60, 61, 62, 63, 64, 65, 66, 67, 68, 69, 70, 71, 72, 73, 74, 75, 76, 77, 78, 79, 80, 81, 82, 83, 84, 85, 86, 87, 88, 89, 90, 91, 92, 93, 94, 95, 96, 97, 98, 99, 100, 101, 102, 103, 104, 105, 106, 107, 108, 109, 110, 111, 112, 113, 114, 115, 116, 117, 118, 119, 120, 121, 122, 123, 124, 125, 126, 127, 128, 129, 130, 131, 132, 133, 134, 135, 136, 137, 138, 139, 140, 141] (by decide +kernel) (by decide +kernel)) (goodIn_sub (fun _ h => List.mem_cons_of_mem _ (List.mem_append_left _ (List.mem_append_left _ (List.mem_append_right _ h)))) (by decide +kernel))) (goodIn_sub (fun _ h => List.mem_cons_of_mem _ (List.mem_append_left _ (List.mem_append_right _ h))) (by decide +kernel))) (goodIn_sub (fun _ h => List.mem_cons_of_mem _ (List.mem_append_right _ h)) (by decide +kernel))
set_option maxRecDepth 20000 in
theorem gL_sign_X7_sign : GoodIn wsL_sign (wsV RL 10 RX7 yX7_sign wsX7_sign) := goodIn_app (goodIn_of _ (by decide +kernel)) ggL_sign_X7_sign
theorem dL_sign_0 : decode cL_sign 0 = .ok (.aload_n 0, 1) := by decide +kernel
theorem dL_sign_1 : decode cL_sign 1 = .ok (.iload_n 1, 1) := by decide +kernel
theorem dL_sign_2 : decode cL_sign 2 = .ok (.invokevirtual 10, 3) := by decide +kernel
theorem dL_sign_5 : decode cL_sign 5 = .ok (.ireturn, 1) := by decide +kernel
theorem dL_sign_6 : decode cL_sign 6 = .ok (.astore_n 2, 1) := by decide +kernel
theorem dL_sign_7 : decode cL_sign 7 = .ok (.iconst (-1), 1) := by decide +kernel
theorem dL_sign_8 : decode cL_sign 8 = .ok (.ireturn, 1) := by decide +kernel
theorem dL_sign_9 : decode cL_sign 9 = .ok (.astore_n 2, 1) := by decide +kernel
theorem dL_sign_10 : decode cL_sign 10 = .ok (.bipush (-2), 2) := by decide +kernel
theorem dL_sign_12 : decode cL_sign 12 = .ok (.ireturn, 1) := by decide +kernel
set_option maxRecDepth 20000 in
theorem ggL_strike_X7_strike : GoodIn wsL_strike wsX7_strike := goodIn_ca (goodIn_ca (goodIn_ca (goodIn_r _ [7, 8, 9, 10, 11, 12, 13, 14, 15, 16, 17, 18, 19, 20, 21, 22, 23, 6, 24, 25, 26, 27, 28, 29, 30, 31, 32, 33, 34, 35, 36, 37, 38, 39, 40, 41, 42, 43, 44, 45, 46, 47, 48, 49, 50, 51, 52, 53, 54, 55, 56, 57, 58, 59, 60, 61, 62, 63, 64, 65, 66, 67, 68, 69, 70, 71, 72, 73, 74, 75, 76, 77, 78, 79, 80, 81, 82, 83, 84, 85, 86, 87, 88, 89, 90, 91, 92, 93, 94, 95, 96, 97, 98, 99, 100, 101, 102, 103, 104, 105, 106, 107, 108, 109, 110, 111, 112, 113, 114, 115, 116, 117, 118, 119, 120, 121, 122, 123, 124, 125, 126, 127, 128, 129, 130, 131, 132, 133, 134, 135, 136] (by decide +kernel) (by decide +kernel)) (goodIn_sub (fun _ h => List.mem_cons_of_mem _ (List.mem_append_left _ (List.mem_append_left _ (List.mem_append_right _ h)))) (by decide +kernel))) (goodIn_sub (fun _ h => List.mem_cons_of_mem _ (List.mem_append_left _ (List.mem_append_right _ h))) (by decide +kernel))) (goodIn_sub (fun _ h => List.mem_cons_of_mem _ (List.mem_append_right _ h)) (by decide +kernel))
set_option maxRecDepth 20000 in
theorem gL_strike_X7_strike : GoodIn wsL_strike (wsV RL 20 RX7 yX7_strike wsX7_strike) := goodIn_app (goodIn_of _ (by decide +kernel)) ggL_strike_X7_strike
theorem dL_strike_0 : decode cL_strike 0 = .ok (.aload_n 0, 1) := by decide +kernel
theorem dL_strike_1 : decode cL_strike 1 = .ok (.iload_n 1, 1) := by decide +kernel
theorem dL_strike_2 : decode cL_strike 2 = .ok (.iload_n 2, 1) := by decide +kernel
theorem dL_strike_3 : decode cL_strike 3 = .ok (.invokevirtual 20, 3) := by decide +kernel
theorem dL_strike_6 : decode cL_strike 6 = .ok (.ireturn, 1) := by decide +kernel
theorem dL_strike_7 : decode cL_strike 7 = .ok (.astore_n 3, 1) := by decide +kernel
theorem dL_strike_8 : decode cL_strike 8 = .ok (.iconst (-1), 1) := by decide +kernel
theorem dL_strike_9 : decode cL_strike 9 = .ok (.ireturn, 1) := by decide +kernel
theorem dL_strike_10 : decode cL_strike 10 = .ok (.astore_n 3, 1) := by decide +kernel
theorem dL_strike_11 : decode cL_strike 11 = .ok (.bipush (-2), 2) := by decide +kernel
theorem dL_strike_13 : decode cL_strike 13 = .ok (.ireturn, 1) := by decide +kernel
set_option maxRecDepth 20000 in
theorem ggL_write_X7_write : GoodIn wsL_write wsX7_write := goodIn_ca (goodIn_ca (goodIn_ca (goodIn_r _ [8, 9, 10, 11, 12, 13, 14, 15, 16, 7, 17, 18, 19, 20, 21, 22, 23, 24, 25, 26, 27, 28, 29, 30, 31, 32, 33, 34, 35, 36, 37, 38, 39, 40, 41, 42, 43, 44, 45, 46, 47, 48, 49, 50, 51, 52, 53, 54, 55, 56, 57, 58, 59, 60, 61, 62, 63, 64, 65, 66, 67, 68, 69, 70, 71, 72, 73, 74, 75, 76, 77, 78, 79, 80, 81, 82, 83, 84, 85, 86, 87, 88, 89, 90, 91, 92, 93, 94, 95, 96, 97, 98, 99, 100, 101, 102, 103, 104, 105, 106, 107, 108, 109, 110, 111, 112, 113, 114, 115, 116, 117, 118, 119, 120, 121, 122, 123, 124, 125, 126, 127, 128, 129, 130, 131, 132, 133, 134, 135, 136, 137, 138, 139, 140, 141, 142, 143] (by decide +kernel) (by decide +kernel)) (goodIn_sub (fun _ h => List.mem_cons_of_mem _ (List.mem_append_left _ (List.mem_append_left _ (List.mem_append_right _ h)))) (by decide +kernel))) (goodIn_sub (fun _ h => List.mem_cons_of_mem _ (List.mem_append_left _ (List.mem_append_right _ h))) (by decide +kernel))) (goodIn_sub (fun _ h => List.mem_cons_of_mem _ (List.mem_append_right _ h)) (by decide +kernel))
set_option maxRecDepth 20000 in
theorem gL_write_X7_write : GoodIn wsL_write (wsV RL 24 RX7 yX7_write wsX7_write) := goodIn_app (goodIn_of _ (by decide +kernel)) ggL_write_X7_write
theorem dL_write_0 : decode cL_write 0 = .ok (.aload_n 0, 1) := by decide +kernel
theorem dL_write_1 : decode cL_write 1 = .ok (.iload_n 1, 1) := by decide +kernel
theorem dL_write_2 : decode cL_write 2 = .ok (.iload_n 2, 1) := by decide +kernel
theorem dL_write_3 : decode cL_write 3 = .ok (.invokevirtual 24, 3) := by decide +kernel
theorem dL_write_6 : decode cL_write 6 = .ok (.ireturn, 1) := by decide +kernel
theorem dL_write_7 : decode cL_write 7 = .ok (.astore_n 3, 1) := by decide +kernel
theorem dL_write_8 : decode cL_write 8 = .ok (.sipush (-1001), 3) := by decide +kernel
theorem dL_write_11 : decode cL_write 11 = .ok (.ireturn, 1) := by decide +kernel
theorem dL_write_12 : decode cL_write 12 = .ok (.astore_n 3, 1) := by decide +kernel
theorem dL_write_13 : decode cL_write 13 = .ok (.sipush (-1002), 3) := by decide +kernel
theorem dL_write_16 : decode cL_write 16 = .ok (.ireturn, 1) := by decide +kernel
theorem dL_write_17 : decode cL_write 17 = .ok (.astore_n 3, 1) := by decide +kernel
theorem dL_write_18 : decode cL_write 18 = .ok (.sipush (-1003), 3) := by decide +kernel
theorem dL_write_21 : decode cL_write 21 = .ok (.ireturn, 1) := by decide +kernel
theorem dL_place_0 : decode cL_place 0 = .ok (.aload_n 2, 1) := by decide +kernel
theorem dL_place_1 : decode cL_place 1 = .ok (.iconst 4, 1) := by decide +kernel
theorem dL_place_2 : decode cL_place 2 = .ok (.iload_n 0, 1) := by decide +kernel
theorem dL_place_3 : decode cL_place 3 = .ok (.imul, 1) := by decide +kernel
theorem dL_place_4 : decode cL_place 4 = .ok (.iaload, 1) := by decide +kernel
theorem dL_place_5 : decode cL_place 5 = .ok (.iload_n 1, 1) := by decide +kernel
theorem dL_place_6 : decode cL_place 6 = .ok (.aload_n 2, 1) := by decide +kernel
theorem dL_place_7 : decode cL_place 7 = .ok (.iconst 4, 1) := by decide +kernel
theorem dL_place_8 : decode cL_place 8 = .ok (.iload_n 0, 1) := by decide +kernel
theorem dL_place_9 : decode cL_place 9 = .ok (.imul, 1) := by decide +kernel
theorem dL_place_10 : decode cL_place 10 = .ok (.iconst 1, 1) := by decide +kernel
theorem dL_place_11 : decode cL_place 11 = .ok (.iadd, 1) := by decide +kernel
theorem dL_place_12 : decode cL_place 12 = .ok (.iaload, 1) := by decide +kernel
theorem dL_place_13 : decode cL_place 13 = .ok (.irem, 1) := by decide +kernel
theorem dL_place_14 : decode cL_place 14 = .ok (.iadd, 1) := by decide +kernel
theorem dL_place_15 : decode cL_place 15 = .ok (.ireturn, 1) := by decide +kernel
theorem dL_waits_0 : decode cL_waits 0 = .ok (.aload_n 2, 1) := by decide +kernel
theorem dL_waits_1 : decode cL_waits 1 = .ok (.bipush 8, 2) := by decide +kernel
theorem dL_waits_3 : decode cL_waits 3 = .ok (.iload_n 1, 1) := by decide +kernel
theorem dL_waits_4 : decode cL_waits 4 = .ok (.imul, 1) := by decide +kernel
theorem dL_waits_5 : decode cL_waits 5 = .ok (.iconst 5, 1) := by decide +kernel
theorem dL_waits_6 : decode cL_waits 6 = .ok (.iadd, 1) := by decide +kernel
theorem dL_waits_7 : decode cL_waits 7 = .ok (.iaload, 1) := by decide +kernel
theorem dL_waits_8 : decode cL_waits 8 = .ok (.istore 4, 2) := by decide +kernel
theorem dL_waits_10 : decode cL_waits 10 = .ok (.iload 4, 2) := by decide +kernel
theorem dL_waits_12 : decode cL_waits 12 = .ok (.iconst 3, 1) := by decide +kernel
theorem dL_waits_13 : decode cL_waits 13 = .ok (.if_icmp .eq 25, 3) := by decide +kernel
theorem dL_waits_16 : decode cL_waits 16 = .ok (.aload_n 3, 1) := by decide +kernel
theorem dL_waits_17 : decode cL_waits 17 = .ok (.iconst 2, 1) := by decide +kernel
theorem dL_waits_18 : decode cL_waits 18 = .ok (.iload_n 1, 1) := by decide +kernel
theorem dL_waits_19 : decode cL_waits 19 = .ok (.imul, 1) := by decide +kernel
theorem dL_waits_20 : decode cL_waits 20 = .ok (.laload, 1) := by decide +kernel
theorem dL_waits_21 : decode cL_waits 21 = .ok (.aload_n 3, 1) := by decide +kernel
theorem dL_waits_22 : decode cL_waits 22 = .ok (.iconst 2, 1) := by decide +kernel
theorem dL_waits_23 : decode cL_waits 23 = .ok (.iload_n 0, 1) := by decide +kernel
theorem dL_waits_24 : decode cL_waits 24 = .ok (.imul, 1) := by decide +kernel
theorem dL_waits_25 : decode cL_waits 25 = .ok (.iconst 1, 1) := by decide +kernel
theorem dL_waits_26 : decode cL_waits 26 = .ok (.iadd, 1) := by decide +kernel
theorem dL_waits_27 : decode cL_waits 27 = .ok (.laload, 1) := by decide +kernel
theorem dL_waits_28 : decode cL_waits 28 = .ok (.land, 1) := by decide +kernel
theorem dL_waits_29 : decode cL_waits 29 = .ok (.lconst 0, 1) := by decide +kernel
theorem dL_waits_30 : decode cL_waits 30 = .ok (.lcmp, 1) := by decide +kernel
theorem dL_waits_31 : decode cL_waits 31 = .ok (.ifCond .eq 7, 3) := by decide +kernel
theorem dL_waits_34 : decode cL_waits 34 = .ok (.iconst 1, 1) := by decide +kernel
theorem dL_waits_35 : decode cL_waits 35 = .ok (.goto 4, 3) := by decide +kernel
theorem dL_waits_38 : decode cL_waits 38 = .ok (.iconst 0, 1) := by decide +kernel
theorem dL_waits_39 : decode cL_waits 39 = .ok (.istore 5, 2) := by decide +kernel
theorem dL_waits_41 : decode cL_waits 41 = .ok (.iload 4, 2) := by decide +kernel
theorem dL_waits_43 : decode cL_waits 43 = .ok (.iconst 2, 1) := by decide +kernel
theorem dL_waits_44 : decode cL_waits 44 = .ok (.if_icmp .ge 33, 3) := by decide +kernel
theorem dL_waits_47 : decode cL_waits 47 = .ok (.aload_n 3, 1) := by decide +kernel
theorem dL_waits_48 : decode cL_waits 48 = .ok (.iconst 2, 1) := by decide +kernel
theorem dL_waits_49 : decode cL_waits 49 = .ok (.iload_n 1, 1) := by decide +kernel
theorem dL_waits_50 : decode cL_waits 50 = .ok (.imul, 1) := by decide +kernel
theorem dL_waits_51 : decode cL_waits 51 = .ok (.iconst 1, 1) := by decide +kernel
theorem dL_waits_52 : decode cL_waits 52 = .ok (.iadd, 1) := by decide +kernel
theorem dL_waits_53 : decode cL_waits 53 = .ok (.laload, 1) := by decide +kernel
theorem dL_waits_54 : decode cL_waits 54 = .ok (.aload_n 3, 1) := by decide +kernel
theorem dL_waits_55 : decode cL_waits 55 = .ok (.iconst 2, 1) := by decide +kernel
theorem dL_waits_56 : decode cL_waits 56 = .ok (.iload_n 0, 1) := by decide +kernel
theorem dL_waits_57 : decode cL_waits 57 = .ok (.imul, 1) := by decide +kernel
theorem dL_waits_58 : decode cL_waits 58 = .ok (.laload, 1) := by decide +kernel
theorem dL_waits_59 : decode cL_waits 59 = .ok (.aload_n 3, 1) := by decide +kernel
theorem dL_waits_60 : decode cL_waits 60 = .ok (.iconst 2, 1) := by decide +kernel
theorem dL_waits_61 : decode cL_waits 61 = .ok (.iload_n 0, 1) := by decide +kernel
theorem dL_waits_62 : decode cL_waits 62 = .ok (.imul, 1) := by decide +kernel
theorem dL_waits_63 : decode cL_waits 63 = .ok (.iconst 1, 1) := by decide +kernel
theorem dL_waits_64 : decode cL_waits 64 = .ok (.iadd, 1) := by decide +kernel
theorem dL_waits_65 : decode cL_waits 65 = .ok (.laload, 1) := by decide +kernel
theorem dL_waits_66 : decode cL_waits 66 = .ok (.lor, 1) := by decide +kernel
theorem dL_waits_67 : decode cL_waits 67 = .ok (.land, 1) := by decide +kernel
theorem dL_waits_68 : decode cL_waits 68 = .ok (.lconst 0, 1) := by decide +kernel
theorem dL_waits_69 : decode cL_waits 69 = .ok (.lcmp, 1) := by decide +kernel
theorem dL_waits_70 : decode cL_waits 70 = .ok (.ifCond .eq 7, 3) := by decide +kernel
theorem dL_waits_73 : decode cL_waits 73 = .ok (.iconst 1, 1) := by decide +kernel
theorem dL_waits_74 : decode cL_waits 74 = .ok (.goto 4, 3) := by decide +kernel
theorem dL_waits_77 : decode cL_waits 77 = .ok (.iconst 0, 1) := by decide +kernel
theorem dL_waits_78 : decode cL_waits 78 = .ok (.istore 6, 2) := by decide +kernel
theorem dL_waits_80 : decode cL_waits 80 = .ok (.iload 5, 2) := by decide +kernel
theorem dL_waits_82 : decode cL_waits 82 = .ok (.ifCond .ne 8, 3) := by decide +kernel
theorem dL_waits_85 : decode cL_waits 85 = .ok (.iload 6, 2) := by decide +kernel
theorem dL_waits_87 : decode cL_waits 87 = .ok (.ifCond .eq 7, 3) := by decide +kernel
theorem dL_waits_90 : decode cL_waits 90 = .ok (.iconst 1, 1) := by decide +kernel
theorem dL_waits_91 : decode cL_waits 91 = .ok (.goto 4, 3) := by decide +kernel
theorem dL_waits_94 : decode cL_waits 94 = .ok (.iconst 0, 1) := by decide +kernel
theorem dL_waits_95 : decode cL_waits 95 = .ok (.ireturn, 1) := by decide +kernel
set_option maxRecDepth 20000 in
theorem ggL_waitsFor_L_waits : GoodIn wsL_waitsFor wsL_waits := goodIn_r _ [4] (by decide +kernel) (by decide +kernel)
set_option maxRecDepth 20000 in
theorem gL_waitsFor_L_waits : GoodIn wsL_waitsFor (va_wsS RL 30 yL_waits wsL_waits) := goodIn_app (goodIn_of _ (by decide +kernel)) ggL_waitsFor_L_waits
theorem dL_waitsFor_0 : decode cL_waitsFor 0 = .ok (.iconst 0, 1) := by decide +kernel
theorem dL_waitsFor_1 : decode cL_waitsFor 1 = .ok (.istore_n 3, 1) := by decide +kernel
theorem dL_waitsFor_2 : decode cL_waitsFor 2 = .ok (.iconst 0, 1) := by decide +kernel
theorem dL_waitsFor_3 : decode cL_waitsFor 3 = .ok (.istore 4, 2) := by decide +kernel
theorem dL_waitsFor_5 : decode cL_waitsFor 5 = .ok (.iload 4, 2) := by decide +kernel
theorem dL_waitsFor_7 : decode cL_waitsFor 7 = .ok (.iload_n 0, 1) := by decide +kernel
theorem dL_waitsFor_8 : decode cL_waitsFor 8 = .ok (.if_icmp .ge 42, 3) := by decide +kernel
theorem dL_waitsFor_11 : decode cL_waitsFor 11 = .ok (.aload_n 1, 1) := by decide +kernel
theorem dL_waitsFor_12 : decode cL_waitsFor 12 = .ok (.bipush 8, 2) := by decide +kernel
theorem dL_waitsFor_14 : decode cL_waitsFor 14 = .ok (.iload_n 0, 1) := by decide +kernel
theorem dL_waitsFor_15 : decode cL_waitsFor 15 = .ok (.imul, 1) := by decide +kernel
theorem dL_waitsFor_16 : decode cL_waitsFor 16 = .ok (.iconst 5, 1) := by decide +kernel
theorem dL_waitsFor_17 : decode cL_waitsFor 17 = .ok (.iadd, 1) := by decide +kernel
theorem dL_waitsFor_18 : decode cL_waitsFor 18 = .ok (.iaload, 1) := by decide +kernel
theorem dL_waitsFor_19 : decode cL_waitsFor 19 = .ok (.ifCond .ne 31, 3) := by decide +kernel
theorem dL_waitsFor_22 : decode cL_waitsFor 22 = .ok (.iload_n 3, 1) := by decide +kernel
theorem dL_waitsFor_23 : decode cL_waitsFor 23 = .ok (.iload_n 0, 1) := by decide +kernel
theorem dL_waitsFor_24 : decode cL_waitsFor 24 = .ok (.iload 4, 2) := by decide +kernel
theorem dL_waitsFor_26 : decode cL_waitsFor 26 = .ok (.aload_n 1, 1) := by decide +kernel
theorem dL_waitsFor_27 : decode cL_waitsFor 27 = .ok (.aload_n 2, 1) := by decide +kernel
theorem dL_waitsFor_28 : decode cL_waitsFor 28 = .ok (.invokestatic 30, 3) := by decide +kernel
theorem dL_waitsFor_31 : decode cL_waitsFor 31 = .ok (.ifCond .eq 10, 3) := by decide +kernel
theorem dL_waitsFor_34 : decode cL_waitsFor 34 = .ok (.iconst 1, 1) := by decide +kernel
theorem dL_waitsFor_35 : decode cL_waitsFor 35 = .ok (.iload 4, 2) := by decide +kernel
theorem dL_waitsFor_37 : decode cL_waitsFor 37 = .ok (.ishl, 1) := by decide +kernel
theorem dL_waitsFor_38 : decode cL_waitsFor 38 = .ok (.goto 4, 3) := by decide +kernel
theorem dL_waitsFor_41 : decode cL_waitsFor 41 = .ok (.iconst 0, 1) := by decide +kernel
theorem dL_waitsFor_42 : decode cL_waitsFor 42 = .ok (.ior, 1) := by decide +kernel
theorem dL_waitsFor_43 : decode cL_waitsFor 43 = .ok (.istore_n 3, 1) := by decide +kernel
theorem dL_waitsFor_44 : decode cL_waitsFor 44 = .ok (.iinc 4 1, 3) := by decide +kernel
theorem dL_waitsFor_47 : decode cL_waitsFor 47 = .ok (.goto (-42), 3) := by decide +kernel
theorem dL_waitsFor_50 : decode cL_waitsFor 50 = .ok (.iload_n 3, 1) := by decide +kernel
theorem dL_waitsFor_51 : decode cL_waitsFor 51 = .ok (.ireturn, 1) := by decide +kernel
set_option maxRecDepth 20000 in
theorem ggL_depth_L_waitsFor : GoodIn wsL_depth wsL_waitsFor := goodIn_r _ [5, 6, 7, 4, 8] (by decide +kernel) (by decide +kernel)
set_option maxRecDepth 20000 in
theorem gL_depth_L_waitsFor : GoodIn wsL_depth (va_wsS RL 36 yL_waitsFor wsL_waitsFor) := goodIn_app (goodIn_of _ (by decide +kernel)) ggL_depth_L_waitsFor
theorem dL_depth_0 : decode cL_depth 0 = .ok (.bipush 8, 2) := by decide +kernel
theorem dL_depth_2 : decode cL_depth 2 = .ok (.newarray .int, 2) := by decide +kernel
theorem dL_depth_4 : decode cL_depth 4 = .ok (.astore_n 3, 1) := by decide +kernel
theorem dL_depth_5 : decode cL_depth 5 = .ok (.iconst 0, 1) := by decide +kernel
theorem dL_depth_6 : decode cL_depth 6 = .ok (.istore 4, 2) := by decide +kernel
theorem dL_depth_8 : decode cL_depth 8 = .ok (.iload 4, 2) := by decide +kernel
theorem dL_depth_10 : decode cL_depth 10 = .ok (.iload_n 0, 1) := by decide +kernel
theorem dL_depth_11 : decode cL_depth 11 = .ok (.if_icmp .gt 62, 3) := by decide +kernel
theorem dL_depth_14 : decode cL_depth 14 = .ok (.iconst 0, 1) := by decide +kernel
theorem dL_depth_15 : decode cL_depth 15 = .ok (.istore 5, 2) := by decide +kernel
theorem dL_depth_17 : decode cL_depth 17 = .ok (.iload 5, 2) := by decide +kernel
theorem dL_depth_19 : decode cL_depth 19 = .ok (.iload 4, 2) := by decide +kernel
theorem dL_depth_21 : decode cL_depth 21 = .ok (.if_icmp .ge 46, 3) := by decide +kernel
theorem dL_depth_24 : decode cL_depth 24 = .ok (.iload 4, 2) := by decide +kernel
theorem dL_depth_26 : decode cL_depth 26 = .ok (.aload_n 1, 1) := by decide +kernel
theorem dL_depth_27 : decode cL_depth 27 = .ok (.aload_n 2, 1) := by decide +kernel
theorem dL_depth_28 : decode cL_depth 28 = .ok (.invokestatic 36, 3) := by decide +kernel
theorem dL_depth_31 : decode cL_depth 31 = .ok (.iload 5, 2) := by decide +kernel
theorem dL_depth_33 : decode cL_depth 33 = .ok (.ishr, 1) := by decide +kernel
theorem dL_depth_34 : decode cL_depth 34 = .ok (.iconst 1, 1) := by decide +kernel
theorem dL_depth_35 : decode cL_depth 35 = .ok (.iand, 1) := by decide +kernel
theorem dL_depth_36 : decode cL_depth 36 = .ok (.iconst 1, 1) := by decide +kernel
theorem dL_depth_37 : decode cL_depth 37 = .ok (.if_icmp .ne 24, 3) := by decide +kernel
theorem dL_depth_40 : decode cL_depth 40 = .ok (.aload_n 3, 1) := by decide +kernel
theorem dL_depth_41 : decode cL_depth 41 = .ok (.iload 5, 2) := by decide +kernel
theorem dL_depth_43 : decode cL_depth 43 = .ok (.iaload, 1) := by decide +kernel
theorem dL_depth_44 : decode cL_depth 44 = .ok (.aload_n 3, 1) := by decide +kernel
theorem dL_depth_45 : decode cL_depth 45 = .ok (.iload 4, 2) := by decide +kernel
theorem dL_depth_47 : decode cL_depth 47 = .ok (.iaload, 1) := by decide +kernel
theorem dL_depth_48 : decode cL_depth 48 = .ok (.if_icmp .lt 13, 3) := by decide +kernel
theorem dL_depth_51 : decode cL_depth 51 = .ok (.aload_n 3, 1) := by decide +kernel
theorem dL_depth_52 : decode cL_depth 52 = .ok (.iload 4, 2) := by decide +kernel
theorem dL_depth_54 : decode cL_depth 54 = .ok (.aload_n 3, 1) := by decide +kernel
theorem dL_depth_55 : decode cL_depth 55 = .ok (.iload 5, 2) := by decide +kernel
theorem dL_depth_57 : decode cL_depth 57 = .ok (.iaload, 1) := by decide +kernel
theorem dL_depth_58 : decode cL_depth 58 = .ok (.iconst 1, 1) := by decide +kernel
theorem dL_depth_59 : decode cL_depth 59 = .ok (.iadd, 1) := by decide +kernel
theorem dL_depth_60 : decode cL_depth 60 = .ok (.iastore, 1) := by decide +kernel
theorem dL_depth_61 : decode cL_depth 61 = .ok (.iinc 5 1, 3) := by decide +kernel
theorem dL_depth_64 : decode cL_depth 64 = .ok (.goto (-47), 3) := by decide +kernel
theorem dL_depth_67 : decode cL_depth 67 = .ok (.iinc 4 1, 3) := by decide +kernel
theorem dL_depth_70 : decode cL_depth 70 = .ok (.goto (-62), 3) := by decide +kernel
theorem dL_depth_73 : decode cL_depth 73 = .ok (.aload_n 3, 1) := by decide +kernel
theorem dL_depth_74 : decode cL_depth 74 = .ok (.iload_n 0, 1) := by decide +kernel
theorem dL_depth_75 : decode cL_depth 75 = .ok (.iaload, 1) := by decide +kernel
theorem dL_depth_76 : decode cL_depth 76 = .ok (.ireturn, 1) := by decide +kernel
set_option maxRecDepth 20000 in
theorem ggL_tick_L_waitsFor : GoodIn wsL_tick wsL_waitsFor := goodIn_r _ [4, 5, 6, 3, 7] (by decide +kernel) (by decide +kernel)
set_option maxRecDepth 20000 in
theorem gL_tick_L_waitsFor : GoodIn wsL_tick (va_wsS RL 36 yL_waitsFor wsL_waitsFor) := goodIn_app (goodIn_of _ (by decide +kernel)) ggL_tick_L_waitsFor
set_option maxRecDepth 20000 in
theorem ggL_tick_L_place : GoodIn wsL_tick wsL_place := goodIn_r _ [10] (by decide +kernel) (by decide +kernel)
set_option maxRecDepth 20000 in
theorem gL_tick_L_place : GoodIn wsL_tick (va_wsS RL 40 yL_place wsL_place) := goodIn_app (goodIn_of _ (by decide +kernel)) ggL_tick_L_place
theorem dL_tick_0 : decode cL_tick 0 = .ok (.iconst 0, 1) := by decide +kernel
theorem dL_tick_1 : decode cL_tick 1 = .ok (.istore 6, 2) := by decide +kernel
theorem dL_tick_3 : decode cL_tick 3 = .ok (.iload 6, 2) := by decide +kernel
theorem dL_tick_5 : decode cL_tick 5 = .ok (.aload_n 0, 1) := by decide +kernel
theorem dL_tick_6 : decode cL_tick 6 = .ok (.iconst 0, 1) := by decide +kernel
theorem dL_tick_7 : decode cL_tick 7 = .ok (.iaload, 1) := by decide +kernel
theorem dL_tick_8 : decode cL_tick 8 = .ok (.if_icmp .ge 90, 3) := by decide +kernel
theorem dL_tick_11 : decode cL_tick 11 = .ok (.aload_n 3, 1) := by decide +kernel
theorem dL_tick_12 : decode cL_tick 12 = .ok (.bipush 8, 2) := by decide +kernel
theorem dL_tick_14 : decode cL_tick 14 = .ok (.iload 6, 2) := by decide +kernel
theorem dL_tick_16 : decode cL_tick 16 = .ok (.imul, 1) := by decide +kernel
theorem dL_tick_17 : decode cL_tick 17 = .ok (.iconst 2, 1) := by decide +kernel
theorem dL_tick_18 : decode cL_tick 18 = .ok (.iadd, 1) := by decide +kernel
theorem dL_tick_19 : decode cL_tick 19 = .ok (.iaload, 1) := by decide +kernel
theorem dL_tick_20 : decode cL_tick 20 = .ok (.istore 7, 2) := by decide +kernel
theorem dL_tick_22 : decode cL_tick 22 = .ok (.aload_n 3, 1) := by decide +kernel
theorem dL_tick_23 : decode cL_tick 23 = .ok (.bipush 8, 2) := by decide +kernel
theorem dL_tick_25 : decode cL_tick 25 = .ok (.iload 6, 2) := by decide +kernel
theorem dL_tick_27 : decode cL_tick 27 = .ok (.imul, 1) := by decide +kernel
theorem dL_tick_28 : decode cL_tick 28 = .ok (.iconst 5, 1) := by decide +kernel
theorem dL_tick_29 : decode cL_tick 29 = .ok (.iadd, 1) := by decide +kernel
theorem dL_tick_30 : decode cL_tick 30 = .ok (.iaload, 1) := by decide +kernel
theorem dL_tick_31 : decode cL_tick 31 = .ok (.iconst 2, 1) := by decide +kernel
theorem dL_tick_32 : decode cL_tick 32 = .ok (.if_icmp .ne 60, 3) := by decide +kernel
theorem dL_tick_35 : decode cL_tick 35 = .ok (.aload_n 2, 1) := by decide +kernel
theorem dL_tick_36 : decode cL_tick 36 = .ok (.iconst 4, 1) := by decide +kernel
theorem dL_tick_37 : decode cL_tick 37 = .ok (.iload 7, 2) := by decide +kernel
theorem dL_tick_39 : decode cL_tick 39 = .ok (.imul, 1) := by decide +kernel
theorem dL_tick_40 : decode cL_tick 40 = .ok (.iconst 3, 1) := by decide +kernel
theorem dL_tick_41 : decode cL_tick 41 = .ok (.iadd, 1) := by decide +kernel
theorem dL_tick_42 : decode cL_tick 42 = .ok (.iaload, 1) := by decide +kernel
theorem dL_tick_43 : decode cL_tick 43 = .ok (.ifCond .ne 49, 3) := by decide +kernel
theorem dL_tick_46 : decode cL_tick 46 = .ok (.aload_n 2, 1) := by decide +kernel
theorem dL_tick_47 : decode cL_tick 47 = .ok (.iconst 4, 1) := by decide +kernel
theorem dL_tick_48 : decode cL_tick 48 = .ok (.iload 7, 2) := by decide +kernel
theorem dL_tick_50 : decode cL_tick 50 = .ok (.imul, 1) := by decide +kernel
theorem dL_tick_51 : decode cL_tick 51 = .ok (.iconst 2, 1) := by decide +kernel
theorem dL_tick_52 : decode cL_tick 52 = .ok (.iadd, 1) := by decide +kernel
theorem dL_tick_53 : decode cL_tick 53 = .ok (.iaload, 1) := by decide +kernel
theorem dL_tick_54 : decode cL_tick 54 = .ok (.ifCond .le 38, 3) := by decide +kernel
theorem dL_tick_57 : decode cL_tick 57 = .ok (.aload_n 0, 1) := by decide +kernel
theorem dL_tick_58 : decode cL_tick 58 = .ok (.iconst 1, 1) := by decide +kernel
theorem dL_tick_59 : decode cL_tick 59 = .ok (.iaload, 1) := by decide +kernel
theorem dL_tick_60 : decode cL_tick 60 = .ok (.aload_n 3, 1) := by decide +kernel
theorem dL_tick_61 : decode cL_tick 61 = .ok (.bipush 8, 2) := by decide +kernel
theorem dL_tick_63 : decode cL_tick 63 = .ok (.iload 6, 2) := by decide +kernel
theorem dL_tick_65 : decode cL_tick 65 = .ok (.imul, 1) := by decide +kernel
theorem dL_tick_66 : decode cL_tick 66 = .ok (.bipush 7, 2) := by decide +kernel
theorem dL_tick_68 : decode cL_tick 68 = .ok (.iadd, 1) := by decide +kernel
theorem dL_tick_69 : decode cL_tick 69 = .ok (.iaload, 1) := by decide +kernel
theorem dL_tick_70 : decode cL_tick 70 = .ok (.isub, 1) := by decide +kernel
theorem dL_tick_71 : decode cL_tick 71 = .ok (.aload_n 2, 1) := by decide +kernel
theorem dL_tick_72 : decode cL_tick 72 = .ok (.iconst 4, 1) := by decide +kernel
theorem dL_tick_73 : decode cL_tick 73 = .ok (.iload 7, 2) := by decide +kernel
theorem dL_tick_75 : decode cL_tick 75 = .ok (.imul, 1) := by decide +kernel
theorem dL_tick_76 : decode cL_tick 76 = .ok (.iconst 2, 1) := by decide +kernel
theorem dL_tick_77 : decode cL_tick 77 = .ok (.iadd, 1) := by decide +kernel
theorem dL_tick_78 : decode cL_tick 78 = .ok (.iaload, 1) := by decide +kernel
theorem dL_tick_79 : decode cL_tick 79 = .ok (.if_icmp .lt 13, 3) := by decide +kernel
theorem dL_tick_82 : decode cL_tick 82 = .ok (.aload_n 3, 1) := by decide +kernel
theorem dL_tick_83 : decode cL_tick 83 = .ok (.bipush 8, 2) := by decide +kernel
theorem dL_tick_85 : decode cL_tick 85 = .ok (.iload 6, 2) := by decide +kernel
theorem dL_tick_87 : decode cL_tick 87 = .ok (.imul, 1) := by decide +kernel
theorem dL_tick_88 : decode cL_tick 88 = .ok (.iconst 5, 1) := by decide +kernel
theorem dL_tick_89 : decode cL_tick 89 = .ok (.iadd, 1) := by decide +kernel
theorem dL_tick_90 : decode cL_tick 90 = .ok (.iconst 3, 1) := by decide +kernel
theorem dL_tick_91 : decode cL_tick 91 = .ok (.iastore, 1) := by decide +kernel
theorem dL_tick_92 : decode cL_tick 92 = .ok (.iinc 6 1, 3) := by decide +kernel
theorem dL_tick_95 : decode cL_tick 95 = .ok (.goto (-92), 3) := by decide +kernel
theorem dL_tick_98 : decode cL_tick 98 = .ok (.iconst 0, 1) := by decide +kernel
theorem dL_tick_99 : decode cL_tick 99 = .ok (.istore 6, 2) := by decide +kernel
theorem dL_tick_101 : decode cL_tick 101 = .ok (.iconst 0, 1) := by decide +kernel
theorem dL_tick_102 : decode cL_tick 102 = .ok (.istore 7, 2) := by decide +kernel
theorem dL_tick_104 : decode cL_tick 104 = .ok (.iload 7, 2) := by decide +kernel
theorem dL_tick_106 : decode cL_tick 106 = .ok (.aload_n 0, 1) := by decide +kernel
theorem dL_tick_107 : decode cL_tick 107 = .ok (.iconst 0, 1) := by decide +kernel
theorem dL_tick_108 : decode cL_tick 108 = .ok (.iaload, 1) := by decide +kernel
theorem dL_tick_109 : decode cL_tick 109 = .ok (.if_icmp .ge 32, 3) := by decide +kernel
theorem dL_tick_112 : decode cL_tick 112 = .ok (.iload 6, 2) := by decide +kernel
theorem dL_tick_114 : decode cL_tick 114 = .ok (.aload_n 3, 1) := by decide +kernel
theorem dL_tick_115 : decode cL_tick 115 = .ok (.bipush 8, 2) := by decide +kernel
theorem dL_tick_117 : decode cL_tick 117 = .ok (.iload 7, 2) := by decide +kernel
theorem dL_tick_119 : decode cL_tick 119 = .ok (.imul, 1) := by decide +kernel
theorem dL_tick_120 : decode cL_tick 120 = .ok (.iconst 5, 1) := by decide +kernel
theorem dL_tick_121 : decode cL_tick 121 = .ok (.iadd, 1) := by decide +kernel
theorem dL_tick_122 : decode cL_tick 122 = .ok (.iaload, 1) := by decide +kernel
theorem dL_tick_123 : decode cL_tick 123 = .ok (.iconst 1, 1) := by decide +kernel
theorem dL_tick_124 : decode cL_tick 124 = .ok (.if_icmp .ne 7, 3) := by decide +kernel
theorem dL_tick_127 : decode cL_tick 127 = .ok (.iconst 1, 1) := by decide +kernel
theorem dL_tick_128 : decode cL_tick 128 = .ok (.goto 4, 3) := by decide +kernel
theorem dL_tick_131 : decode cL_tick 131 = .ok (.iconst 0, 1) := by decide +kernel
theorem dL_tick_132 : decode cL_tick 132 = .ok (.iadd, 1) := by decide +kernel
theorem dL_tick_133 : decode cL_tick 133 = .ok (.istore 6, 2) := by decide +kernel
theorem dL_tick_135 : decode cL_tick 135 = .ok (.iinc 7 1, 3) := by decide +kernel
theorem dL_tick_138 : decode cL_tick 138 = .ok (.goto (-34), 3) := by decide +kernel
theorem dL_tick_141 : decode cL_tick 141 = .ok (.iconst 0, 1) := by decide +kernel
theorem dL_tick_142 : decode cL_tick 142 = .ok (.istore 7, 2) := by decide +kernel
theorem dL_tick_144 : decode cL_tick 144 = .ok (.iload 7, 2) := by decide +kernel
theorem dL_tick_146 : decode cL_tick 146 = .ok (.aload_n 0, 1) := by decide +kernel
theorem dL_tick_147 : decode cL_tick 147 = .ok (.iconst 0, 1) := by decide +kernel
theorem dL_tick_148 : decode cL_tick 148 = .ok (.iaload, 1) := by decide +kernel
theorem dL_tick_149 : decode cL_tick 149 = .ok (.if_icmp .ge 115, 3) := by decide +kernel
theorem dL_tick_152 : decode cL_tick 152 = .ok (.aload_n 3, 1) := by decide +kernel
theorem dL_tick_153 : decode cL_tick 153 = .ok (.bipush 8, 2) := by decide +kernel
theorem dL_tick_155 : decode cL_tick 155 = .ok (.iload 7, 2) := by decide +kernel
theorem dL_tick_157 : decode cL_tick 157 = .ok (.imul, 1) := by decide +kernel
theorem dL_tick_158 : decode cL_tick 158 = .ok (.iconst 5, 1) := by decide +kernel
theorem dL_tick_159 : decode cL_tick 159 = .ok (.iadd, 1) := by decide +kernel
theorem dL_tick_160 : decode cL_tick 160 = .ok (.iaload, 1) := by decide +kernel
theorem dL_tick_161 : decode cL_tick 161 = .ok (.ifCond .ne 97, 3) := by decide +kernel
theorem dL_tick_164 : decode cL_tick 164 = .ok (.iload 6, 2) := by decide +kernel
theorem dL_tick_166 : decode cL_tick 166 = .ok (.aload_n 0, 1) := by decide +kernel
theorem dL_tick_167 : decode cL_tick 167 = .ok (.iconst 3, 1) := by decide +kernel
theorem dL_tick_168 : decode cL_tick 168 = .ok (.iaload, 1) := by decide +kernel
theorem dL_tick_169 : decode cL_tick 169 = .ok (.if_icmp .ge 89, 3) := by decide +kernel
theorem dL_tick_172 : decode cL_tick 172 = .ok (.iload 7, 2) := by decide +kernel
theorem dL_tick_174 : decode cL_tick 174 = .ok (.aload_n 3, 1) := by decide +kernel
theorem dL_tick_175 : decode cL_tick 175 = .ok (.aload 5, 2) := by decide +kernel
theorem dL_tick_177 : decode cL_tick 177 = .ok (.invokestatic 36, 3) := by decide +kernel
theorem dL_tick_180 : decode cL_tick 180 = .ok (.ifCond .eq 6, 3) := by decide +kernel
theorem dL_tick_183 : decode cL_tick 183 = .ok (.goto 75, 3) := by decide +kernel
theorem dL_tick_186 : decode cL_tick 186 = .ok (.iinc 6 1, 3) := by decide +kernel
theorem dL_tick_189 : decode cL_tick 189 = .ok (.aload_n 3, 1) := by decide +kernel
theorem dL_tick_190 : decode cL_tick 190 = .ok (.bipush 8, 2) := by decide +kernel
theorem dL_tick_192 : decode cL_tick 192 = .ok (.iload 7, 2) := by decide +kernel
theorem dL_tick_194 : decode cL_tick 194 = .ok (.imul, 1) := by decide +kernel
theorem dL_tick_195 : decode cL_tick 195 = .ok (.iconst 5, 1) := by decide +kernel
theorem dL_tick_196 : decode cL_tick 196 = .ok (.iadd, 1) := by decide +kernel
theorem dL_tick_197 : decode cL_tick 197 = .ok (.iconst 1, 1) := by decide +kernel
theorem dL_tick_198 : decode cL_tick 198 = .ok (.iastore, 1) := by decide +kernel
theorem dL_tick_199 : decode cL_tick 199 = .ok (.iconst 0, 1) := by decide +kernel
theorem dL_tick_200 : decode cL_tick 200 = .ok (.istore 8, 2) := by decide +kernel
theorem dL_tick_202 : decode cL_tick 202 = .ok (.iload 8, 2) := by decide +kernel
theorem dL_tick_204 : decode cL_tick 204 = .ok (.aload_n 3, 1) := by decide +kernel
theorem dL_tick_205 : decode cL_tick 205 = .ok (.bipush 8, 2) := by decide +kernel
theorem dL_tick_207 : decode cL_tick 207 = .ok (.iload 7, 2) := by decide +kernel
theorem dL_tick_209 : decode cL_tick 209 = .ok (.imul, 1) := by decide +kernel
theorem dL_tick_210 : decode cL_tick 210 = .ok (.iconst 4, 1) := by decide +kernel
theorem dL_tick_211 : decode cL_tick 211 = .ok (.iadd, 1) := by decide +kernel
theorem dL_tick_212 : decode cL_tick 212 = .ok (.iaload, 1) := by decide +kernel
theorem dL_tick_213 : decode cL_tick 213 = .ok (.if_icmp .ge 45, 3) := by decide +kernel
theorem dL_tick_216 : decode cL_tick 216 = .ok (.aload 4, 2) := by decide +kernel
theorem dL_tick_218 : decode cL_tick 218 = .ok (.bipush 8, 2) := by decide +kernel
theorem dL_tick_220 : decode cL_tick 220 = .ok (.iload 7, 2) := by decide +kernel
theorem dL_tick_222 : decode cL_tick 222 = .ok (.imul, 1) := by decide +kernel
theorem dL_tick_223 : decode cL_tick 223 = .ok (.iload 8, 2) := by decide +kernel
theorem dL_tick_225 : decode cL_tick 225 = .ok (.iadd, 1) := by decide +kernel
theorem dL_tick_226 : decode cL_tick 226 = .ok (.aload_n 1, 1) := by decide +kernel
theorem dL_tick_227 : decode cL_tick 227 = .ok (.aload_n 3, 1) := by decide +kernel
theorem dL_tick_228 : decode cL_tick 228 = .ok (.bipush 8, 2) := by decide +kernel
theorem dL_tick_230 : decode cL_tick 230 = .ok (.iload 7, 2) := by decide +kernel
theorem dL_tick_232 : decode cL_tick 232 = .ok (.imul, 1) := by decide +kernel
theorem dL_tick_233 : decode cL_tick 233 = .ok (.iaload, 1) := by decide +kernel
theorem dL_tick_234 : decode cL_tick 234 = .ok (.aload_n 3, 1) := by decide +kernel
theorem dL_tick_235 : decode cL_tick 235 = .ok (.bipush 8, 2) := by decide +kernel
theorem dL_tick_237 : decode cL_tick 237 = .ok (.iload 7, 2) := by decide +kernel
theorem dL_tick_239 : decode cL_tick 239 = .ok (.imul, 1) := by decide +kernel
theorem dL_tick_240 : decode cL_tick 240 = .ok (.iconst 1, 1) := by decide +kernel
theorem dL_tick_241 : decode cL_tick 241 = .ok (.iadd, 1) := by decide +kernel
theorem dL_tick_242 : decode cL_tick 242 = .ok (.iaload, 1) := by decide +kernel
theorem dL_tick_243 : decode cL_tick 243 = .ok (.iload 8, 2) := by decide +kernel
theorem dL_tick_245 : decode cL_tick 245 = .ok (.iadd, 1) := by decide +kernel
theorem dL_tick_246 : decode cL_tick 246 = .ok (.aload_n 2, 1) := by decide +kernel
theorem dL_tick_247 : decode cL_tick 247 = .ok (.invokestatic 40, 3) := by decide +kernel
theorem dL_tick_250 : decode cL_tick 250 = .ok (.iaload, 1) := by decide +kernel
theorem dL_tick_251 : decode cL_tick 251 = .ok (.iastore, 1) := by decide +kernel
theorem dL_tick_252 : decode cL_tick 252 = .ok (.iinc 8 1, 3) := by decide +kernel
theorem dL_tick_255 : decode cL_tick 255 = .ok (.goto (-53), 3) := by decide +kernel
theorem dL_tick_258 : decode cL_tick 258 = .ok (.iinc 7 1, 3) := by decide +kernel
theorem dL_tick_261 : decode cL_tick 261 = .ok (.goto (-117), 3) := by decide +kernel
theorem dL_tick_264 : decode cL_tick 264 = .ok (.iconst 0, 1) := by decide +kernel
theorem dL_tick_265 : decode cL_tick 265 = .ok (.istore 7, 2) := by decide +kernel
theorem dL_tick_267 : decode cL_tick 267 = .ok (.iconst 0, 1) := by decide +kernel
theorem dL_tick_268 : decode cL_tick 268 = .ok (.istore 8, 2) := by decide +kernel
theorem dL_tick_270 : decode cL_tick 270 = .ok (.iload 8, 2) := by decide +kernel
theorem dL_tick_272 : decode cL_tick 272 = .ok (.aload_n 0, 1) := by decide +kernel
theorem dL_tick_273 : decode cL_tick 273 = .ok (.iconst 0, 1) := by decide +kernel
theorem dL_tick_274 : decode cL_tick 274 = .ok (.iaload, 1) := by decide +kernel
theorem dL_tick_275 : decode cL_tick 275 = .ok (.if_icmp .ge 136, 3) := by decide +kernel
theorem dL_tick_278 : decode cL_tick 278 = .ok (.iconst 0, 1) := by decide +kernel
theorem dL_tick_279 : decode cL_tick 279 = .ok (.istore 9, 2) := by decide +kernel
theorem dL_tick_281 : decode cL_tick 281 = .ok (.iload 9, 2) := by decide +kernel
theorem dL_tick_283 : decode cL_tick 283 = .ok (.aload_n 0, 1) := by decide +kernel
theorem dL_tick_284 : decode cL_tick 284 = .ok (.iconst 2, 1) := by decide +kernel
theorem dL_tick_285 : decode cL_tick 285 = .ok (.iaload, 1) := by decide +kernel
theorem dL_tick_286 : decode cL_tick 286 = .ok (.if_icmp .ge 119, 3) := by decide +kernel
theorem dL_tick_289 : decode cL_tick 289 = .ok (.aload_n 3, 1) := by decide +kernel
theorem dL_tick_290 : decode cL_tick 290 = .ok (.bipush 8, 2) := by decide +kernel
theorem dL_tick_292 : decode cL_tick 292 = .ok (.iload 8, 2) := by decide +kernel
theorem dL_tick_294 : decode cL_tick 294 = .ok (.imul, 1) := by decide +kernel
theorem dL_tick_295 : decode cL_tick 295 = .ok (.iconst 5, 1) := by decide +kernel
theorem dL_tick_296 : decode cL_tick 296 = .ok (.iadd, 1) := by decide +kernel
theorem dL_tick_297 : decode cL_tick 297 = .ok (.iaload, 1) := by decide +kernel
theorem dL_tick_298 : decode cL_tick 298 = .ok (.iconst 1, 1) := by decide +kernel
theorem dL_tick_299 : decode cL_tick 299 = .ok (.if_icmp .ne 106, 3) := by decide +kernel
theorem dL_tick_302 : decode cL_tick 302 = .ok (.aload_n 3, 1) := by decide +kernel
theorem dL_tick_303 : decode cL_tick 303 = .ok (.bipush 8, 2) := by decide +kernel
theorem dL_tick_305 : decode cL_tick 305 = .ok (.iload 8, 2) := by decide +kernel
theorem dL_tick_307 : decode cL_tick 307 = .ok (.imul, 1) := by decide +kernel
theorem dL_tick_308 : decode cL_tick 308 = .ok (.bipush 6, 2) := by decide +kernel
theorem dL_tick_310 : decode cL_tick 310 = .ok (.iadd, 1) := by decide +kernel
theorem dL_tick_311 : decode cL_tick 311 = .ok (.dup2, 1) := by decide +kernel
theorem dL_tick_312 : decode cL_tick 312 = .ok (.iaload, 1) := by decide +kernel
theorem dL_tick_313 : decode cL_tick 313 = .ok (.dup_x2, 1) := by decide +kernel
theorem dL_tick_314 : decode cL_tick 314 = .ok (.iconst 1, 1) := by decide +kernel
theorem dL_tick_315 : decode cL_tick 315 = .ok (.iadd, 1) := by decide +kernel
theorem dL_tick_316 : decode cL_tick 316 = .ok (.iastore, 1) := by decide +kernel
theorem dL_tick_317 : decode cL_tick 317 = .ok (.istore 10, 2) := by decide +kernel
theorem dL_tick_319 : decode cL_tick 319 = .ok (.aload_n 1, 1) := by decide +kernel
theorem dL_tick_320 : decode cL_tick 320 = .ok (.aload_n 3, 1) := by decide +kernel
theorem dL_tick_321 : decode cL_tick 321 = .ok (.bipush 8, 2) := by decide +kernel
theorem dL_tick_323 : decode cL_tick 323 = .ok (.iload 8, 2) := by decide +kernel
theorem dL_tick_325 : decode cL_tick 325 = .ok (.imul, 1) := by decide +kernel
theorem dL_tick_326 : decode cL_tick 326 = .ok (.iconst 2, 1) := by decide +kernel
theorem dL_tick_327 : decode cL_tick 327 = .ok (.iadd, 1) := by decide +kernel
theorem dL_tick_328 : decode cL_tick 328 = .ok (.iaload, 1) := by decide +kernel
theorem dL_tick_329 : decode cL_tick 329 = .ok (.aload_n 3, 1) := by decide +kernel
theorem dL_tick_330 : decode cL_tick 330 = .ok (.bipush 8, 2) := by decide +kernel
theorem dL_tick_332 : decode cL_tick 332 = .ok (.iload 8, 2) := by decide +kernel
theorem dL_tick_334 : decode cL_tick 334 = .ok (.imul, 1) := by decide +kernel
theorem dL_tick_335 : decode cL_tick 335 = .ok (.iconst 3, 1) := by decide +kernel
theorem dL_tick_336 : decode cL_tick 336 = .ok (.iadd, 1) := by decide +kernel
theorem dL_tick_337 : decode cL_tick 337 = .ok (.iaload, 1) := by decide +kernel
theorem dL_tick_338 : decode cL_tick 338 = .ok (.iload 10, 2) := by decide +kernel
theorem dL_tick_340 : decode cL_tick 340 = .ok (.iadd, 1) := by decide +kernel
theorem dL_tick_341 : decode cL_tick 341 = .ok (.aload_n 2, 1) := by decide +kernel
theorem dL_tick_342 : decode cL_tick 342 = .ok (.invokestatic 40, 3) := by decide +kernel
theorem dL_tick_345 : decode cL_tick 345 = .ok (.aload 4, 2) := by decide +kernel
theorem dL_tick_347 : decode cL_tick 347 = .ok (.bipush 8, 2) := by decide +kernel
theorem dL_tick_349 : decode cL_tick 349 = .ok (.iload 8, 2) := by decide +kernel
theorem dL_tick_351 : decode cL_tick 351 = .ok (.imul, 1) := by decide +kernel
theorem dL_tick_352 : decode cL_tick 352 = .ok (.iload 10, 2) := by decide +kernel
theorem dL_tick_354 : decode cL_tick 354 = .ok (.iadd, 1) := by decide +kernel
theorem dL_tick_355 : decode cL_tick 355 = .ok (.iaload, 1) := by decide +kernel
theorem dL_tick_356 : decode cL_tick 356 = .ok (.iastore, 1) := by decide +kernel
theorem dL_tick_357 : decode cL_tick 357 = .ok (.iload 10, 2) := by decide +kernel
theorem dL_tick_359 : decode cL_tick 359 = .ok (.iconst 1, 1) := by decide +kernel
theorem dL_tick_360 : decode cL_tick 360 = .ok (.iadd, 1) := by decide +kernel
theorem dL_tick_361 : decode cL_tick 361 = .ok (.aload_n 3, 1) := by decide +kernel
theorem dL_tick_362 : decode cL_tick 362 = .ok (.bipush 8, 2) := by decide +kernel
theorem dL_tick_364 : decode cL_tick 364 = .ok (.iload 8, 2) := by decide +kernel
theorem dL_tick_366 : decode cL_tick 366 = .ok (.imul, 1) := by decide +kernel
theorem dL_tick_367 : decode cL_tick 367 = .ok (.iconst 4, 1) := by decide +kernel
theorem dL_tick_368 : decode cL_tick 368 = .ok (.iadd, 1) := by decide +kernel
theorem dL_tick_369 : decode cL_tick 369 = .ok (.iaload, 1) := by decide +kernel
theorem dL_tick_370 : decode cL_tick 370 = .ok (.if_icmp .ne 29, 3) := by decide +kernel
theorem dL_tick_373 : decode cL_tick 373 = .ok (.aload_n 3, 1) := by decide +kernel
theorem dL_tick_374 : decode cL_tick 374 = .ok (.bipush 8, 2) := by decide +kernel
theorem dL_tick_376 : decode cL_tick 376 = .ok (.iload 8, 2) := by decide +kernel
theorem dL_tick_378 : decode cL_tick 378 = .ok (.imul, 1) := by decide +kernel
theorem dL_tick_379 : decode cL_tick 379 = .ok (.iconst 5, 1) := by decide +kernel
theorem dL_tick_380 : decode cL_tick 380 = .ok (.iadd, 1) := by decide +kernel
theorem dL_tick_381 : decode cL_tick 381 = .ok (.iconst 2, 1) := by decide +kernel
theorem dL_tick_382 : decode cL_tick 382 = .ok (.iastore, 1) := by decide +kernel
theorem dL_tick_383 : decode cL_tick 383 = .ok (.aload_n 3, 1) := by decide +kernel
theorem dL_tick_384 : decode cL_tick 384 = .ok (.bipush 8, 2) := by decide +kernel
theorem dL_tick_386 : decode cL_tick 386 = .ok (.iload 8, 2) := by decide +kernel
theorem dL_tick_388 : decode cL_tick 388 = .ok (.imul, 1) := by decide +kernel
theorem dL_tick_389 : decode cL_tick 389 = .ok (.bipush 7, 2) := by decide +kernel
theorem dL_tick_391 : decode cL_tick 391 = .ok (.iadd, 1) := by decide +kernel
theorem dL_tick_392 : decode cL_tick 392 = .ok (.aload_n 0, 1) := by decide +kernel
theorem dL_tick_393 : decode cL_tick 393 = .ok (.iconst 1, 1) := by decide +kernel
theorem dL_tick_394 : decode cL_tick 394 = .ok (.iaload, 1) := by decide +kernel
theorem dL_tick_395 : decode cL_tick 395 = .ok (.iastore, 1) := by decide +kernel
theorem dL_tick_396 : decode cL_tick 396 = .ok (.iinc 7 1, 3) := by decide +kernel
theorem dL_tick_399 : decode cL_tick 399 = .ok (.iinc 9 1, 3) := by decide +kernel
theorem dL_tick_402 : decode cL_tick 402 = .ok (.goto (-121), 3) := by decide +kernel
theorem dL_tick_405 : decode cL_tick 405 = .ok (.iinc 8 1, 3) := by decide +kernel
theorem dL_tick_408 : decode cL_tick 408 = .ok (.goto (-138), 3) := by decide +kernel
theorem dL_tick_411 : decode cL_tick 411 = .ok (.aload_n 0, 1) := by decide +kernel
theorem dL_tick_412 : decode cL_tick 412 = .ok (.iconst 1, 1) := by decide +kernel
theorem dL_tick_413 : decode cL_tick 413 = .ok (.dup2, 1) := by decide +kernel
theorem dL_tick_414 : decode cL_tick 414 = .ok (.iaload, 1) := by decide +kernel
theorem dL_tick_415 : decode cL_tick 415 = .ok (.iconst 1, 1) := by decide +kernel
theorem dL_tick_416 : decode cL_tick 416 = .ok (.iadd, 1) := by decide +kernel
theorem dL_tick_417 : decode cL_tick 417 = .ok (.iastore, 1) := by decide +kernel
theorem dL_tick_418 : decode cL_tick 418 = .ok (.iload 7, 2) := by decide +kernel
theorem dL_tick_420 : decode cL_tick 420 = .ok (.ireturn, 1) := by decide +kernel
theorem dL_reason_0 : decode cL_reason 0 = .ok (.iconst 0, 1) := by decide +kernel
theorem dL_reason_1 : decode cL_reason 1 = .ok (.istore 4, 2) := by decide +kernel
theorem dL_reason_3 : decode cL_reason 3 = .ok (.iconst 0, 1) := by decide +kernel
theorem dL_reason_4 : decode cL_reason 4 = .ok (.istore 5, 2) := by decide +kernel
theorem dL_reason_6 : decode cL_reason 6 = .ok (.iload 5, 2) := by decide +kernel
theorem dL_reason_8 : decode cL_reason 8 = .ok (.aload_n 1, 1) := by decide +kernel
theorem dL_reason_9 : decode cL_reason 9 = .ok (.iconst 0, 1) := by decide +kernel
theorem dL_reason_10 : decode cL_reason 10 = .ok (.iaload, 1) := by decide +kernel
theorem dL_reason_11 : decode cL_reason 11 = .ok (.if_icmp .ge 150, 3) := by decide +kernel
theorem dL_reason_14 : decode cL_reason 14 = .ok (.aload_n 2, 1) := by decide +kernel
theorem dL_reason_15 : decode cL_reason 15 = .ok (.bipush 8, 2) := by decide +kernel
theorem dL_reason_17 : decode cL_reason 17 = .ok (.iload 5, 2) := by decide +kernel
theorem dL_reason_19 : decode cL_reason 19 = .ok (.imul, 1) := by decide +kernel
theorem dL_reason_20 : decode cL_reason 20 = .ok (.iconst 5, 1) := by decide +kernel
theorem dL_reason_21 : decode cL_reason 21 = .ok (.iadd, 1) := by decide +kernel
theorem dL_reason_22 : decode cL_reason 22 = .ok (.iaload, 1) := by decide +kernel
theorem dL_reason_23 : decode cL_reason 23 = .ok (.istore 6, 2) := by decide +kernel
theorem dL_reason_25 : decode cL_reason 25 = .ok (.aload_n 3, 1) := by decide +kernel
theorem dL_reason_26 : decode cL_reason 26 = .ok (.iconst 2, 1) := by decide +kernel
theorem dL_reason_27 : decode cL_reason 27 = .ok (.iload 5, 2) := by decide +kernel
theorem dL_reason_29 : decode cL_reason 29 = .ok (.imul, 1) := by decide +kernel
theorem dL_reason_30 : decode cL_reason 30 = .ok (.laload, 1) := by decide +kernel
theorem dL_reason_31 : decode cL_reason 31 = .ok (.iload_n 0, 1) := by decide +kernel
theorem dL_reason_32 : decode cL_reason 32 = .ok (.lshr, 1) := by decide +kernel
theorem dL_reason_33 : decode cL_reason 33 = .ok (.lconst 1, 1) := by decide +kernel
theorem dL_reason_34 : decode cL_reason 34 = .ok (.land, 1) := by decide +kernel
theorem dL_reason_35 : decode cL_reason 35 = .ok (.lconst 1, 1) := by decide +kernel
theorem dL_reason_36 : decode cL_reason 36 = .ok (.lcmp, 1) := by decide +kernel
theorem dL_reason_37 : decode cL_reason 37 = .ok (.ifCond .ne 7, 3) := by decide +kernel
theorem dL_reason_40 : decode cL_reason 40 = .ok (.iconst 1, 1) := by decide +kernel
theorem dL_reason_41 : decode cL_reason 41 = .ok (.goto 4, 3) := by decide +kernel
theorem dL_reason_44 : decode cL_reason 44 = .ok (.iconst 0, 1) := by decide +kernel
theorem dL_reason_45 : decode cL_reason 45 = .ok (.istore 7, 2) := by decide +kernel
theorem dL_reason_47 : decode cL_reason 47 = .ok (.aload_n 3, 1) := by decide +kernel
theorem dL_reason_48 : decode cL_reason 48 = .ok (.iconst 2, 1) := by decide +kernel
theorem dL_reason_49 : decode cL_reason 49 = .ok (.iload 5, 2) := by decide +kernel
theorem dL_reason_51 : decode cL_reason 51 = .ok (.imul, 1) := by decide +kernel
theorem dL_reason_52 : decode cL_reason 52 = .ok (.iconst 1, 1) := by decide +kernel
theorem dL_reason_53 : decode cL_reason 53 = .ok (.iadd, 1) := by decide +kernel
theorem dL_reason_54 : decode cL_reason 54 = .ok (.laload, 1) := by decide +kernel
theorem dL_reason_55 : decode cL_reason 55 = .ok (.iload_n 0, 1) := by decide +kernel
theorem dL_reason_56 : decode cL_reason 56 = .ok (.lshr, 1) := by decide +kernel
theorem dL_reason_57 : decode cL_reason 57 = .ok (.lconst 1, 1) := by decide +kernel
theorem dL_reason_58 : decode cL_reason 58 = .ok (.land, 1) := by decide +kernel
theorem dL_reason_59 : decode cL_reason 59 = .ok (.lconst 1, 1) := by decide +kernel
theorem dL_reason_60 : decode cL_reason 60 = .ok (.lcmp, 1) := by decide +kernel
theorem dL_reason_61 : decode cL_reason 61 = .ok (.ifCond .ne 7, 3) := by decide +kernel
theorem dL_reason_64 : decode cL_reason 64 = .ok (.iconst 1, 1) := by decide +kernel
theorem dL_reason_65 : decode cL_reason 65 = .ok (.goto 4, 3) := by decide +kernel
theorem dL_reason_68 : decode cL_reason 68 = .ok (.iconst 0, 1) := by decide +kernel
theorem dL_reason_69 : decode cL_reason 69 = .ok (.istore 8, 2) := by decide +kernel
theorem dL_reason_71 : decode cL_reason 71 = .ok (.iload 6, 2) := by decide +kernel
theorem dL_reason_73 : decode cL_reason 73 = .ok (.iconst 1, 1) := by decide +kernel
theorem dL_reason_74 : decode cL_reason 74 = .ok (.if_icmp .eq 9, 3) := by decide +kernel
theorem dL_reason_77 : decode cL_reason 77 = .ok (.iload 6, 2) := by decide +kernel
theorem dL_reason_79 : decode cL_reason 79 = .ok (.iconst 2, 1) := by decide +kernel
theorem dL_reason_80 : decode cL_reason 80 = .ok (.if_icmp .ne 12, 3) := by decide +kernel
theorem dL_reason_83 : decode cL_reason 83 = .ok (.iload 7, 2) := by decide +kernel
theorem dL_reason_85 : decode cL_reason 85 = .ok (.ifCond .eq 7, 3) := by decide +kernel
theorem dL_reason_88 : decode cL_reason 88 = .ok (.iconst 1, 1) := by decide +kernel
theorem dL_reason_89 : decode cL_reason 89 = .ok (.goto 38, 3) := by decide +kernel
theorem dL_reason_92 : decode cL_reason 92 = .ok (.iload 6, 2) := by decide +kernel
theorem dL_reason_94 : decode cL_reason 94 = .ok (.ifCond .ne 17, 3) := by decide +kernel
theorem dL_reason_97 : decode cL_reason 97 = .ok (.iload 7, 2) := by decide +kernel
theorem dL_reason_99 : decode cL_reason 99 = .ok (.ifCond .ne 8, 3) := by decide +kernel
theorem dL_reason_102 : decode cL_reason 102 = .ok (.iload 8, 2) := by decide +kernel
theorem dL_reason_104 : decode cL_reason 104 = .ok (.ifCond .eq 7, 3) := by decide +kernel
theorem dL_reason_107 : decode cL_reason 107 = .ok (.iconst 2, 1) := by decide +kernel
theorem dL_reason_108 : decode cL_reason 108 = .ok (.goto 19, 3) := by decide +kernel
theorem dL_reason_111 : decode cL_reason 111 = .ok (.iload 6, 2) := by decide +kernel
theorem dL_reason_113 : decode cL_reason 113 = .ok (.iconst 1, 1) := by decide +kernel
theorem dL_reason_114 : decode cL_reason 114 = .ok (.if_icmp .ne 12, 3) := by decide +kernel
theorem dL_reason_117 : decode cL_reason 117 = .ok (.iload 8, 2) := by decide +kernel
theorem dL_reason_119 : decode cL_reason 119 = .ok (.ifCond .eq 7, 3) := by decide +kernel
theorem dL_reason_122 : decode cL_reason 122 = .ok (.iconst 3, 1) := by decide +kernel
theorem dL_reason_123 : decode cL_reason 123 = .ok (.goto 4, 3) := by decide +kernel
theorem dL_reason_126 : decode cL_reason 126 = .ok (.iconst 0, 1) := by decide +kernel
theorem dL_reason_127 : decode cL_reason 127 = .ok (.istore 9, 2) := by decide +kernel
theorem dL_reason_129 : decode cL_reason 129 = .ok (.iload 9, 2) := by decide +kernel
theorem dL_reason_131 : decode cL_reason 131 = .ok (.ifCond .le 20, 3) := by decide +kernel
theorem dL_reason_134 : decode cL_reason 134 = .ok (.iload 4, 2) := by decide +kernel
theorem dL_reason_136 : decode cL_reason 136 = .ok (.ifCond .eq 10, 3) := by decide +kernel
theorem dL_reason_139 : decode cL_reason 139 = .ok (.iload 9, 2) := by decide +kernel
theorem dL_reason_141 : decode cL_reason 141 = .ok (.iload 4, 2) := by decide +kernel
theorem dL_reason_143 : decode cL_reason 143 = .ok (.if_icmp .ge 8, 3) := by decide +kernel
theorem dL_reason_146 : decode cL_reason 146 = .ok (.iload 9, 2) := by decide +kernel
theorem dL_reason_148 : decode cL_reason 148 = .ok (.goto 5, 3) := by decide +kernel
theorem dL_reason_151 : decode cL_reason 151 = .ok (.iload 4, 2) := by decide +kernel
theorem dL_reason_153 : decode cL_reason 153 = .ok (.istore 4, 2) := by decide +kernel
theorem dL_reason_155 : decode cL_reason 155 = .ok (.iinc 5 1, 3) := by decide +kernel
theorem dL_reason_158 : decode cL_reason 158 = .ok (.goto (-152), 3) := by decide +kernel
theorem dL_reason_161 : decode cL_reason 161 = .ok (.iload 4, 2) := by decide +kernel
theorem dL_reason_163 : decode cL_reason 163 = .ok (.ireturn, 1) := by decide +kernel
set_option maxRecDepth 20000 in
theorem ggL_same_X7_moveOf : GoodIn wsL_same wsX7_moveOf := goodIn_ca (goodIn_ca (goodIn_r _ [6, 7, 8, 9, 10, 11, 5, 12, 13, 14, 15, 16, 17, 18, 19, 20, 21, 22, 23, 24, 25, 26, 27, 28, 29, 30, 31, 32, 33, 34, 35, 36, 37, 38, 174, 175, 176, 177, 178, 179, 180, 181, 182, 183, 184, 185, 186, 187, 188, 189, 190, 191, 192, 193, 194, 195, 196, 197, 198, 199, 200, 201, 202] (by decide +kernel) (by decide +kernel)) (goodIn_sub (fun _ h => List.mem_cons_of_mem _ (List.mem_append_left _ (List.mem_append_right _ h))) (by decide +kernel))) (goodIn_sub (fun _ h => List.mem_cons_of_mem _ (List.mem_append_right _ h)) (by decide +kernel))
set_option maxRecDepth 20000 in
theorem gL_same_X7_moveOf : GoodIn wsL_same (wsV RL 44 RX7 yX7_moveOf wsX7_moveOf) := goodIn_app (goodIn_of _ (by decide +kernel)) ggL_same_X7_moveOf
set_option maxRecDepth 20000 in
theorem ggL_same_X7_waitsFor : GoodIn wsL_same wsX7_waitsFor := goodIn_ca (goodIn_r _ [42, 7, 9, 10, 11, 5, 12, 13, 14, 15, 43, 44, 45, 46, 47, 48, 49, 50, 51, 52, 27, 53, 34, 54, 55, 174, 175, 176, 177, 178, 179, 180, 181, 182, 183, 184, 185, 186, 187, 188, 189, 190, 191, 192, 193, 194, 195, 196, 197, 198, 199, 200, 201, 202] (by decide +kernel) (by decide +kernel)) (goodIn_sub (fun _ h => List.mem_cons_of_mem _ (List.mem_append_left _ (List.mem_append_right _ h))) (by decide +kernel))
set_option maxRecDepth 20000 in
theorem gL_same_X7_waitsFor : GoodIn wsL_same (wsV RL 47 RX7 yX7_waitsFor wsX7_waitsFor) := goodIn_app (goodIn_of _ (by decide +kernel)) ggL_same_X7_waitsFor
set_option maxRecDepth 20000 in
theorem ggL_same_L_waitsFor : GoodIn wsL_same wsL_waitsFor := goodIn_r _ [59, 60, 61, 58, 62] (by decide +kernel) (by decide +kernel)
set_option maxRecDepth 20000 in
theorem gL_same_L_waitsFor : GoodIn wsL_same (va_wsS RL 36 yL_waitsFor wsL_waitsFor) := goodIn_app (goodIn_of _ (by decide +kernel)) ggL_same_L_waitsFor
set_option maxRecDepth 20000 in
theorem ggL_same_X7_depth : GoodIn wsL_same wsX7_depth := goodIn_ca (goodIn_r _ [66, 7, 9, 10, 11, 5, 12, 13, 14, 15, 67, 68, 69, 46, 70, 71, 72, 73, 74, 75, 76, 44, 45, 47, 48, 49, 50, 51, 52, 27, 53, 34, 54, 55, 174, 175, 176, 177, 178, 179, 180, 181, 182, 183, 184, 185, 186, 187, 188, 189, 190, 191, 192, 193, 194, 195, 196, 197, 198, 199, 200, 201, 202] (by decide +kernel) (by decide +kernel)) (goodIn_sub (fun _ h => List.mem_cons_of_mem _ (List.mem_append_left _ (List.mem_append_right _ h))) (by decide +kernel))
set_option maxRecDepth 20000 in
theorem gL_same_X7_depth : GoodIn wsL_same (wsV RL 49 RX7 yX7_depth wsX7_depth) := goodIn_app (goodIn_of _ (by decide +kernel)) ggL_same_X7_depth
set_option maxRecDepth 20000 in
theorem ggL_same_L_depth : GoodIn wsL_same wsL_depth := goodIn_r _ [79, 1, 56, 57, 58, 59, 60, 61, 62] (by decide +kernel) (by decide +kernel)
set_option maxRecDepth 20000 in
theorem gL_same_L_depth : GoodIn wsL_same (va_wsS RL 52 yL_depth wsL_depth) := goodIn_app (goodIn_of _ (by decide +kernel)) ggL_same_L_depth
set_option maxRecDepth 20000 in
theorem ggL_same_X7_cellSet : GoodIn wsL_same wsX7_cellSet := goodIn_ca (goodIn_r _ [83, 7, 8, 84, 85, 9, 10, 11, 5, 12, 13, 14, 15, 174, 175, 176, 177, 178, 179, 180, 181, 182, 183, 184, 185, 186, 187, 188, 189, 190, 191, 192, 193, 194, 195, 196, 197, 198, 199, 200, 201, 202] (by decide +kernel) (by decide +kernel)) (goodIn_sub (fun _ h => List.mem_cons_of_mem _ (List.mem_append_left _ (List.mem_append_right _ h))) (by decide +kernel))
set_option maxRecDepth 20000 in
theorem gL_same_X7_cellSet : GoodIn wsL_same (wsV RL 54 RX7 yX7_cellSet wsX7_cellSet) := goodIn_app (goodIn_of _ (by decide +kernel)) ggL_same_X7_cellSet
set_option maxRecDepth 20000 in
theorem ggL_same_X7_hostage : GoodIn wsL_same wsX7_hostage := goodIn_ca (goodIn_ca (goodIn_r _ [89, 19, 20, 7, 8, 9, 10, 11, 5, 12, 13, 14, 15, 90, 91, 92, 27, 93, 94, 35, 95, 96, 97, 98, 34, 33, 174, 175, 176, 177, 178, 179, 180, 181, 182, 183, 184, 185, 186, 187, 188, 189, 190, 191, 192, 193, 194, 195, 196, 197, 198, 199, 200, 201, 202] (by decide +kernel) (by decide +kernel)) (goodIn_sub (fun _ h => List.mem_cons_of_mem _ (List.mem_append_right _ h)) (by decide +kernel))) (goodIn_sub (fun _ h => List.mem_cons_of_mem _ (List.mem_append_left _ (List.mem_append_right _ h))) (by decide +kernel))
set_option maxRecDepth 20000 in
theorem gL_same_X7_hostage : GoodIn wsL_same (wsV RL 58 RX7 yX7_hostage wsX7_hostage) := goodIn_app (goodIn_of _ (by decide +kernel)) ggL_same_X7_hostage
set_option maxRecDepth 20000 in
theorem ggL_same_X7_cell : GoodIn wsL_same wsX7_cell := goodIn_ca (goodIn_r _ [102, 7, 103, 104, 105, 5, 106, 13, 14, 107, 108, 109, 21, 22, 23, 174, 175, 176, 177, 178, 179, 180, 181, 182, 183, 184, 185, 186, 187, 188, 189] (by decide +kernel) (by decide +kernel)) (goodIn_sub (fun _ h => List.mem_cons_of_mem _ (List.mem_append_left _ (List.mem_append_right _ h))) (by decide +kernel))
set_option maxRecDepth 20000 in
theorem gL_same_X7_cell : GoodIn wsL_same (wsV RL 61 RX7 yX7_cell wsX7_cell) := goodIn_app (goodIn_of _ (by decide +kernel)) ggL_same_X7_cell
set_option maxRecDepth 20000 in
theorem ggL_same_X7_reason : GoodIn wsL_same wsX7_reason := goodIn_ca (goodIn_r _ [113, 7, 104, 105, 5, 106, 13, 14, 107, 108, 109, 21, 22, 23, 114, 115, 116, 46, 117, 118, 48, 49, 119, 120, 121, 122, 123, 124, 125, 126, 127, 27, 128, 34, 174, 175, 176, 177, 178, 179, 180, 181, 182, 183, 184, 185, 186, 187, 188, 189, 190, 191, 192, 193, 194, 195, 196, 197, 198, 199, 200, 201, 202] (by decide +kernel) (by decide +kernel)) (goodIn_sub (fun _ h => List.mem_cons_of_mem _ (List.mem_append_left _ (List.mem_append_right _ h))) (by decide +kernel))
set_option maxRecDepth 20000 in
theorem gL_same_X7_reason : GoodIn wsL_same (wsV RL 64 RX7 yX7_reason wsX7_reason) := goodIn_app (goodIn_of _ (by decide +kernel)) ggL_same_X7_reason
set_option maxRecDepth 20000 in
theorem ggL_same_L_reason : GoodIn wsL_same wsL_reason := goodIn_r _ [131] (by decide +kernel) (by decide +kernel)
set_option maxRecDepth 20000 in
theorem gL_same_L_reason : GoodIn wsL_same (va_wsS RL 67 yL_reason wsL_reason) := goodIn_app (goodIn_of _ (by decide +kernel)) ggL_same_L_reason
set_option maxRecDepth 20000 in
theorem ggL_same_X7_whole : GoodIn wsL_same wsX7_whole := goodIn_ca (goodIn_r _ [135, 16, 17, 5, 18, 19, 20, 21, 22, 23, 136, 137, 138, 139, 140, 141, 7, 142, 143, 144, 46, 145, 146, 118, 147, 148, 149, 150, 151, 152, 153, 154, 155, 156, 48, 49, 121, 122, 123, 124, 119, 125, 126, 127, 27, 128, 34, 157, 158, 159, 160, 161, 162, 163, 164, 165, 166, 167, 168, 174, 175, 176, 177, 203, 204, 205, 206, 207, 208, 178, 179, 180, 181, 182, 183, 184, 185, 186, 187, 188, 189, 190, 191, 192, 193, 194, 195, 196, 197, 198, 199, 200, 201, 202] (by decide +kernel) (by decide +kernel)) (goodIn_sub (fun _ h => List.mem_cons_of_mem _ (List.mem_append_right _ h)) (by decide +kernel))
set_option maxRecDepth 20000 in
theorem gL_same_X7_whole : GoodIn wsL_same (wsV RL 70 RX7 yX7_whole wsX7_whole) := goodIn_app (goodIn_of _ (by decide +kernel)) ggL_same_X7_whole
set_option maxRecDepth 20000 in
theorem ggL_same_X7_held : GoodIn wsL_same wsX7_held := goodIn_r _ [172, 7, 173, 122, 123, 46, 124, 118, 48, 119, 125, 126, 127, 27, 128, 34, 174, 175, 176, 177, 178, 179, 180, 181, 182, 183, 184, 185, 186, 187, 188, 189, 190, 191, 192, 193, 194, 195, 196, 197, 198, 199, 200, 201, 202] (by decide +kernel) (by decide +kernel)
set_option maxRecDepth 20000 in
theorem gL_same_X7_held : GoodIn wsL_same (wsV RL 73 RX7 yX7_held wsX7_held) := goodIn_app (goodIn_of _ (by decide +kernel)) ggL_same_X7_held
theorem dL_same_0 : decode cL_same 0 = .ok (.lconst 0, 1) := by decide +kernel
theorem dL_same_1 : decode cL_same 1 = .ok (.lstore 7, 2) := by decide +kernel
theorem dL_same_3 : decode cL_same 3 = .ok (.iconst 4, 1) := by decide +kernel
theorem dL_same_4 : decode cL_same 4 = .ok (.newarray .int, 2) := by decide +kernel
theorem dL_same_6 : decode cL_same 6 = .ok (.astore 9, 2) := by decide +kernel
theorem dL_same_8 : decode cL_same 8 = .ok (.iconst 0, 1) := by decide +kernel
theorem dL_same_9 : decode cL_same 9 = .ok (.istore 10, 2) := by decide +kernel
theorem dL_same_11 : decode cL_same 11 = .ok (.iload 10, 2) := by decide +kernel
theorem dL_same_13 : decode cL_same 13 = .ok (.aload_n 1, 1) := by decide +kernel
theorem dL_same_14 : decode cL_same 14 = .ok (.iconst 0, 1) := by decide +kernel
theorem dL_same_15 : decode cL_same 15 = .ok (.iaload, 1) := by decide +kernel
theorem dL_same_16 : decode cL_same 16 = .ok (.if_icmp .ge 303, 3) := by decide +kernel
theorem dL_same_19 : decode cL_same 19 = .ok (.aload 4, 2) := by decide +kernel
theorem dL_same_21 : decode cL_same 21 = .ok (.bipush 8, 2) := by decide +kernel
theorem dL_same_23 : decode cL_same 23 = .ok (.iload 10, 2) := by decide +kernel
theorem dL_same_25 : decode cL_same 25 = .ok (.imul, 1) := by decide +kernel
theorem dL_same_26 : decode cL_same 26 = .ok (.iconst 5, 1) := by decide +kernel
theorem dL_same_27 : decode cL_same 27 = .ok (.iadd, 1) := by decide +kernel
theorem dL_same_28 : decode cL_same 28 = .ok (.iaload, 1) := by decide +kernel
theorem dL_same_29 : decode cL_same 29 = .ok (.istore 11, 2) := by decide +kernel
theorem dL_same_31 : decode cL_same 31 = .ok (.lload 7, 2) := by decide +kernel
theorem dL_same_33 : decode cL_same 33 = .ok (.iload 11, 2) := by decide +kernel
theorem dL_same_35 : decode cL_same 35 = .ok (.iconst 1, 1) := by decide +kernel
theorem dL_same_36 : decode cL_same 36 = .ok (.if_icmp .eq 9, 3) := by decide +kernel
theorem dL_same_39 : decode cL_same 39 = .ok (.iload 11, 2) := by decide +kernel
theorem dL_same_41 : decode cL_same 41 = .ok (.iconst 2, 1) := by decide +kernel
theorem dL_same_42 : decode cL_same 42 = .ok (.if_icmp .ne 13, 3) := by decide +kernel
theorem dL_same_45 : decode cL_same 45 = .ok (.aload 6, 2) := by decide +kernel
theorem dL_same_47 : decode cL_same 47 = .ok (.iconst 2, 1) := by decide +kernel
theorem dL_same_48 : decode cL_same 48 = .ok (.iload 10, 2) := by decide +kernel
theorem dL_same_50 : decode cL_same 50 = .ok (.imul, 1) := by decide +kernel
theorem dL_same_51 : decode cL_same 51 = .ok (.laload, 1) := by decide +kernel
theorem dL_same_52 : decode cL_same 52 = .ok (.goto 4, 3) := by decide +kernel
theorem dL_same_55 : decode cL_same 55 = .ok (.lconst 0, 1) := by decide +kernel
theorem dL_same_56 : decode cL_same 56 = .ok (.lor, 1) := by decide +kernel
theorem dL_same_57 : decode cL_same 57 = .ok (.lstore 7, 2) := by decide +kernel
theorem dL_same_59 : decode cL_same 59 = .ok (.aload 9, 2) := by decide +kernel
theorem dL_same_61 : decode cL_same 61 = .ok (.iload 11, 2) := by decide +kernel
theorem dL_same_63 : decode cL_same 63 = .ok (.dup2, 1) := by decide +kernel
theorem dL_same_64 : decode cL_same 64 = .ok (.iaload, 1) := by decide +kernel
theorem dL_same_65 : decode cL_same 65 = .ok (.iconst 1, 1) := by decide +kernel
theorem dL_same_66 : decode cL_same 66 = .ok (.iadd, 1) := by decide +kernel
theorem dL_same_67 : decode cL_same 67 = .ok (.iastore, 1) := by decide +kernel
theorem dL_same_68 : decode cL_same 68 = .ok (.aload_n 0, 1) := by decide +kernel
theorem dL_same_69 : decode cL_same 69 = .ok (.iload 10, 2) := by decide +kernel
theorem dL_same_71 : decode cL_same 71 = .ok (.iconst 5, 1) := by decide +kernel
theorem dL_same_72 : decode cL_same 72 = .ok (.invokevirtual 44, 3) := by decide +kernel
theorem dL_same_75 : decode cL_same 75 = .ok (.iload 11, 2) := by decide +kernel
theorem dL_same_77 : decode cL_same 77 = .ok (.if_icmp .ne 99, 3) := by decide +kernel
theorem dL_same_80 : decode cL_same 80 = .ok (.aload_n 0, 1) := by decide +kernel
theorem dL_same_81 : decode cL_same 81 = .ok (.iload 10, 2) := by decide +kernel
theorem dL_same_83 : decode cL_same 83 = .ok (.bipush 6, 2) := by decide +kernel
theorem dL_same_85 : decode cL_same 85 = .ok (.invokevirtual 44, 3) := by decide +kernel
theorem dL_same_88 : decode cL_same 88 = .ok (.aload 4, 2) := by decide +kernel
theorem dL_same_90 : decode cL_same 90 = .ok (.bipush 8, 2) := by decide +kernel
theorem dL_same_92 : decode cL_same 92 = .ok (.iload 10, 2) := by decide +kernel
theorem dL_same_94 : decode cL_same 94 = .ok (.imul, 1) := by decide +kernel
theorem dL_same_95 : decode cL_same 95 = .ok (.bipush 6, 2) := by decide +kernel
theorem dL_same_97 : decode cL_same 97 = .ok (.iadd, 1) := by decide +kernel
theorem dL_same_98 : decode cL_same 98 = .ok (.iaload, 1) := by decide +kernel
theorem dL_same_99 : decode cL_same 99 = .ok (.if_icmp .ne 77, 3) := by decide +kernel
theorem dL_same_102 : decode cL_same 102 = .ok (.aload_n 0, 1) := by decide +kernel
theorem dL_same_103 : decode cL_same 103 = .ok (.iload 10, 2) := by decide +kernel
theorem dL_same_105 : decode cL_same 105 = .ok (.invokevirtual 47, 3) := by decide +kernel
theorem dL_same_108 : decode cL_same 108 = .ok (.iload 10, 2) := by decide +kernel
theorem dL_same_110 : decode cL_same 110 = .ok (.aload 4, 2) := by decide +kernel
theorem dL_same_112 : decode cL_same 112 = .ok (.aload 6, 2) := by decide +kernel
theorem dL_same_114 : decode cL_same 114 = .ok (.invokestatic 36, 3) := by decide +kernel
theorem dL_same_117 : decode cL_same 117 = .ok (.if_icmp .ne 59, 3) := by decide +kernel
theorem dL_same_120 : decode cL_same 120 = .ok (.aload_n 0, 1) := by decide +kernel
theorem dL_same_121 : decode cL_same 121 = .ok (.iload 10, 2) := by decide +kernel
theorem dL_same_123 : decode cL_same 123 = .ok (.invokevirtual 49, 3) := by decide +kernel
theorem dL_same_126 : decode cL_same 126 = .ok (.iload 10, 2) := by decide +kernel
theorem dL_same_128 : decode cL_same 128 = .ok (.aload 4, 2) := by decide +kernel
theorem dL_same_130 : decode cL_same 130 = .ok (.aload 6, 2) := by decide +kernel
theorem dL_same_132 : decode cL_same 132 = .ok (.invokestatic 52, 3) := by decide +kernel
theorem dL_same_135 : decode cL_same 135 = .ok (.if_icmp .ne 41, 3) := by decide +kernel
theorem dL_same_138 : decode cL_same 138 = .ok (.aload_n 0, 1) := by decide +kernel
theorem dL_same_139 : decode cL_same 139 = .ok (.iload 10, 2) := by decide +kernel
theorem dL_same_141 : decode cL_same 141 = .ok (.iconst 0, 1) := by decide +kernel
theorem dL_same_142 : decode cL_same 142 = .ok (.invokevirtual 54, 3) := by decide +kernel
theorem dL_same_145 : decode cL_same 145 = .ok (.aload 6, 2) := by decide +kernel
theorem dL_same_147 : decode cL_same 147 = .ok (.iconst 2, 1) := by decide +kernel
theorem dL_same_148 : decode cL_same 148 = .ok (.iload 10, 2) := by decide +kernel
theorem dL_same_150 : decode cL_same 150 = .ok (.imul, 1) := by decide +kernel
theorem dL_same_151 : decode cL_same 151 = .ok (.laload, 1) := by decide +kernel
theorem dL_same_152 : decode cL_same 152 = .ok (.lcmp, 1) := by decide +kernel
theorem dL_same_153 : decode cL_same 153 = .ok (.ifCond .ne 23, 3) := by decide +kernel
theorem dL_same_156 : decode cL_same 156 = .ok (.aload_n 0, 1) := by decide +kernel
theorem dL_same_157 : decode cL_same 157 = .ok (.iload 10, 2) := by decide +kernel
theorem dL_same_159 : decode cL_same 159 = .ok (.iconst 1, 1) := by decide +kernel
theorem dL_same_160 : decode cL_same 160 = .ok (.invokevirtual 54, 3) := by decide +kernel
theorem dL_same_163 : decode cL_same 163 = .ok (.aload 6, 2) := by decide +kernel
theorem dL_same_165 : decode cL_same 165 = .ok (.iconst 2, 1) := by decide +kernel
theorem dL_same_166 : decode cL_same 166 = .ok (.iload 10, 2) := by decide +kernel
theorem dL_same_168 : decode cL_same 168 = .ok (.imul, 1) := by decide +kernel
theorem dL_same_169 : decode cL_same 169 = .ok (.iconst 1, 1) := by decide +kernel
theorem dL_same_170 : decode cL_same 170 = .ok (.iadd, 1) := by decide +kernel
theorem dL_same_171 : decode cL_same 171 = .ok (.laload, 1) := by decide +kernel
theorem dL_same_172 : decode cL_same 172 = .ok (.lcmp, 1) := by decide +kernel
theorem dL_same_173 : decode cL_same 173 = .ok (.ifCond .eq 5, 3) := by decide +kernel
theorem dL_same_176 : decode cL_same 176 = .ok (.iconst 0, 1) := by decide +kernel
theorem dL_same_177 : decode cL_same 177 = .ok (.ireturn, 1) := by decide +kernel
theorem dL_same_178 : decode cL_same 178 = .ok (.aload_n 0, 1) := by decide +kernel
theorem dL_same_179 : decode cL_same 179 = .ok (.iload 10, 2) := by decide +kernel
theorem dL_same_181 : decode cL_same 181 = .ok (.bipush 8, 2) := by decide +kernel
theorem dL_same_183 : decode cL_same 183 = .ok (.invokevirtual 44, 3) := by decide +kernel
theorem dL_same_186 : decode cL_same 186 = .ok (.iload 11, 2) := by decide +kernel
theorem dL_same_188 : decode cL_same 188 = .ok (.iconst 2, 1) := by decide +kernel
theorem dL_same_189 : decode cL_same 189 = .ok (.if_icmp .ge 9, 3) := by decide +kernel
theorem dL_same_192 : decode cL_same 192 = .ok (.sipush (-1000), 3) := by decide +kernel
theorem dL_same_195 : decode cL_same 195 = .ok (.goto 14, 3) := by decide +kernel
theorem dL_same_198 : decode cL_same 198 = .ok (.aload 4, 2) := by decide +kernel
theorem dL_same_200 : decode cL_same 200 = .ok (.bipush 8, 2) := by decide +kernel
theorem dL_same_202 : decode cL_same 202 = .ok (.iload 10, 2) := by decide +kernel
theorem dL_same_204 : decode cL_same 204 = .ok (.imul, 1) := by decide +kernel
theorem dL_same_205 : decode cL_same 205 = .ok (.bipush 7, 2) := by decide +kernel
theorem dL_same_207 : decode cL_same 207 = .ok (.iadd, 1) := by decide +kernel
theorem dL_same_208 : decode cL_same 208 = .ok (.iaload, 1) := by decide +kernel
theorem dL_same_209 : decode cL_same 209 = .ok (.if_icmp .eq 5, 3) := by decide +kernel
theorem dL_same_212 : decode cL_same 212 = .ok (.iconst 0, 1) := by decide +kernel
theorem dL_same_213 : decode cL_same 213 = .ok (.ireturn, 1) := by decide +kernel
theorem dL_same_214 : decode cL_same 214 = .ok (.iload 11, 2) := by decide +kernel
theorem dL_same_216 : decode cL_same 216 = .ok (.iconst 1, 1) := by decide +kernel
theorem dL_same_217 : decode cL_same 217 = .ok (.if_icmp .ne 28, 3) := by decide +kernel
theorem dL_same_220 : decode cL_same 220 = .ok (.aload 4, 2) := by decide +kernel
theorem dL_same_222 : decode cL_same 222 = .ok (.bipush 8, 2) := by decide +kernel
theorem dL_same_224 : decode cL_same 224 = .ok (.iload 10, 2) := by decide +kernel
theorem dL_same_226 : decode cL_same 226 = .ok (.imul, 1) := by decide +kernel
theorem dL_same_227 : decode cL_same 227 = .ok (.iconst 4, 1) := by decide +kernel
theorem dL_same_228 : decode cL_same 228 = .ok (.iadd, 1) := by decide +kernel
theorem dL_same_229 : decode cL_same 229 = .ok (.iaload, 1) := by decide +kernel
theorem dL_same_230 : decode cL_same 230 = .ok (.aload 4, 2) := by decide +kernel
theorem dL_same_232 : decode cL_same 232 = .ok (.bipush 8, 2) := by decide +kernel
theorem dL_same_234 : decode cL_same 234 = .ok (.iload 10, 2) := by decide +kernel
theorem dL_same_236 : decode cL_same 236 = .ok (.imul, 1) := by decide +kernel
theorem dL_same_237 : decode cL_same 237 = .ok (.bipush 6, 2) := by decide +kernel
theorem dL_same_239 : decode cL_same 239 = .ok (.iadd, 1) := by decide +kernel
theorem dL_same_240 : decode cL_same 240 = .ok (.iaload, 1) := by decide +kernel
theorem dL_same_241 : decode cL_same 241 = .ok (.isub, 1) := by decide +kernel
theorem dL_same_242 : decode cL_same 242 = .ok (.goto 4, 3) := by decide +kernel
theorem dL_same_245 : decode cL_same 245 = .ok (.iconst 0, 1) := by decide +kernel
theorem dL_same_246 : decode cL_same 246 = .ok (.istore 12, 2) := by decide +kernel
theorem dL_same_248 : decode cL_same 248 = .ok (.iconst 0, 1) := by decide +kernel
theorem dL_same_249 : decode cL_same 249 = .ok (.istore 13, 2) := by decide +kernel
theorem dL_same_251 : decode cL_same 251 = .ok (.iload 13, 2) := by decide +kernel
theorem dL_same_253 : decode cL_same 253 = .ok (.iload 12, 2) := by decide +kernel
theorem dL_same_255 : decode cL_same 255 = .ok (.if_icmp .gt 58, 3) := by decide +kernel
theorem dL_same_258 : decode cL_same 258 = .ok (.aload_n 0, 1) := by decide +kernel
theorem dL_same_259 : decode cL_same 259 = .ok (.iload 10, 2) := by decide +kernel
theorem dL_same_261 : decode cL_same 261 = .ok (.iload 13, 2) := by decide +kernel
theorem dL_same_263 : decode cL_same 263 = .ok (.invokevirtual 58, 3) := by decide +kernel
theorem dL_same_266 : decode cL_same 266 = .ok (.iload 13, 2) := by decide +kernel
theorem dL_same_268 : decode cL_same 268 = .ok (.iload 12, 2) := by decide +kernel
theorem dL_same_270 : decode cL_same 270 = .ok (.if_icmp .ge 29, 3) := by decide +kernel
theorem dL_same_273 : decode cL_same 273 = .ok (.aload 5, 2) := by decide +kernel
theorem dL_same_275 : decode cL_same 275 = .ok (.bipush 8, 2) := by decide +kernel
theorem dL_same_277 : decode cL_same 277 = .ok (.iload 10, 2) := by decide +kernel
theorem dL_same_279 : decode cL_same 279 = .ok (.imul, 1) := by decide +kernel
theorem dL_same_280 : decode cL_same 280 = .ok (.aload 4, 2) := by decide +kernel
theorem dL_same_282 : decode cL_same 282 = .ok (.bipush 8, 2) := by decide +kernel
theorem dL_same_284 : decode cL_same 284 = .ok (.iload 10, 2) := by decide +kernel
theorem dL_same_286 : decode cL_same 286 = .ok (.imul, 1) := by decide +kernel
theorem dL_same_287 : decode cL_same 287 = .ok (.bipush 6, 2) := by decide +kernel
theorem dL_same_289 : decode cL_same 289 = .ok (.iadd, 1) := by decide +kernel
theorem dL_same_290 : decode cL_same 290 = .ok (.iaload, 1) := by decide +kernel
theorem dL_same_291 : decode cL_same 291 = .ok (.iadd, 1) := by decide +kernel
theorem dL_same_292 : decode cL_same 292 = .ok (.iload 13, 2) := by decide +kernel
theorem dL_same_294 : decode cL_same 294 = .ok (.iadd, 1) := by decide +kernel
theorem dL_same_295 : decode cL_same 295 = .ok (.iaload, 1) := by decide +kernel
theorem dL_same_296 : decode cL_same 296 = .ok (.goto 6, 3) := by decide +kernel
theorem dL_same_299 : decode cL_same 299 = .ok (.sipush (-1000), 3) := by decide +kernel
theorem dL_same_302 : decode cL_same 302 = .ok (.if_icmp .eq 5, 3) := by decide +kernel
theorem dL_same_305 : decode cL_same 305 = .ok (.iconst 0, 1) := by decide +kernel
theorem dL_same_306 : decode cL_same 306 = .ok (.ireturn, 1) := by decide +kernel
theorem dL_same_307 : decode cL_same 307 = .ok (.iinc 13 1, 3) := by decide +kernel
theorem dL_same_310 : decode cL_same 310 = .ok (.goto (-59), 3) := by decide +kernel
theorem dL_same_313 : decode cL_same 313 = .ok (.iinc 10 1, 3) := by decide +kernel
theorem dL_same_316 : decode cL_same 316 = .ok (.goto (-305), 3) := by decide +kernel
theorem dL_same_319 : decode cL_same 319 = .ok (.iconst 0, 1) := by decide +kernel
theorem dL_same_320 : decode cL_same 320 = .ok (.istore 10, 2) := by decide +kernel
theorem dL_same_322 : decode cL_same 322 = .ok (.iload 10, 2) := by decide +kernel
theorem dL_same_324 : decode cL_same 324 = .ok (.bipush 48, 2) := by decide +kernel
theorem dL_same_326 : decode cL_same 326 = .ok (.if_icmp .ge 43, 3) := by decide +kernel
theorem dL_same_329 : decode cL_same 329 = .ok (.aload_n 0, 1) := by decide +kernel
theorem dL_same_330 : decode cL_same 330 = .ok (.iload 10, 2) := by decide +kernel
theorem dL_same_332 : decode cL_same 332 = .ok (.invokevirtual 61, 3) := by decide +kernel
theorem dL_same_335 : decode cL_same 335 = .ok (.aload_n 2, 1) := by decide +kernel
theorem dL_same_336 : decode cL_same 336 = .ok (.iload 10, 2) := by decide +kernel
theorem dL_same_338 : decode cL_same 338 = .ok (.iaload, 1) := by decide +kernel
theorem dL_same_339 : decode cL_same 339 = .ok (.if_icmp .ne 22, 3) := by decide +kernel
theorem dL_same_342 : decode cL_same 342 = .ok (.aload_n 0, 1) := by decide +kernel
theorem dL_same_343 : decode cL_same 343 = .ok (.iload 10, 2) := by decide +kernel
theorem dL_same_345 : decode cL_same 345 = .ok (.invokevirtual 64, 3) := by decide +kernel
theorem dL_same_348 : decode cL_same 348 = .ok (.iload 10, 2) := by decide +kernel
theorem dL_same_350 : decode cL_same 350 = .ok (.aload_n 1, 1) := by decide +kernel
theorem dL_same_351 : decode cL_same 351 = .ok (.aload 4, 2) := by decide +kernel
theorem dL_same_353 : decode cL_same 353 = .ok (.aload 6, 2) := by decide +kernel
theorem dL_same_355 : decode cL_same 355 = .ok (.invokestatic 67, 3) := by decide +kernel
theorem dL_same_358 : decode cL_same 358 = .ok (.if_icmp .eq 5, 3) := by decide +kernel
theorem dL_same_361 : decode cL_same 361 = .ok (.iconst 0, 1) := by decide +kernel
theorem dL_same_362 : decode cL_same 362 = .ok (.ireturn, 1) := by decide +kernel
theorem dL_same_363 : decode cL_same 363 = .ok (.iinc 10 1, 3) := by decide +kernel
theorem dL_same_366 : decode cL_same 366 = .ok (.goto (-44), 3) := by decide +kernel
theorem dL_same_369 : decode cL_same 369 = .ok (.iconst 0, 1) := by decide +kernel
theorem dL_same_370 : decode cL_same 370 = .ok (.istore 10, 2) := by decide +kernel
theorem dL_same_372 : decode cL_same 372 = .ok (.iload 10, 2) := by decide +kernel
theorem dL_same_374 : decode cL_same 374 = .ok (.iconst 4, 1) := by decide +kernel
theorem dL_same_375 : decode cL_same 375 = .ok (.if_icmp .ge 27, 3) := by decide +kernel
theorem dL_same_378 : decode cL_same 378 = .ok (.aload_n 0, 1) := by decide +kernel
theorem dL_same_379 : decode cL_same 379 = .ok (.iconst 2, 1) := by decide +kernel
theorem dL_same_380 : decode cL_same 380 = .ok (.iload 10, 2) := by decide +kernel
theorem dL_same_382 : decode cL_same 382 = .ok (.iadd, 1) := by decide +kernel
theorem dL_same_383 : decode cL_same 383 = .ok (.invokevirtual 70, 3) := by decide +kernel
theorem dL_same_386 : decode cL_same 386 = .ok (.aload 9, 2) := by decide +kernel
theorem dL_same_388 : decode cL_same 388 = .ok (.iload 10, 2) := by decide +kernel
theorem dL_same_390 : decode cL_same 390 = .ok (.iaload, 1) := by decide +kernel
theorem dL_same_391 : decode cL_same 391 = .ok (.if_icmp .eq 5, 3) := by decide +kernel
theorem dL_same_394 : decode cL_same 394 = .ok (.iconst 0, 1) := by decide +kernel
theorem dL_same_395 : decode cL_same 395 = .ok (.ireturn, 1) := by decide +kernel
theorem dL_same_396 : decode cL_same 396 = .ok (.iinc 10 1, 3) := by decide +kernel
theorem dL_same_399 : decode cL_same 399 = .ok (.goto (-27), 3) := by decide +kernel
theorem dL_same_402 : decode cL_same 402 = .ok (.aload_n 0, 1) := by decide +kernel
theorem dL_same_403 : decode cL_same 403 = .ok (.invokevirtual 73, 3) := by decide +kernel
theorem dL_same_406 : decode cL_same 406 = .ok (.lload 7, 2) := by decide +kernel
theorem dL_same_408 : decode cL_same 408 = .ok (.lcmp, 1) := by decide +kernel
theorem dL_same_409 : decode cL_same 409 = .ok (.ifCond .ne 30, 3) := by decide +kernel
theorem dL_same_412 : decode cL_same 412 = .ok (.aload_n 0, 1) := by decide +kernel
theorem dL_same_413 : decode cL_same 413 = .ok (.iconst 1, 1) := by decide +kernel
theorem dL_same_414 : decode cL_same 414 = .ok (.invokevirtual 70, 3) := by decide +kernel
theorem dL_same_417 : decode cL_same 417 = .ok (.aload_n 1, 1) := by decide +kernel
theorem dL_same_418 : decode cL_same 418 = .ok (.iconst 0, 1) := by decide +kernel
theorem dL_same_419 : decode cL_same 419 = .ok (.iaload, 1) := by decide +kernel
theorem dL_same_420 : decode cL_same 420 = .ok (.if_icmp .ne 19, 3) := by decide +kernel
theorem dL_same_423 : decode cL_same 423 = .ok (.aload_n 0, 1) := by decide +kernel
theorem dL_same_424 : decode cL_same 424 = .ok (.bipush 8, 2) := by decide +kernel
theorem dL_same_426 : decode cL_same 426 = .ok (.invokevirtual 70, 3) := by decide +kernel
theorem dL_same_429 : decode cL_same 429 = .ok (.aload_n 1, 1) := by decide +kernel
theorem dL_same_430 : decode cL_same 430 = .ok (.iconst 1, 1) := by decide +kernel
theorem dL_same_431 : decode cL_same 431 = .ok (.iaload, 1) := by decide +kernel
theorem dL_same_432 : decode cL_same 432 = .ok (.if_icmp .ne 7, 3) := by decide +kernel
theorem dL_same_435 : decode cL_same 435 = .ok (.iconst 1, 1) := by decide +kernel
theorem dL_same_436 : decode cL_same 436 = .ok (.goto 4, 3) := by decide +kernel
theorem dL_same_439 : decode cL_same 439 = .ok (.iconst 0, 1) := by decide +kernel
theorem dL_same_440 : decode cL_same 440 = .ok (.ireturn, 1) := by decide +kernel
set_option maxRecDepth 20000 in
theorem ggL_told_L_low : GoodIn wsL_told wsL_low := goodIn_r _ [4, 5] (by decide +kernel) (by decide +kernel)
set_option maxRecDepth 20000 in
theorem gL_told_L_low : GoodIn wsL_told (va_wsS RL 77 yL_low wsL_low) := goodIn_app (goodIn_of _ (by decide +kernel)) ggL_told_L_low
set_option maxRecDepth 20000 in
theorem ggL_told_L_place : GoodIn wsL_told wsL_place := goodIn_r _ [8] (by decide +kernel) (by decide +kernel)
set_option maxRecDepth 20000 in
theorem gL_told_L_place : GoodIn wsL_told (va_wsS RL 40 yL_place wsL_place) := goodIn_app (goodIn_of _ (by decide +kernel)) ggL_told_L_place
set_option maxRecDepth 20000 in
theorem ggL_told_X7_move : GoodIn wsL_told wsX7_move := goodIn_ca (goodIn_ca (goodIn_ca (goodIn_r _ [13, 14, 15, 16, 17, 18, 19, 20, 21, 22, 23, 24, 25, 26, 27, 28, 29, 30, 31, 32, 33, 12, 34, 35, 36, 37, 38, 39, 40, 41, 42, 43, 44, 45, 46, 47, 48, 49, 50, 51, 52, 53, 54, 55, 56, 57, 58, 59, 60, 61, 62, 63, 64, 65, 66, 67, 68, 69, 70, 71, 72, 73, 74, 75, 76, 77, 78, 79, 80, 81, 82, 83, 84, 85, 86, 87, 88, 89, 90, 91, 92, 93, 94, 95, 96, 97, 98, 99, 100, 101, 102, 103, 104, 105, 106, 107, 108, 109, 110, 111, 112, 113, 114, 115, 116, 117, 118, 119, 120, 121, 122, 123, 124, 125, 126, 127, 128, 129, 130, 131, 132, 133, 134, 135, 136, 137, 138, 139, 140, 141, 142, 143, 144, 145, 146, 147, 148, 149, 150, 151, 152, 153, 154, 155, 156] (by decide +kernel) (by decide +kernel)) (goodIn_sub (fun _ h => List.mem_cons_of_mem _ (List.mem_append_left _ (List.mem_append_left _ (List.mem_append_right _ h)))) (by decide +kernel))) (goodIn_sub (fun _ h => List.mem_cons_of_mem _ (List.mem_append_left _ (List.mem_append_right _ h))) (by decide +kernel))) (goodIn_sub (fun _ h => List.mem_cons_of_mem _ (List.mem_append_right _ h)) (by decide +kernel))
set_option maxRecDepth 20000 in
theorem gL_told_X7_move : GoodIn wsL_told (wsV RL 80 RX7 yX7_move wsX7_move) := goodIn_app (goodIn_of _ (by decide +kernel)) ggL_told_X7_move
theorem dL_told_0 : decode cL_told 0 = .ok (.aload_n 2, 1) := by decide +kernel
theorem dL_told_1 : decode cL_told 1 = .ok (.iconst 0, 1) := by decide +kernel
theorem dL_told_2 : decode cL_told 2 = .ok (.iaload, 1) := by decide +kernel
theorem dL_told_3 : decode cL_told 3 = .ok (.bipush 8, 2) := by decide +kernel
theorem dL_told_5 : decode cL_told 5 = .ok (.if_icmp .ne 5, 3) := by decide +kernel
theorem dL_told_8 : decode cL_told 8 = .ok (.iconst 1, 1) := by decide +kernel
theorem dL_told_9 : decode cL_told 9 = .ok (.ireturn, 1) := by decide +kernel
theorem dL_told_10 : decode cL_told 10 = .ok (.bipush 8, 2) := by decide +kernel
theorem dL_told_12 : decode cL_told 12 = .ok (.aload_n 2, 1) := by decide +kernel
theorem dL_told_13 : decode cL_told 13 = .ok (.iconst 0, 1) := by decide +kernel
theorem dL_told_14 : decode cL_told 14 = .ok (.iaload, 1) := by decide +kernel
theorem dL_told_15 : decode cL_told 15 = .ok (.imul, 1) := by decide +kernel
theorem dL_told_16 : decode cL_told 16 = .ok (.istore 6, 2) := by decide +kernel
theorem dL_told_18 : decode cL_told 18 = .ok (.aload 4, 2) := by decide +kernel
theorem dL_told_20 : decode cL_told 20 = .ok (.iload 6, 2) := by decide +kernel
theorem dL_told_22 : decode cL_told 22 = .ok (.iload_n 1, 1) := by decide +kernel
theorem dL_told_23 : decode cL_told 23 = .ok (.iconst 3, 1) := by decide +kernel
theorem dL_told_24 : decode cL_told 24 = .ok (.invokestatic 77, 3) := by decide +kernel
theorem dL_told_27 : decode cL_told 27 = .ok (.iastore, 1) := by decide +kernel
theorem dL_told_28 : decode cL_told 28 = .ok (.aload 4, 2) := by decide +kernel
theorem dL_told_30 : decode cL_told 30 = .ok (.iload 6, 2) := by decide +kernel
theorem dL_told_32 : decode cL_told 32 = .ok (.iconst 1, 1) := by decide +kernel
theorem dL_told_33 : decode cL_told 33 = .ok (.iadd, 1) := by decide +kernel
theorem dL_told_34 : decode cL_told 34 = .ok (.iload_n 1, 1) := by decide +kernel
theorem dL_told_35 : decode cL_told 35 = .ok (.iconst 2, 1) := by decide +kernel
theorem dL_told_36 : decode cL_told 36 = .ok (.ishr, 1) := by decide +kernel
theorem dL_told_37 : decode cL_told 37 = .ok (.bipush 20, 2) := by decide +kernel
theorem dL_told_39 : decode cL_told 39 = .ok (.invokestatic 77, 3) := by decide +kernel
theorem dL_told_42 : decode cL_told 42 = .ok (.iastore, 1) := by decide +kernel
theorem dL_told_43 : decode cL_told 43 = .ok (.aload 4, 2) := by decide +kernel
theorem dL_told_45 : decode cL_told 45 = .ok (.iload 6, 2) := by decide +kernel
theorem dL_told_47 : decode cL_told 47 = .ok (.iconst 2, 1) := by decide +kernel
theorem dL_told_48 : decode cL_told 48 = .ok (.iadd, 1) := by decide +kernel
theorem dL_told_49 : decode cL_told 49 = .ok (.iload_n 1, 1) := by decide +kernel
theorem dL_told_50 : decode cL_told 50 = .ok (.bipush 7, 2) := by decide +kernel
theorem dL_told_52 : decode cL_told 52 = .ok (.ishr, 1) := by decide +kernel
theorem dL_told_53 : decode cL_told 53 = .ok (.iconst 3, 1) := by decide +kernel
theorem dL_told_54 : decode cL_told 54 = .ok (.invokestatic 77, 3) := by decide +kernel
theorem dL_told_57 : decode cL_told 57 = .ok (.iastore, 1) := by decide +kernel
theorem dL_told_58 : decode cL_told 58 = .ok (.aload 4, 2) := by decide +kernel
theorem dL_told_60 : decode cL_told 60 = .ok (.iload 6, 2) := by decide +kernel
theorem dL_told_62 : decode cL_told 62 = .ok (.iconst 3, 1) := by decide +kernel
theorem dL_told_63 : decode cL_told 63 = .ok (.iadd, 1) := by decide +kernel
theorem dL_told_64 : decode cL_told 64 = .ok (.iload_n 1, 1) := by decide +kernel
theorem dL_told_65 : decode cL_told 65 = .ok (.bipush 9, 2) := by decide +kernel
theorem dL_told_67 : decode cL_told 67 = .ok (.ishr, 1) := by decide +kernel
theorem dL_told_68 : decode cL_told 68 = .ok (.bipush 20, 2) := by decide +kernel
theorem dL_told_70 : decode cL_told 70 = .ok (.invokestatic 77, 3) := by decide +kernel
theorem dL_told_73 : decode cL_told 73 = .ok (.iastore, 1) := by decide +kernel
theorem dL_told_74 : decode cL_told 74 = .ok (.aload_n 3, 1) := by decide +kernel
theorem dL_told_75 : decode cL_told 75 = .ok (.iconst 4, 1) := by decide +kernel
theorem dL_told_76 : decode cL_told 76 = .ok (.aload 4, 2) := by decide +kernel
theorem dL_told_78 : decode cL_told 78 = .ok (.iload 6, 2) := by decide +kernel
theorem dL_told_80 : decode cL_told 80 = .ok (.iaload, 1) := by decide +kernel
theorem dL_told_81 : decode cL_told 81 = .ok (.imul, 1) := by decide +kernel
theorem dL_told_82 : decode cL_told 82 = .ok (.iconst 1, 1) := by decide +kernel
theorem dL_told_83 : decode cL_told 83 = .ok (.iadd, 1) := by decide +kernel
theorem dL_told_84 : decode cL_told 84 = .ok (.iaload, 1) := by decide +kernel
theorem dL_told_85 : decode cL_told 85 = .ok (.aload_n 3, 1) := by decide +kernel
theorem dL_told_86 : decode cL_told 86 = .ok (.iconst 4, 1) := by decide +kernel
theorem dL_told_87 : decode cL_told 87 = .ok (.aload 4, 2) := by decide +kernel
theorem dL_told_89 : decode cL_told 89 = .ok (.iload 6, 2) := by decide +kernel
theorem dL_told_91 : decode cL_told 91 = .ok (.iconst 2, 1) := by decide +kernel
theorem dL_told_92 : decode cL_told 92 = .ok (.iadd, 1) := by decide +kernel
theorem dL_told_93 : decode cL_told 93 = .ok (.iaload, 1) := by decide +kernel
theorem dL_told_94 : decode cL_told 94 = .ok (.imul, 1) := by decide +kernel
theorem dL_told_95 : decode cL_told 95 = .ok (.iconst 1, 1) := by decide +kernel
theorem dL_told_96 : decode cL_told 96 = .ok (.iadd, 1) := by decide +kernel
theorem dL_told_97 : decode cL_told 97 = .ok (.iaload, 1) := by decide +kernel
theorem dL_told_98 : decode cL_told 98 = .ok (.if_icmp .ge 17, 3) := by decide +kernel
theorem dL_told_101 : decode cL_told 101 = .ok (.aload_n 3, 1) := by decide +kernel
theorem dL_told_102 : decode cL_told 102 = .ok (.iconst 4, 1) := by decide +kernel
theorem dL_told_103 : decode cL_told 103 = .ok (.aload 4, 2) := by decide +kernel
theorem dL_told_105 : decode cL_told 105 = .ok (.iload 6, 2) := by decide +kernel
theorem dL_told_107 : decode cL_told 107 = .ok (.iaload, 1) := by decide +kernel
theorem dL_told_108 : decode cL_told 108 = .ok (.imul, 1) := by decide +kernel
theorem dL_told_109 : decode cL_told 109 = .ok (.iconst 1, 1) := by decide +kernel
theorem dL_told_110 : decode cL_told 110 = .ok (.iadd, 1) := by decide +kernel
theorem dL_told_111 : decode cL_told 111 = .ok (.iaload, 1) := by decide +kernel
theorem dL_told_112 : decode cL_told 112 = .ok (.goto 16, 3) := by decide +kernel
theorem dL_told_115 : decode cL_told 115 = .ok (.aload_n 3, 1) := by decide +kernel
theorem dL_told_116 : decode cL_told 116 = .ok (.iconst 4, 1) := by decide +kernel
theorem dL_told_117 : decode cL_told 117 = .ok (.aload 4, 2) := by decide +kernel
theorem dL_told_119 : decode cL_told 119 = .ok (.iload 6, 2) := by decide +kernel
theorem dL_told_121 : decode cL_told 121 = .ok (.iconst 2, 1) := by decide +kernel
theorem dL_told_122 : decode cL_told 122 = .ok (.iadd, 1) := by decide +kernel
theorem dL_told_123 : decode cL_told 123 = .ok (.iaload, 1) := by decide +kernel
theorem dL_told_124 : decode cL_told 124 = .ok (.imul, 1) := by decide +kernel
theorem dL_told_125 : decode cL_told 125 = .ok (.iconst 1, 1) := by decide +kernel
theorem dL_told_126 : decode cL_told 126 = .ok (.iadd, 1) := by decide +kernel
theorem dL_told_127 : decode cL_told 127 = .ok (.iaload, 1) := by decide +kernel
theorem dL_told_128 : decode cL_told 128 = .ok (.istore 7, 2) := by decide +kernel
theorem dL_told_130 : decode cL_told 130 = .ok (.aload 4, 2) := by decide +kernel
theorem dL_told_132 : decode cL_told 132 = .ok (.iload 6, 2) := by decide +kernel
theorem dL_told_134 : decode cL_told 134 = .ok (.iconst 4, 1) := by decide +kernel
theorem dL_told_135 : decode cL_told 135 = .ok (.iadd, 1) := by decide +kernel
theorem dL_told_136 : decode cL_told 136 = .ok (.iconst 1, 1) := by decide +kernel
theorem dL_told_137 : decode cL_told 137 = .ok (.iload_n 1, 1) := by decide +kernel
theorem dL_told_138 : decode cL_told 138 = .ok (.bipush 14, 2) := by decide +kernel
theorem dL_told_140 : decode cL_told 140 = .ok (.ishr, 1) := by decide +kernel
theorem dL_told_141 : decode cL_told 141 = .ok (.iload 7, 2) := by decide +kernel
theorem dL_told_143 : decode cL_told 143 = .ok (.invokestatic 77, 3) := by decide +kernel
theorem dL_told_146 : decode cL_told 146 = .ok (.iadd, 1) := by decide +kernel
theorem dL_told_147 : decode cL_told 147 = .ok (.iastore, 1) := by decide +kernel
theorem dL_told_148 : decode cL_told 148 = .ok (.aload 4, 2) := by decide +kernel
theorem dL_told_150 : decode cL_told 150 = .ok (.iload 6, 2) := by decide +kernel
theorem dL_told_152 : decode cL_told 152 = .ok (.iconst 5, 1) := by decide +kernel
theorem dL_told_153 : decode cL_told 153 = .ok (.iadd, 1) := by decide +kernel
theorem dL_told_154 : decode cL_told 154 = .ok (.iconst 0, 1) := by decide +kernel
theorem dL_told_155 : decode cL_told 155 = .ok (.iastore, 1) := by decide +kernel
theorem dL_told_156 : decode cL_told 156 = .ok (.aload 4, 2) := by decide +kernel
theorem dL_told_158 : decode cL_told 158 = .ok (.iload 6, 2) := by decide +kernel
theorem dL_told_160 : decode cL_told 160 = .ok (.bipush 6, 2) := by decide +kernel
theorem dL_told_162 : decode cL_told 162 = .ok (.iadd, 1) := by decide +kernel
theorem dL_told_163 : decode cL_told 163 = .ok (.iconst 0, 1) := by decide +kernel
theorem dL_told_164 : decode cL_told 164 = .ok (.iastore, 1) := by decide +kernel
theorem dL_told_165 : decode cL_told 165 = .ok (.aload 5, 2) := by decide +kernel
theorem dL_told_167 : decode cL_told 167 = .ok (.iconst 2, 1) := by decide +kernel
theorem dL_told_168 : decode cL_told 168 = .ok (.aload_n 2, 1) := by decide +kernel
theorem dL_told_169 : decode cL_told 169 = .ok (.iconst 0, 1) := by decide +kernel
theorem dL_told_170 : decode cL_told 170 = .ok (.iaload, 1) := by decide +kernel
theorem dL_told_171 : decode cL_told 171 = .ok (.imul, 1) := by decide +kernel
theorem dL_told_172 : decode cL_told 172 = .ok (.lconst 0, 1) := by decide +kernel
theorem dL_told_173 : decode cL_told 173 = .ok (.lastore, 1) := by decide +kernel
theorem dL_told_174 : decode cL_told 174 = .ok (.aload 5, 2) := by decide +kernel
theorem dL_told_176 : decode cL_told 176 = .ok (.iconst 2, 1) := by decide +kernel
theorem dL_told_177 : decode cL_told 177 = .ok (.aload_n 2, 1) := by decide +kernel
theorem dL_told_178 : decode cL_told 178 = .ok (.iconst 0, 1) := by decide +kernel
theorem dL_told_179 : decode cL_told 179 = .ok (.iaload, 1) := by decide +kernel
theorem dL_told_180 : decode cL_told 180 = .ok (.imul, 1) := by decide +kernel
theorem dL_told_181 : decode cL_told 181 = .ok (.iconst 1, 1) := by decide +kernel
theorem dL_told_182 : decode cL_told 182 = .ok (.iadd, 1) := by decide +kernel
theorem dL_told_183 : decode cL_told 183 = .ok (.lconst 0, 1) := by decide +kernel
theorem dL_told_184 : decode cL_told 184 = .ok (.lastore, 1) := by decide +kernel
theorem dL_told_185 : decode cL_told 185 = .ok (.iconst 0, 1) := by decide +kernel
theorem dL_told_186 : decode cL_told 186 = .ok (.istore 8, 2) := by decide +kernel
theorem dL_told_188 : decode cL_told 188 = .ok (.iload 8, 2) := by decide +kernel
theorem dL_told_190 : decode cL_told 190 = .ok (.aload 4, 2) := by decide +kernel
theorem dL_told_192 : decode cL_told 192 = .ok (.iload 6, 2) := by decide +kernel
theorem dL_told_194 : decode cL_told 194 = .ok (.iconst 4, 1) := by decide +kernel
theorem dL_told_195 : decode cL_told 195 = .ok (.iadd, 1) := by decide +kernel
theorem dL_told_196 : decode cL_told 196 = .ok (.iaload, 1) := by decide +kernel
theorem dL_told_197 : decode cL_told 197 = .ok (.if_icmp .ge 77, 3) := by decide +kernel
theorem dL_told_200 : decode cL_told 200 = .ok (.aload 5, 2) := by decide +kernel
theorem dL_told_202 : decode cL_told 202 = .ok (.iconst 2, 1) := by decide +kernel
theorem dL_told_203 : decode cL_told 203 = .ok (.aload_n 2, 1) := by decide +kernel
theorem dL_told_204 : decode cL_told 204 = .ok (.iconst 0, 1) := by decide +kernel
theorem dL_told_205 : decode cL_told 205 = .ok (.iaload, 1) := by decide +kernel
theorem dL_told_206 : decode cL_told 206 = .ok (.imul, 1) := by decide +kernel
theorem dL_told_207 : decode cL_told 207 = .ok (.dup2, 1) := by decide +kernel
theorem dL_told_208 : decode cL_told 208 = .ok (.laload, 1) := by decide +kernel
theorem dL_told_209 : decode cL_told 209 = .ok (.lconst 1, 1) := by decide +kernel
theorem dL_told_210 : decode cL_told 210 = .ok (.aload 4, 2) := by decide +kernel
theorem dL_told_212 : decode cL_told 212 = .ok (.iload 6, 2) := by decide +kernel
theorem dL_told_214 : decode cL_told 214 = .ok (.iaload, 1) := by decide +kernel
theorem dL_told_215 : decode cL_told 215 = .ok (.aload 4, 2) := by decide +kernel
theorem dL_told_217 : decode cL_told 217 = .ok (.iload 6, 2) := by decide +kernel
theorem dL_told_219 : decode cL_told 219 = .ok (.iconst 1, 1) := by decide +kernel
theorem dL_told_220 : decode cL_told 220 = .ok (.iadd, 1) := by decide +kernel
theorem dL_told_221 : decode cL_told 221 = .ok (.iaload, 1) := by decide +kernel
theorem dL_told_222 : decode cL_told 222 = .ok (.iload 8, 2) := by decide +kernel
theorem dL_told_224 : decode cL_told 224 = .ok (.iadd, 1) := by decide +kernel
theorem dL_told_225 : decode cL_told 225 = .ok (.aload_n 3, 1) := by decide +kernel
theorem dL_told_226 : decode cL_told 226 = .ok (.invokestatic 40, 3) := by decide +kernel
theorem dL_told_229 : decode cL_told 229 = .ok (.lshl, 1) := by decide +kernel
theorem dL_told_230 : decode cL_told 230 = .ok (.lor, 1) := by decide +kernel
theorem dL_told_231 : decode cL_told 231 = .ok (.lastore, 1) := by decide +kernel
theorem dL_told_232 : decode cL_told 232 = .ok (.aload 5, 2) := by decide +kernel
theorem dL_told_234 : decode cL_told 234 = .ok (.iconst 2, 1) := by decide +kernel
theorem dL_told_235 : decode cL_told 235 = .ok (.aload_n 2, 1) := by decide +kernel
theorem dL_told_236 : decode cL_told 236 = .ok (.iconst 0, 1) := by decide +kernel
theorem dL_told_237 : decode cL_told 237 = .ok (.iaload, 1) := by decide +kernel
theorem dL_told_238 : decode cL_told 238 = .ok (.imul, 1) := by decide +kernel
theorem dL_told_239 : decode cL_told 239 = .ok (.iconst 1, 1) := by decide +kernel
theorem dL_told_240 : decode cL_told 240 = .ok (.iadd, 1) := by decide +kernel
theorem dL_told_241 : decode cL_told 241 = .ok (.dup2, 1) := by decide +kernel
theorem dL_told_242 : decode cL_told 242 = .ok (.laload, 1) := by decide +kernel
theorem dL_told_243 : decode cL_told 243 = .ok (.lconst 1, 1) := by decide +kernel
theorem dL_told_244 : decode cL_told 244 = .ok (.aload 4, 2) := by decide +kernel
theorem dL_told_246 : decode cL_told 246 = .ok (.iload 6, 2) := by decide +kernel
theorem dL_told_248 : decode cL_told 248 = .ok (.iconst 2, 1) := by decide +kernel
theorem dL_told_249 : decode cL_told 249 = .ok (.iadd, 1) := by decide +kernel
theorem dL_told_250 : decode cL_told 250 = .ok (.iaload, 1) := by decide +kernel
theorem dL_told_251 : decode cL_told 251 = .ok (.aload 4, 2) := by decide +kernel
theorem dL_told_253 : decode cL_told 253 = .ok (.iload 6, 2) := by decide +kernel
theorem dL_told_255 : decode cL_told 255 = .ok (.iconst 3, 1) := by decide +kernel
theorem dL_told_256 : decode cL_told 256 = .ok (.iadd, 1) := by decide +kernel
theorem dL_told_257 : decode cL_told 257 = .ok (.iaload, 1) := by decide +kernel
theorem dL_told_258 : decode cL_told 258 = .ok (.iload 8, 2) := by decide +kernel
theorem dL_told_260 : decode cL_told 260 = .ok (.iadd, 1) := by decide +kernel
theorem dL_told_261 : decode cL_told 261 = .ok (.aload_n 3, 1) := by decide +kernel
theorem dL_told_262 : decode cL_told 262 = .ok (.invokestatic 40, 3) := by decide +kernel
theorem dL_told_265 : decode cL_told 265 = .ok (.lshl, 1) := by decide +kernel
theorem dL_told_266 : decode cL_told 266 = .ok (.lor, 1) := by decide +kernel
theorem dL_told_267 : decode cL_told 267 = .ok (.lastore, 1) := by decide +kernel
theorem dL_told_268 : decode cL_told 268 = .ok (.iinc 8 1, 3) := by decide +kernel
theorem dL_told_271 : decode cL_told 271 = .ok (.goto (-83), 3) := by decide +kernel
theorem dL_told_274 : decode cL_told 274 = .ok (.aload_n 2, 1) := by decide +kernel
theorem dL_told_275 : decode cL_told 275 = .ok (.iconst 0, 1) := by decide +kernel
theorem dL_told_276 : decode cL_told 276 = .ok (.dup2, 1) := by decide +kernel
theorem dL_told_277 : decode cL_told 277 = .ok (.iaload, 1) := by decide +kernel
theorem dL_told_278 : decode cL_told 278 = .ok (.iconst 1, 1) := by decide +kernel
theorem dL_told_279 : decode cL_told 279 = .ok (.iadd, 1) := by decide +kernel
theorem dL_told_280 : decode cL_told 280 = .ok (.iastore, 1) := by decide +kernel
theorem dL_told_281 : decode cL_told 281 = .ok (.aload_n 0, 1) := by decide +kernel
theorem dL_told_282 : decode cL_told 282 = .ok (.aload 4, 2) := by decide +kernel
theorem dL_told_284 : decode cL_told 284 = .ok (.iload 6, 2) := by decide +kernel
theorem dL_told_286 : decode cL_told 286 = .ok (.iaload, 1) := by decide +kernel
theorem dL_told_287 : decode cL_told 287 = .ok (.aload 4, 2) := by decide +kernel
theorem dL_told_289 : decode cL_told 289 = .ok (.iload 6, 2) := by decide +kernel
theorem dL_told_291 : decode cL_told 291 = .ok (.iconst 1, 1) := by decide +kernel
theorem dL_told_292 : decode cL_told 292 = .ok (.iadd, 1) := by decide +kernel
theorem dL_told_293 : decode cL_told 293 = .ok (.iaload, 1) := by decide +kernel
theorem dL_told_294 : decode cL_told 294 = .ok (.aload 4, 2) := by decide +kernel
theorem dL_told_296 : decode cL_told 296 = .ok (.iload 6, 2) := by decide +kernel
theorem dL_told_298 : decode cL_told 298 = .ok (.iconst 2, 1) := by decide +kernel
theorem dL_told_299 : decode cL_told 299 = .ok (.iadd, 1) := by decide +kernel
theorem dL_told_300 : decode cL_told 300 = .ok (.iaload, 1) := by decide +kernel
theorem dL_told_301 : decode cL_told 301 = .ok (.aload 4, 2) := by decide +kernel
theorem dL_told_303 : decode cL_told 303 = .ok (.iload 6, 2) := by decide +kernel
theorem dL_told_305 : decode cL_told 305 = .ok (.iconst 3, 1) := by decide +kernel
theorem dL_told_306 : decode cL_told 306 = .ok (.iadd, 1) := by decide +kernel
theorem dL_told_307 : decode cL_told 307 = .ok (.iaload, 1) := by decide +kernel
theorem dL_told_308 : decode cL_told 308 = .ok (.aload 4, 2) := by decide +kernel
theorem dL_told_310 : decode cL_told 310 = .ok (.iload 6, 2) := by decide +kernel
theorem dL_told_312 : decode cL_told 312 = .ok (.iconst 4, 1) := by decide +kernel
theorem dL_told_313 : decode cL_told 313 = .ok (.iadd, 1) := by decide +kernel
theorem dL_told_314 : decode cL_told 314 = .ok (.iaload, 1) := by decide +kernel
theorem dL_told_315 : decode cL_told 315 = .ok (.invokevirtual 80, 3) := by decide +kernel
theorem dL_told_318 : decode cL_told 318 = .ok (.aload_n 2, 1) := by decide +kernel
theorem dL_told_319 : decode cL_told 319 = .ok (.iconst 0, 1) := by decide +kernel
theorem dL_told_320 : decode cL_told 320 = .ok (.iaload, 1) := by decide +kernel
theorem dL_told_321 : decode cL_told 321 = .ok (.iconst 1, 1) := by decide +kernel
theorem dL_told_322 : decode cL_told 322 = .ok (.isub, 1) := by decide +kernel
theorem dL_told_323 : decode cL_told 323 = .ok (.if_icmp .ne 7, 3) := by decide +kernel
theorem dL_told_326 : decode cL_told 326 = .ok (.iconst 1, 1) := by decide +kernel
theorem dL_told_327 : decode cL_told 327 = .ok (.goto 4, 3) := by decide +kernel
theorem dL_told_330 : decode cL_told 330 = .ok (.iconst 0, 1) := by decide +kernel
theorem dL_told_331 : decode cL_told 331 = .ok (.ireturn, 1) := by decide +kernel
