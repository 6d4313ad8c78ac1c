set_option maxRecDepth 20000 in
theorem ggL_addRing_X7_addRing : GoodIn wsL_addRing wsX7_addRing := goodIn_ca (goodIn_ca (goodIn_ca (goodIn_r _ [8, 9, 10, 11, 12, 13, 14, 15, 16, 17, 7, 18, 19, 20, 21, 22, 23, 24, 25, 26, 27, 28, 29, 30, 31, 32, 33, 34, 35, 36, 37, 38, 39, 40, 41, 42, 43, 44, 45, 46, 47, 48, 49, 50, 51, 52, 53, 54, 55, 56, 57, 58, 59, 60, 61, 62, 63, 64, 65, 66, 67, 68, 69, 70, 71, 72, 73, 74, 75, 76, 77, 78, 79, 80, 81, 82, 83, 84, 85, 86, 87, 88, 89, 90, 91, 92, 93, 94, 95, 96, 97, 98, 99, 100, 101, 102, 103, 104, 105, 106, 107, 108, 109, 110, 111, 112, 113, 114, 115, 116, 117, 118, 119, 120, 121, 122, 123, 124, 125, 126, 127, 128, 129, 130, 131, 132, 133, 134, 135, 136] (by decide +kernel) (by decide +kernel)) (goodIn_sub (fun _ h => List.mem_cons_of_mem _ (List.mem_append_left _ (List.mem_append_left _ (List.mem_append_right _ h)))) (by decide +kernel))) (goodIn_sub (fun _ h => List.mem_cons_of_mem _ (List.mem_append_left _ (List.mem_append_right _ h))) (by decide +kernel))) (goodIn_sub (fun _ h => List.mem_cons_of_mem _ (List.mem_append_right _ h)) (by decide +kernel))
set_option maxRecDepth 20000 in
theorem gL_addRing_X7_addRing : GoodIn wsL_addRing (wsV RL 7 RX7 yX7_addRing wsX7_addRing) := goodIn_app (goodIn_of _ (by decide +kernel)) ggL_addRing_X7_addRing
theorem dL_addRing_0 : decode cL_addRing 0 = .ok (.aload 4, 2) := by decide +kernel
theorem dL_addRing_2 : decode cL_addRing 2 = .ok (.iconst 0, 1) := by decide +kernel
theorem dL_addRing_3 : decode cL_addRing 3 = .ok (.aload_n 0, 1) := by decide +kernel
theorem dL_addRing_4 : decode cL_addRing 4 = .ok (.iload_n 1, 1) := by decide +kernel
theorem dL_addRing_5 : decode cL_addRing 5 = .ok (.iload_n 2, 1) := by decide +kernel
theorem dL_addRing_6 : decode cL_addRing 6 = .ok (.iload_n 3, 1) := by decide +kernel
theorem dL_addRing_7 : decode cL_addRing 7 = .ok (.invokevirtual 7, 3) := by decide +kernel
theorem dL_addRing_10 : decode cL_addRing 10 = .ok (.i2l, 1) := by decide +kernel
theorem dL_addRing_11 : decode cL_addRing 11 = .ok (.lastore, 1) := by decide +kernel
theorem dL_addRing_12 : decode cL_addRing 12 = .ok (.goto 15, 3) := by decide +kernel
theorem dL_addRing_15 : decode cL_addRing 15 = .ok (.astore 5, 2) := by decide +kernel
theorem dL_addRing_17 : decode cL_addRing 17 = .ok (.iconst 1, 1) := by decide +kernel
theorem dL_addRing_18 : decode cL_addRing 18 = .ok (.ireturn, 1) := by decide +kernel
theorem dL_addRing_19 : decode cL_addRing 19 = .ok (.astore 5, 2) := by decide +kernel
theorem dL_addRing_21 : decode cL_addRing 21 = .ok (.iconst 2, 1) := by decide +kernel
theorem dL_addRing_22 : decode cL_addRing 22 = .ok (.ireturn, 1) := by decide +kernel
theorem dL_addRing_23 : decode cL_addRing 23 = .ok (.astore 5, 2) := by decide +kernel
theorem dL_addRing_25 : decode cL_addRing 25 = .ok (.iconst 3, 1) := by decide +kernel
theorem dL_addRing_26 : decode cL_addRing 26 = .ok (.ireturn, 1) := by decide +kernel
theorem dL_addRing_27 : decode cL_addRing 27 = .ok (.iconst 0, 1) := by decide +kernel
theorem dL_addRing_28 : decode cL_addRing 28 = .ok (.ireturn, 1) := by decide +kernel
set_option maxRecDepth 20000 in
theorem ggL_cell_X7_cell : GoodIn wsL_cell wsX7_cell := goodIn_ca (goodIn_r _ [6, 7, 8, 9, 10, 5, 11, 12, 13, 14, 15, 16, 17, 18, 19, 20, 21, 22, 23, 24, 25, 26, 27, 28, 29, 30, 31, 32, 33, 34, 35] (by decide +kernel) (by decide +kernel)) (goodIn_sub (fun _ h => List.mem_cons_of_mem _ (List.mem_append_right _ h)) (by decide +kernel))
set_option maxRecDepth 20000 in
theorem gL_cell_X7_cell : GoodIn wsL_cell (wsV RL 44 RX7 yX7_cell wsX7_cell) := goodIn_app (goodIn_of _ (by decide +kernel)) ggL_cell_X7_cell
theorem dL_cell_0 : decode cL_cell 0 = .ok (.aload_n 2, 1) := by decide +kernel
theorem dL_cell_1 : decode cL_cell 1 = .ok (.iconst 0, 1) := by decide +kernel
theorem dL_cell_2 : decode cL_cell 2 = .ok (.aload_n 0, 1) := by decide +kernel
theorem dL_cell_3 : decode cL_cell 3 = .ok (.iload_n 1, 1) := by decide +kernel
theorem dL_cell_4 : decode cL_cell 4 = .ok (.invokevirtual 44, 3) := by decide +kernel
theorem dL_cell_7 : decode cL_cell 7 = .ok (.i2l, 1) := by decide +kernel
theorem dL_cell_8 : decode cL_cell 8 = .ok (.lastore, 1) := by decide +kernel
theorem dL_cell_9 : decode cL_cell 9 = .ok (.goto 6, 3) := by decide +kernel
theorem dL_cell_12 : decode cL_cell 12 = .ok (.astore_n 3, 1) := by decide +kernel
theorem dL_cell_13 : decode cL_cell 13 = .ok (.iconst 1, 1) := by decide +kernel
theorem dL_cell_14 : decode cL_cell 14 = .ok (.ireturn, 1) := by decide +kernel
theorem dL_cell_15 : decode cL_cell 15 = .ok (.iconst 0, 1) := by decide +kernel
theorem dL_cell_16 : decode cL_cell 16 = .ok (.ireturn, 1) := by decide +kernel
set_option maxRecDepth 20000 in
theorem ggL_cellSet_X7_cellSet : GoodIn wsL_cellSet wsX7_cellSet := goodIn_ca (goodIn_r _ [6, 7, 8, 9, 10, 11, 12, 13, 5, 14, 15, 16, 17, 18, 19, 20, 21, 22, 23, 24, 25, 26, 27, 28, 29, 30, 31, 32, 33, 34, 35, 36, 37, 38, 39, 40, 41, 42, 43, 44, 45, 46] (by decide +kernel) (by decide +kernel)) (goodIn_sub (fun _ h => List.mem_cons_of_mem _ (List.mem_append_right _ h)) (by decide +kernel))
set_option maxRecDepth 20000 in
theorem gL_cellSet_X7_cellSet : GoodIn wsL_cellSet (wsV RL 56 RX7 yX7_cellSet wsX7_cellSet) := goodIn_app (goodIn_of _ (by decide +kernel)) ggL_cellSet_X7_cellSet
theorem dL_cellSet_0 : decode cL_cellSet 0 = .ok (.aload_n 3, 1) := by decide +kernel
theorem dL_cellSet_1 : decode cL_cellSet 1 = .ok (.iconst 0, 1) := by decide +kernel
theorem dL_cellSet_2 : decode cL_cellSet 2 = .ok (.aload_n 0, 1) := by decide +kernel
theorem dL_cellSet_3 : decode cL_cellSet 3 = .ok (.iload_n 1, 1) := by decide +kernel
theorem dL_cellSet_4 : decode cL_cellSet 4 = .ok (.iload_n 2, 1) := by decide +kernel
theorem dL_cellSet_5 : decode cL_cellSet 5 = .ok (.invokevirtual 56, 3) := by decide +kernel
theorem dL_cellSet_8 : decode cL_cellSet 8 = .ok (.lastore, 1) := by decide +kernel
theorem dL_cellSet_9 : decode cL_cellSet 9 = .ok (.goto 7, 3) := by decide +kernel
theorem dL_cellSet_12 : decode cL_cellSet 12 = .ok (.astore 4, 2) := by decide +kernel
theorem dL_cellSet_14 : decode cL_cellSet 14 = .ok (.iconst 1, 1) := by decide +kernel
theorem dL_cellSet_15 : decode cL_cellSet 15 = .ok (.ireturn, 1) := by decide +kernel
theorem dL_cellSet_16 : decode cL_cellSet 16 = .ok (.iconst 0, 1) := by decide +kernel
theorem dL_cellSet_17 : decode cL_cellSet 17 = .ok (.ireturn, 1) := by decide +kernel
