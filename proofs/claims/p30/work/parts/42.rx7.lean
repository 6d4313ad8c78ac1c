set_option maxRecDepth 20000 in
theorem ggX7_init_X5_init : GoodIn wsX7_init wsX5_init := goodIn_r _ [19, 20, 2, 3, 21, 22, 23, 24, 25, 26, 27, 28, 29, 30, 31, 32, 33, 34, 35, 36, 37, 38, 39, 40, 57, 58, 59, 60, 61, 62, 63, 64, 65, 66, 67, 68, 82, 83, 84, 85, 86, 87, 88, 89, 90, 91, 92, 93, 94, 95, 96, 97, 98] (by decide +kernel) (by decide +kernel)
set_option maxRecDepth 20000 in
theorem gX7_init_X5_init : GoodIn wsX7_init (wsX5_init) := ggX7_init_X5_init
set_option maxRecDepth 20000 in
theorem ggX7_init_X2_init : GoodIn wsX7_init wsX2_init := goodIn_r _ [43, 44, 2, 3, 45, 46, 5, 6, 47, 18, 19, 20, 21, 22, 23, 24, 25, 26, 27, 28, 29, 30, 31, 32, 33, 34, 35, 36, 37, 38, 39, 40, 73, 74, 75, 57, 58, 59, 60, 61, 62, 63, 64, 65, 66, 67, 68, 82, 83, 84, 85, 86, 87, 88, 89, 90, 91, 92, 93, 94, 95, 96, 97, 98] (by decide +kernel) (by decide +kernel)
set_option maxRecDepth 20000 in
theorem gX7_init_X2_init : GoodIn wsX7_init (wsX2_init) := ggX7_init_X2_init
set_option maxRecDepth 20000 in
theorem ggX7_init_X1_init : GoodIn wsX7_init wsX1_init := goodIn_r _ [49, 50, 2, 3, 51, 52, 21, 53, 54, 55, 56, 76, 77, 78, 79, 80, 81] (by decide +kernel) (by decide +kernel)
set_option maxRecDepth 20000 in
theorem gX7_init_X1_init_n28 : GoodIn wsX7_init (wsX1_init) := ggX7_init_X1_init
theorem dX7_init_0 : decode cX7_init 0 = .ok (.aload_n 0, 1) := by decide +kernel
theorem dX7_init_1 : decode cX7_init 1 = .ok (.invokespecial 1, 3) := by decide +kernel
theorem dX7_init_4 : decode cX7_init 4 = .ok (.aload_n 0, 1) := by decide +kernel
theorem dX7_init_5 : decode cX7_init 5 = .ok (.new 7, 3) := by decide +kernel
theorem dX7_init_8 : decode cX7_init 8 = .ok (.dup, 1) := by decide +kernel
theorem dX7_init_9 : decode cX7_init 9 = .ok (.invokespecial 9, 3) := by decide +kernel
theorem dX7_init_12 : decode cX7_init 12 = .ok (.putfield 10, 3) := by decide +kernel
theorem dX7_init_15 : decode cX7_init 15 = .ok (.aload_n 0, 1) := by decide +kernel
theorem dX7_init_16 : decode cX7_init 16 = .ok (.new 7, 3) := by decide +kernel
theorem dX7_init_19 : decode cX7_init 19 = .ok (.dup, 1) := by decide +kernel
theorem dX7_init_20 : decode cX7_init 20 = .ok (.invokespecial 9, 3) := by decide +kernel
theorem dX7_init_23 : decode cX7_init 23 = .ok (.putfield 16, 3) := by decide +kernel
theorem dX7_init_26 : decode cX7_init 26 = .ok (.aload_n 0, 1) := by decide +kernel
theorem dX7_init_27 : decode cX7_init 27 = .ok (.new 19, 3) := by decide +kernel
theorem dX7_init_30 : decode cX7_init 30 = .ok (.dup, 1) := by decide +kernel
theorem dX7_init_31 : decode cX7_init 31 = .ok (.invokespecial 21, 3) := by decide +kernel
theorem dX7_init_34 : decode cX7_init 34 = .ok (.putfield 22, 3) := by decide +kernel
theorem dX7_init_37 : decode cX7_init 37 = .ok (.aload_n 0, 1) := by decide +kernel
theorem dX7_init_38 : decode cX7_init 38 = .ok (.new 26, 3) := by decide +kernel
theorem dX7_init_41 : decode cX7_init 41 = .ok (.dup, 1) := by decide +kernel
theorem dX7_init_42 : decode cX7_init 42 = .ok (.invokespecial 28, 3) := by decide +kernel
theorem dX7_init_45 : decode cX7_init 45 = .ok (.putfield 29, 3) := by decide +kernel
theorem dX7_init_48 : decode cX7_init 48 = .ok (.return_, 1) := by decide +kernel
set_option maxRecDepth 20000 in
theorem ggX7_addRing_X5_ringRefusal : GoodIn wsX7_addRing wsX5_ringRefusal := goodIn_r _ [7, 8, 9, 10, 11, 12, 13, 14, 15, 16, 17, 6, 18, 19, 20, 21, 98, 99, 100, 101, 102, 103, 104, 105, 106, 107, 108, 109, 110, 111, 112, 113] (by decide +kernel) (by decide +kernel)
set_option maxRecDepth 20000 in
theorem gX7_addRing_X5_ringRefusal : GoodIn wsX7_addRing (wsV RX7 33 RX5 yX5_ringRefusal wsX5_ringRefusal) := goodIn_app (goodIn_of _ (by decide +kernel)) ggX7_addRing_X5_ringRefusal
set_option maxRecDepth 20000 in
theorem ggX7_addRing_X7_refuse : GoodIn wsX7_addRing wsX7_refuse := goodIn_ca (goodIn_ca (goodIn_ca (goodIn_r _ [24, 25, 26, 27, 28, 29, 30] (by decide +kernel) (by decide +kernel)) (goodIn_sub (fun _ h => List.mem_cons_of_mem _ (List.mem_append_left _ (List.mem_append_left _ (List.mem_append_right _ h)))) (by decide +kernel))) (goodIn_sub (fun _ h => List.mem_cons_of_mem _ (List.mem_append_left _ (List.mem_append_right _ h))) (by decide +kernel))) (goodIn_sub (fun _ h => List.mem_cons_of_mem _ (List.mem_append_right _ h)) (by decide +kernel))
set_option maxRecDepth 20000 in
theorem gX7_addRing_X7_refuse : GoodIn wsX7_addRing (va_wsS RX7 37 yX7_refuse wsX7_refuse) := goodIn_app (goodIn_of _ (by decide +kernel)) ggX7_addRing_X7_refuse
set_option maxRecDepth 20000 in
theorem ggX7_addRing_X2_save : GoodIn wsX7_addRing wsX2_save := goodIn_r _ [35, 36, 37, 38, 39, 40, 41, 42, 43, 44, 45, 6, 46, 47, 48, 49, 50, 51, 8, 19, 52, 53, 54, 55, 56, 57, 58, 59, 60, 61, 62, 63, 64, 65, 66, 67, 68, 69, 70, 71, 72, 73, 74, 75, 76, 77, 78, 79, 80, 81, 82, 83, 84, 85, 86, 87, 114, 115, 116, 98, 99, 100, 101, 102, 103, 104, 105, 106, 107, 108, 109, 110, 111, 112, 113, 117, 118, 119, 120, 121, 122, 123, 124, 125, 126, 127, 128, 129] (by decide +kernel) (by decide +kernel)
set_option maxRecDepth 20000 in
theorem gX7_addRing_X2_save : GoodIn wsX7_addRing (wsV RX7 41 RX2 yX2_save wsX2_save) := goodIn_app (goodIn_of _ (by decide +kernel)) ggX7_addRing_X2_save
set_option maxRecDepth 20000 in
theorem ggX7_addRing_X5_putRing : GoodIn wsX7_addRing wsX5_putRing := goodIn_r _ [91, 19, 8, 20, 21, 92, 93, 98, 99, 100, 101, 102, 103, 104, 105, 106, 107, 108, 109, 110, 111, 112, 113] (by decide +kernel) (by decide +kernel)
set_option maxRecDepth 20000 in
theorem gX7_addRing_X5_putRing : GoodIn wsX7_addRing (wsV RX7 45 RX5 yX5_putRing wsX5_putRing) := goodIn_app (goodIn_of _ (by decide +kernel)) ggX7_addRing_X5_putRing
theorem dX7_addRing_0 : decode cX7_addRing 0 = .ok (.aload_n 0, 1) := by decide +kernel
theorem dX7_addRing_1 : decode cX7_addRing 1 = .ok (.getfield 10, 3) := by decide +kernel
theorem dX7_addRing_4 : decode cX7_addRing 4 = .ok (.iload_n 1, 1) := by decide +kernel
theorem dX7_addRing_5 : decode cX7_addRing 5 = .ok (.iload_n 2, 1) := by decide +kernel
theorem dX7_addRing_6 : decode cX7_addRing 6 = .ok (.iload_n 3, 1) := by decide +kernel
theorem dX7_addRing_7 : decode cX7_addRing 7 = .ok (.invokevirtual 33, 3) := by decide +kernel
theorem dX7_addRing_10 : decode cX7_addRing 10 = .ok (.invokestatic 37, 3) := by decide +kernel
theorem dX7_addRing_13 : decode cX7_addRing 13 = .ok (.aload_n 0, 1) := by decide +kernel
theorem dX7_addRing_14 : decode cX7_addRing 14 = .ok (.getfield 22, 3) := by decide +kernel
theorem dX7_addRing_17 : decode cX7_addRing 17 = .ok (.aload_n 0, 1) := by decide +kernel
theorem dX7_addRing_18 : decode cX7_addRing 18 = .ok (.getfield 10, 3) := by decide +kernel
theorem dX7_addRing_21 : decode cX7_addRing 21 = .ok (.invokevirtual 41, 3) := by decide +kernel
theorem dX7_addRing_24 : decode cX7_addRing 24 = .ok (.aload_n 0, 1) := by decide +kernel
theorem dX7_addRing_25 : decode cX7_addRing 25 = .ok (.getfield 10, 3) := by decide +kernel
theorem dX7_addRing_28 : decode cX7_addRing 28 = .ok (.iload_n 1, 1) := by decide +kernel
theorem dX7_addRing_29 : decode cX7_addRing 29 = .ok (.iload_n 2, 1) := by decide +kernel
theorem dX7_addRing_30 : decode cX7_addRing 30 = .ok (.iload_n 3, 1) := by decide +kernel
theorem dX7_addRing_31 : decode cX7_addRing 31 = .ok (.invokevirtual 45, 3) := by decide +kernel
theorem dX7_addRing_34 : decode cX7_addRing 34 = .ok (.ireturn, 1) := by decide +kernel
set_option maxRecDepth 20000 in
theorem ggX7_set_X5_settingRefusal : GoodIn wsX7_set wsX5_settingRefusal := goodIn_r _ [6, 7, 8, 9] (by decide +kernel) (by decide +kernel)
set_option maxRecDepth 20000 in
theorem gX7_set_X5_settingRefusal : GoodIn wsX7_set (va_wsS RX7 55 yX5_settingRefusal wsX5_settingRefusal) := goodIn_app (goodIn_of _ (by decide +kernel)) ggX7_set_X5_settingRefusal
set_option maxRecDepth 20000 in
theorem ggX7_set_X7_refuse : GoodIn wsX7_set wsX7_refuse := goodIn_ca (goodIn_ca (goodIn_ca (goodIn_r _ [12, 13, 14, 15, 16, 17, 18] (by decide +kernel) (by decide +kernel)) (goodIn_sub (fun _ h => List.mem_cons_of_mem _ (List.mem_append_left _ (List.mem_append_left _ (List.mem_append_right _ h)))) (by decide +kernel))) (goodIn_sub (fun _ h => List.mem_cons_of_mem _ (List.mem_append_left _ (List.mem_append_right _ h))) (by decide +kernel))) (goodIn_sub (fun _ h => List.mem_cons_of_mem _ (List.mem_append_right _ h)) (by decide +kernel))
set_option maxRecDepth 20000 in
theorem gX7_set_X7_refuse : GoodIn wsX7_set (va_wsS RX7 37 yX7_refuse wsX7_refuse) := goodIn_app (goodIn_of _ (by decide +kernel)) ggX7_set_X7_refuse
set_option maxRecDepth 20000 in
theorem ggX7_set_X2_save : GoodIn wsX7_set wsX2_save := goodIn_r _ [23, 24, 25, 26, 27, 28, 29, 30, 31, 32, 33, 5, 34, 35, 36, 37, 38, 39, 40, 41, 42, 43, 44, 45, 46, 47, 48, 49, 50, 51, 52, 53, 54, 55, 56, 57, 58, 59, 60, 61, 62, 63, 64, 65, 66, 67, 68, 69, 70, 71, 72, 73, 74, 75, 76, 77, 86, 87, 88, 89, 90, 91, 92, 93, 94, 95, 96, 97, 98, 99, 100, 101, 102, 103, 104, 105, 106, 107, 108, 109, 110, 111, 112, 113, 114, 115, 116, 117] (by decide +kernel) (by decide +kernel)
set_option maxRecDepth 20000 in
theorem gX7_set_X2_save : GoodIn wsX7_set (wsV RX7 41 RX2 yX2_save wsX2_save) := goodIn_app (goodIn_of _ (by decide +kernel)) ggX7_set_X2_save
set_option maxRecDepth 20000 in
theorem ggX7_set_X5_putSetting : GoodIn wsX7_set wsX5_putSetting := goodIn_r _ [81, 44, 45, 89, 90, 91, 92, 93, 94, 95, 96, 97, 98, 99, 100] (by decide +kernel) (by decide +kernel)
set_option maxRecDepth 20000 in
theorem gX7_set_X5_putSetting : GoodIn wsX7_set (wsV RX7 58 RX5 yX5_putSetting wsX5_putSetting) := goodIn_app (goodIn_of _ (by decide +kernel)) ggX7_set_X5_putSetting
theorem dX7_set_0 : decode cX7_set 0 = .ok (.iload_n 1, 1) := by decide +kernel
theorem dX7_set_1 : decode cX7_set 1 = .ok (.iload_n 2, 1) := by decide +kernel
theorem dX7_set_2 : decode cX7_set 2 = .ok (.invokestatic 55, 3) := by decide +kernel
theorem dX7_set_5 : decode cX7_set 5 = .ok (.invokestatic 37, 3) := by decide +kernel
theorem dX7_set_8 : decode cX7_set 8 = .ok (.aload_n 0, 1) := by decide +kernel
theorem dX7_set_9 : decode cX7_set 9 = .ok (.getfield 22, 3) := by decide +kernel
theorem dX7_set_12 : decode cX7_set 12 = .ok (.aload_n 0, 1) := by decide +kernel
theorem dX7_set_13 : decode cX7_set 13 = .ok (.getfield 10, 3) := by decide +kernel
theorem dX7_set_16 : decode cX7_set 16 = .ok (.invokevirtual 41, 3) := by decide +kernel
theorem dX7_set_19 : decode cX7_set 19 = .ok (.aload_n 0, 1) := by decide +kernel
theorem dX7_set_20 : decode cX7_set 20 = .ok (.getfield 10, 3) := by decide +kernel
theorem dX7_set_23 : decode cX7_set 23 = .ok (.iload_n 1, 1) := by decide +kernel
theorem dX7_set_24 : decode cX7_set 24 = .ok (.iload_n 2, 1) := by decide +kernel
theorem dX7_set_25 : decode cX7_set 25 = .ok (.invokevirtual 58, 3) := by decide +kernel
theorem dX7_set_28 : decode cX7_set 28 = .ok (.ireturn, 1) := by decide +kernel
set_option maxRecDepth 20000 in
theorem ggX7_write_X5_valueRefusal : GoodIn wsX7_write wsX5_valueRefusal := goodIn_r _ [7, 8, 9, 10, 11, 12, 13, 14, 15, 16, 6, 17, 18, 19, 20, 21, 22, 23, 24, 25, 26, 27, 28, 29, 30, 31, 32, 105, 106, 107, 108, 109, 110, 111, 112, 113, 114, 115, 116, 117, 118, 119, 120, 121, 122, 123, 124, 125, 126, 127, 128, 129] (by decide +kernel) (by decide +kernel)
set_option maxRecDepth 20000 in
theorem gX7_write_X5_valueRefusal : GoodIn wsX7_write (wsV RX7 61 RX5 yX5_valueRefusal wsX5_valueRefusal) := goodIn_app (goodIn_of _ (by decide +kernel)) ggX7_write_X5_valueRefusal
set_option maxRecDepth 20000 in
theorem ggX7_write_X7_refuse : GoodIn wsX7_write wsX7_refuse := goodIn_ca (goodIn_ca (goodIn_ca (goodIn_r _ [35, 36, 37, 38, 39, 40, 41] (by decide +kernel) (by decide +kernel)) (goodIn_sub (fun _ h => List.mem_cons_of_mem _ (List.mem_append_left _ (List.mem_append_left _ (List.mem_append_right _ h)))) (by decide +kernel))) (goodIn_sub (fun _ h => List.mem_cons_of_mem _ (List.mem_append_left _ (List.mem_append_right _ h))) (by decide +kernel))) (goodIn_sub (fun _ h => List.mem_cons_of_mem _ (List.mem_append_right _ h)) (by decide +kernel))
set_option maxRecDepth 20000 in
theorem gX7_write_X7_refuse : GoodIn wsX7_write (va_wsS RX7 37 yX7_refuse wsX7_refuse) := goodIn_app (goodIn_of _ (by decide +kernel)) ggX7_write_X7_refuse
set_option maxRecDepth 20000 in
theorem ggX7_write_X2_save : GoodIn wsX7_write wsX2_save := goodIn_r _ [46, 47, 48, 49, 50, 51, 52, 53, 54, 55, 56, 6, 57, 58, 59, 60, 61, 62, 63, 64, 18, 19, 65, 66, 67, 68, 69, 70, 71, 72, 73, 74, 75, 76, 77, 78, 79, 80, 81, 82, 30, 83, 84, 85, 86, 87, 88, 89, 90, 32, 91, 92, 93, 94, 95, 96, 130, 131, 132, 105, 106, 107, 108, 109, 110, 111, 112, 113, 114, 115, 116, 133, 134, 135, 136, 117, 118, 119, 120, 121, 122, 123, 124, 125, 126, 127, 128, 129] (by decide +kernel) (by decide +kernel)
set_option maxRecDepth 20000 in
theorem gX7_write_X2_save : GoodIn wsX7_write (wsV RX7 41 RX2 yX2_save wsX2_save) := goodIn_app (goodIn_of _ (by decide +kernel)) ggX7_write_X2_save
set_option maxRecDepth 20000 in
theorem ggX7_write_X5_putValue : GoodIn wsX7_write wsX5_putValue := goodIn_r _ [100, 58, 105, 106, 107, 108, 109, 110, 111, 112, 113, 114, 115, 116] (by decide +kernel) (by decide +kernel)
set_option maxRecDepth 20000 in
theorem gX7_write_X5_putValue : GoodIn wsX7_write (wsV RX7 64 RX5 yX5_putValue wsX5_putValue) := goodIn_app (goodIn_of _ (by decide +kernel)) ggX7_write_X5_putValue
theorem dX7_write_0 : decode cX7_write 0 = .ok (.aload_n 0, 1) := by decide +kernel
theorem dX7_write_1 : decode cX7_write 1 = .ok (.getfield 10, 3) := by decide +kernel
theorem dX7_write_4 : decode cX7_write 4 = .ok (.iload_n 1, 1) := by decide +kernel
theorem dX7_write_5 : decode cX7_write 5 = .ok (.iload_n 2, 1) := by decide +kernel
theorem dX7_write_6 : decode cX7_write 6 = .ok (.invokevirtual 61, 3) := by decide +kernel
theorem dX7_write_9 : decode cX7_write 9 = .ok (.invokestatic 37, 3) := by decide +kernel
theorem dX7_write_12 : decode cX7_write 12 = .ok (.aload_n 0, 1) := by decide +kernel
theorem dX7_write_13 : decode cX7_write 13 = .ok (.getfield 22, 3) := by decide +kernel
theorem dX7_write_16 : decode cX7_write 16 = .ok (.aload_n 0, 1) := by decide +kernel
theorem dX7_write_17 : decode cX7_write 17 = .ok (.getfield 10, 3) := by decide +kernel
theorem dX7_write_20 : decode cX7_write 20 = .ok (.invokevirtual 41, 3) := by decide +kernel
theorem dX7_write_23 : decode cX7_write 23 = .ok (.aload_n 0, 1) := by decide +kernel
theorem dX7_write_24 : decode cX7_write 24 = .ok (.getfield 10, 3) := by decide +kernel
theorem dX7_write_27 : decode cX7_write 27 = .ok (.iload_n 1, 1) := by decide +kernel
theorem dX7_write_28 : decode cX7_write 28 = .ok (.iload_n 2, 1) := by decide +kernel
theorem dX7_write_29 : decode cX7_write 29 = .ok (.invokevirtual 64, 3) := by decide +kernel
theorem dX7_write_32 : decode cX7_write 32 = .ok (.ireturn, 1) := by decide +kernel
set_option maxRecDepth 20000 in
theorem ggX7_move_X5_moveRefusal : GoodIn wsX7_move wsX5_moveRefusal := goodIn_r _ [7, 8, 9, 10, 11, 12, 13, 14, 15, 16, 17, 6, 18, 19, 20, 21, 22, 113, 114, 115, 116, 117, 118, 119, 120, 121, 122, 123, 124, 125, 126, 127, 128] (by decide +kernel) (by decide +kernel)
set_option maxRecDepth 20000 in
theorem gX7_move_X5_moveRefusal : GoodIn wsX7_move (wsV RX7 67 RX5 yX5_moveRefusal wsX5_moveRefusal) := goodIn_app (goodIn_of _ (by decide +kernel)) ggX7_move_X5_moveRefusal
set_option maxRecDepth 20000 in
theorem ggX7_move_X7_refuse : GoodIn wsX7_move wsX7_refuse := goodIn_ca (goodIn_ca (goodIn_ca (goodIn_r _ [25, 26, 27, 28, 29, 30, 31] (by decide +kernel) (by decide +kernel)) (goodIn_sub (fun _ h => List.mem_cons_of_mem _ (List.mem_append_left _ (List.mem_append_left _ (List.mem_append_right _ h)))) (by decide +kernel))) (goodIn_sub (fun _ h => List.mem_cons_of_mem _ (List.mem_append_left _ (List.mem_append_right _ h))) (by decide +kernel))) (goodIn_sub (fun _ h => List.mem_cons_of_mem _ (List.mem_append_right _ h)) (by decide +kernel))
set_option maxRecDepth 20000 in
theorem gX7_move_X7_refuse : GoodIn wsX7_move (va_wsS RX7 37 yX7_refuse wsX7_refuse) := goodIn_app (goodIn_of _ (by decide +kernel)) ggX7_move_X7_refuse
set_option maxRecDepth 20000 in
theorem ggX7_move_X2_save : GoodIn wsX7_move wsX2_save := goodIn_r _ [36, 37, 38, 39, 40, 11, 12, 13, 41, 42, 43, 6, 44, 45, 46, 47, 48, 49, 19, 8, 14, 50, 51, 52, 53, 54, 55, 56, 57, 58, 59, 60, 61, 62, 63, 64, 65, 66, 67, 68, 69, 70, 71, 72, 73, 74, 75, 76, 77, 78, 79, 80, 81, 82, 83, 84, 129, 130, 131, 113, 114, 115, 116, 117, 118, 119, 120, 121, 122, 123, 124, 125, 126, 127, 128, 132, 133, 134, 135, 136, 137, 138, 139, 140, 141, 142, 143, 144] (by decide +kernel) (by decide +kernel)
set_option maxRecDepth 20000 in
theorem gX7_move_X2_save : GoodIn wsX7_move (wsV RX7 41 RX2 yX2_save wsX2_save) := goodIn_app (goodIn_of _ (by decide +kernel)) ggX7_move_X2_save
set_option maxRecDepth 20000 in
theorem ggX7_move_X5_putMove : GoodIn wsX7_move wsX5_putMove := goodIn_r _ [88, 50, 14, 89, 90, 91, 92, 93, 8, 94, 95, 96, 97, 98, 99, 100, 101, 102, 103, 60, 104, 105, 106, 107, 108, 63, 62, 113, 114, 115, 116, 117, 118, 119, 120, 121, 122, 123, 124, 132, 133, 134, 135, 136, 137, 138, 139, 140, 141, 142, 143, 144, 125, 126, 127, 128] (by decide +kernel) (by decide +kernel)
set_option maxRecDepth 20000 in
theorem gX7_move_X5_putMove : GoodIn wsX7_move (wsV RX7 71 RX5 yX5_putMove wsX5_putMove) := goodIn_app (goodIn_of _ (by decide +kernel)) ggX7_move_X5_putMove
theorem dX7_move_0 : decode cX7_move 0 = .ok (.aload_n 0, 1) := by decide +kernel
theorem dX7_move_1 : decode cX7_move 1 = .ok (.getfield 10, 3) := by decide +kernel
theorem dX7_move_4 : decode cX7_move 4 = .ok (.iload_n 1, 1) := by decide +kernel
theorem dX7_move_5 : decode cX7_move 5 = .ok (.iload_n 2, 1) := by decide +kernel
theorem dX7_move_6 : decode cX7_move 6 = .ok (.iload_n 3, 1) := by decide +kernel
theorem dX7_move_7 : decode cX7_move 7 = .ok (.iload 4, 2) := by decide +kernel
theorem dX7_move_9 : decode cX7_move 9 = .ok (.iload 5, 2) := by decide +kernel
theorem dX7_move_11 : decode cX7_move 11 = .ok (.invokevirtual 67, 3) := by decide +kernel
theorem dX7_move_14 : decode cX7_move 14 = .ok (.invokestatic 37, 3) := by decide +kernel
theorem dX7_move_17 : decode cX7_move 17 = .ok (.aload_n 0, 1) := by decide +kernel
theorem dX7_move_18 : decode cX7_move 18 = .ok (.getfield 22, 3) := by decide +kernel
theorem dX7_move_21 : decode cX7_move 21 = .ok (.aload_n 0, 1) := by decide +kernel
theorem dX7_move_22 : decode cX7_move 22 = .ok (.getfield 10, 3) := by decide +kernel
theorem dX7_move_25 : decode cX7_move 25 = .ok (.invokevirtual 41, 3) := by decide +kernel
theorem dX7_move_28 : decode cX7_move 28 = .ok (.aload_n 0, 1) := by decide +kernel
theorem dX7_move_29 : decode cX7_move 29 = .ok (.getfield 10, 3) := by decide +kernel
theorem dX7_move_32 : decode cX7_move 32 = .ok (.iload_n 1, 1) := by decide +kernel
theorem dX7_move_33 : decode cX7_move 33 = .ok (.iload_n 2, 1) := by decide +kernel
theorem dX7_move_34 : decode cX7_move 34 = .ok (.iload_n 3, 1) := by decide +kernel
theorem dX7_move_35 : decode cX7_move 35 = .ok (.iload 4, 2) := by decide +kernel
theorem dX7_move_37 : decode cX7_move 37 = .ok (.iload 5, 2) := by decide +kernel
theorem dX7_move_39 : decode cX7_move 39 = .ok (.invokevirtual 71, 3) := by decide +kernel
theorem dX7_move_42 : decode cX7_move 42 = .ok (.ireturn, 1) := by decide +kernel
set_option maxRecDepth 20000 in
theorem ggX7_sign_X5_signRefusal : GoodIn wsX7_sign wsX5_signRefusal := goodIn_r _ [7, 8, 9, 10, 11, 12, 6, 13, 14, 15, 16, 17, 18, 19, 20, 21, 22, 23, 24, 25, 104, 105, 106, 107, 108, 109, 110, 111, 112, 113, 114, 115, 116, 117, 118, 119, 120, 121, 122, 123, 124, 125, 126, 127, 128, 129, 130, 131, 132] (by decide +kernel) (by decide +kernel)
set_option maxRecDepth 20000 in
theorem gX7_sign_X5_signRefusal : GoodIn wsX7_sign (wsV RX7 74 RX5 yX5_signRefusal wsX5_signRefusal) := goodIn_app (goodIn_of _ (by decide +kernel)) ggX7_sign_X5_signRefusal
set_option maxRecDepth 20000 in
theorem ggX7_sign_X7_refuse : GoodIn wsX7_sign wsX7_refuse := goodIn_ca (goodIn_ca (goodIn_ca (goodIn_r _ [29, 30, 31, 32, 33, 34, 35] (by decide +kernel) (by decide +kernel)) (goodIn_sub (fun _ h => List.mem_cons_of_mem _ (List.mem_append_left _ (List.mem_append_left _ (List.mem_append_right _ h)))) (by decide +kernel))) (goodIn_sub (fun _ h => List.mem_cons_of_mem _ (List.mem_append_left _ (List.mem_append_right _ h))) (by decide +kernel))) (goodIn_sub (fun _ h => List.mem_cons_of_mem _ (List.mem_append_right _ h)) (by decide +kernel))
set_option maxRecDepth 20000 in
theorem gX7_sign_X7_refuse : GoodIn wsX7_sign (va_wsS RX7 37 yX7_refuse wsX7_refuse) := goodIn_app (goodIn_of _ (by decide +kernel)) ggX7_sign_X7_refuse
set_option maxRecDepth 20000 in
theorem ggX7_sign_X2_save : GoodIn wsX7_sign wsX2_save := goodIn_r _ [40, 41, 42, 43, 44, 45, 46, 47, 48, 49, 50, 6, 51, 52, 53, 54, 55, 56, 14, 8, 19, 20, 57, 58, 59, 60, 61, 62, 63, 64, 65, 66, 67, 68, 69, 70, 71, 72, 73, 74, 75, 76, 77, 78, 79, 80, 81, 82, 83, 84, 85, 86, 87, 88, 89, 90, 133, 134, 135, 104, 105, 106, 107, 108, 109, 110, 111, 112, 113, 114, 115, 116, 117, 118, 119, 120, 121, 122, 123, 124, 125, 126, 127, 128, 129, 130, 131, 132] (by decide +kernel) (by decide +kernel)
set_option maxRecDepth 20000 in
theorem gX7_sign_X2_save : GoodIn wsX7_sign (wsV RX7 41 RX2 yX2_save wsX2_save) := goodIn_app (goodIn_of _ (by decide +kernel)) ggX7_sign_X2_save
set_option maxRecDepth 20000 in
theorem ggX7_sign_X5_signFirst : GoodIn wsX7_sign wsX5_signFirst := goodIn_r _ [94, 19, 20, 21, 22, 6, 23, 24, 25, 95, 96, 97, 98, 59, 99, 61, 104, 105, 106, 107, 108, 109, 110, 111, 112, 113, 114, 115, 120, 121, 122, 123, 124, 125, 126, 127, 128, 129, 130, 131, 132] (by decide +kernel) (by decide +kernel)
set_option maxRecDepth 20000 in
theorem gX7_sign_X5_signFirst : GoodIn wsX7_sign (wsV RX7 78 RX5 yX5_signFirst wsX5_signFirst) := goodIn_app (goodIn_of _ (by decide +kernel)) ggX7_sign_X5_signFirst
theorem dX7_sign_0 : decode cX7_sign 0 = .ok (.aload_n 0, 1) := by decide +kernel
theorem dX7_sign_1 : decode cX7_sign 1 = .ok (.getfield 10, 3) := by decide +kernel
theorem dX7_sign_4 : decode cX7_sign 4 = .ok (.iload_n 1, 1) := by decide +kernel
theorem dX7_sign_5 : decode cX7_sign 5 = .ok (.invokevirtual 74, 3) := by decide +kernel
theorem dX7_sign_8 : decode cX7_sign 8 = .ok (.invokestatic 37, 3) := by decide +kernel
theorem dX7_sign_11 : decode cX7_sign 11 = .ok (.aload_n 0, 1) := by decide +kernel
theorem dX7_sign_12 : decode cX7_sign 12 = .ok (.getfield 22, 3) := by decide +kernel
theorem dX7_sign_15 : decode cX7_sign 15 = .ok (.aload_n 0, 1) := by decide +kernel
theorem dX7_sign_16 : decode cX7_sign 16 = .ok (.getfield 10, 3) := by decide +kernel
theorem dX7_sign_19 : decode cX7_sign 19 = .ok (.invokevirtual 41, 3) := by decide +kernel
theorem dX7_sign_22 : decode cX7_sign 22 = .ok (.aload_n 0, 1) := by decide +kernel
theorem dX7_sign_23 : decode cX7_sign 23 = .ok (.getfield 10, 3) := by decide +kernel
theorem dX7_sign_26 : decode cX7_sign 26 = .ok (.iload_n 1, 1) := by decide +kernel
theorem dX7_sign_27 : decode cX7_sign 27 = .ok (.invokevirtual 78, 3) := by decide +kernel
theorem dX7_sign_30 : decode cX7_sign 30 = .ok (.ireturn, 1) := by decide +kernel
set_option maxRecDepth 20000 in
theorem ggX7_strike_X5_strikeRefusal : GoodIn wsX7_strike wsX5_strikeRefusal := goodIn_r _ [7, 8, 9, 10, 11, 12, 6, 13, 14, 99, 100, 101, 102, 103, 104, 105, 106, 107, 108, 109, 110, 111, 112, 113, 114] (by decide +kernel) (by decide +kernel)
set_option maxRecDepth 20000 in
theorem gX7_strike_X5_strikeRefusal : GoodIn wsX7_strike (wsV RX7 81 RX5 yX5_strikeRefusal wsX5_strikeRefusal) := goodIn_app (goodIn_of _ (by decide +kernel)) ggX7_strike_X5_strikeRefusal
set_option maxRecDepth 20000 in
theorem ggX7_strike_X7_refuse : GoodIn wsX7_strike wsX7_refuse := goodIn_ca (goodIn_ca (goodIn_ca (goodIn_r _ [18, 19, 20, 21, 22, 23, 24] (by decide +kernel) (by decide +kernel)) (goodIn_sub (fun _ h => List.mem_cons_of_mem _ (List.mem_append_left _ (List.mem_append_left _ (List.mem_append_right _ h)))) (by decide +kernel))) (goodIn_sub (fun _ h => List.mem_cons_of_mem _ (List.mem_append_left _ (List.mem_append_right _ h))) (by decide +kernel))) (goodIn_sub (fun _ h => List.mem_cons_of_mem _ (List.mem_append_right _ h)) (by decide +kernel))
set_option maxRecDepth 20000 in
theorem gX7_strike_X7_refuse : GoodIn wsX7_strike (va_wsS RX7 37 yX7_refuse wsX7_refuse) := goodIn_app (goodIn_of _ (by decide +kernel)) ggX7_strike_X7_refuse
set_option maxRecDepth 20000 in
theorem ggX7_strike_X2_save : GoodIn wsX7_strike wsX2_save := goodIn_r _ [29, 30, 31, 32, 33, 34, 35, 36, 37, 38, 39, 6, 40, 41, 42, 43, 44, 45, 14, 8, 46, 47, 48, 49, 50, 51, 52, 53, 54, 55, 56, 57, 58, 59, 60, 61, 62, 63, 64, 65, 66, 67, 68, 69, 70, 71, 72, 73, 74, 75, 76, 77, 78, 79, 80, 81, 115, 116, 117, 99, 100, 101, 102, 103, 104, 105, 106, 107, 108, 109, 110, 111, 112, 113, 114, 118, 119, 120, 121, 122, 123, 124, 125, 126, 127, 128, 129, 130] (by decide +kernel) (by decide +kernel)
set_option maxRecDepth 20000 in
theorem gX7_strike_X2_save : GoodIn wsX7_strike (wsV RX7 41 RX2 yX2_save wsX2_save) := goodIn_app (goodIn_of _ (by decide +kernel)) ggX7_strike_X2_save
set_option maxRecDepth 20000 in
theorem ggX7_strike_X5_putStrike : GoodIn wsX7_strike wsX5_putStrike := goodIn_r _ [85, 8, 9, 86, 87, 88, 6, 89, 46, 47, 90, 91, 92, 93, 94, 99, 100, 101, 102, 103, 104, 105, 106, 107, 108, 109, 110, 111, 112, 113, 114, 118, 119, 120, 121, 122, 123, 124, 125, 126, 127, 128, 129, 130] (by decide +kernel) (by decide +kernel)
set_option maxRecDepth 20000 in
theorem gX7_strike_X5_putStrike : GoodIn wsX7_strike (wsV RX7 85 RX5 yX5_putStrike wsX5_putStrike) := goodIn_app (goodIn_of _ (by decide +kernel)) ggX7_strike_X5_putStrike
theorem dX7_strike_0 : decode cX7_strike 0 = .ok (.aload_n 0, 1) := by decide +kernel
theorem dX7_strike_1 : decode cX7_strike 1 = .ok (.getfield 10, 3) := by decide +kernel
theorem dX7_strike_4 : decode cX7_strike 4 = .ok (.iload_n 1, 1) := by decide +kernel
theorem dX7_strike_5 : decode cX7_strike 5 = .ok (.iload_n 2, 1) := by decide +kernel
theorem dX7_strike_6 : decode cX7_strike 6 = .ok (.invokevirtual 81, 3) := by decide +kernel
theorem dX7_strike_9 : decode cX7_strike 9 = .ok (.invokestatic 37, 3) := by decide +kernel
theorem dX7_strike_12 : decode cX7_strike 12 = .ok (.aload_n 0, 1) := by decide +kernel
theorem dX7_strike_13 : decode cX7_strike 13 = .ok (.getfield 22, 3) := by decide +kernel
theorem dX7_strike_16 : decode cX7_strike 16 = .ok (.aload_n 0, 1) := by decide +kernel
theorem dX7_strike_17 : decode cX7_strike 17 = .ok (.getfield 10, 3) := by decide +kernel
theorem dX7_strike_20 : decode cX7_strike 20 = .ok (.invokevirtual 41, 3) := by decide +kernel
theorem dX7_strike_23 : decode cX7_strike 23 = .ok (.aload_n 0, 1) := by decide +kernel
theorem dX7_strike_24 : decode cX7_strike 24 = .ok (.getfield 10, 3) := by decide +kernel
theorem dX7_strike_27 : decode cX7_strike 27 = .ok (.iload_n 1, 1) := by decide +kernel
theorem dX7_strike_28 : decode cX7_strike 28 = .ok (.iload_n 2, 1) := by decide +kernel
theorem dX7_strike_29 : decode cX7_strike 29 = .ok (.invokevirtual 85, 3) := by decide +kernel
theorem dX7_strike_32 : decode cX7_strike 32 = .ok (.ireturn, 1) := by decide +kernel
set_option maxRecDepth 20000 in
theorem ggX7_pass_X5_passRefusal : GoodIn wsX7_pass wsX5_passRefusal := goodIn_r _ [7, 8, 9, 10, 11, 144, 145, 146, 147, 148, 149, 150, 151, 152, 153, 154, 155] (by decide +kernel) (by decide +kernel)
set_option maxRecDepth 20000 in
theorem gX7_pass_X5_passRefusal : GoodIn wsX7_pass (wsV RX7 88 RX5 yX5_passRefusal wsX5_passRefusal) := goodIn_app (goodIn_of _ (by decide +kernel)) ggX7_pass_X5_passRefusal
set_option maxRecDepth 20000 in
theorem ggX7_pass_X7_refuse : GoodIn wsX7_pass wsX7_refuse := goodIn_ca (goodIn_ca (goodIn_ca (goodIn_r _ [14, 15, 16, 17, 18, 19, 20] (by decide +kernel) (by decide +kernel)) (goodIn_sub (fun _ h => List.mem_cons_of_mem _ (List.mem_append_left _ (List.mem_append_left _ (List.mem_append_right _ h)))) (by decide +kernel))) (goodIn_sub (fun _ h => List.mem_cons_of_mem _ (List.mem_append_left _ (List.mem_append_right _ h))) (by decide +kernel))) (goodIn_sub (fun _ h => List.mem_cons_of_mem _ (List.mem_append_right _ h)) (by decide +kernel))
set_option maxRecDepth 20000 in
theorem gX7_pass_X7_refuse : GoodIn wsX7_pass (va_wsS RX7 37 yX7_refuse wsX7_refuse) := goodIn_app (goodIn_of _ (by decide +kernel)) ggX7_pass_X7_refuse
set_option maxRecDepth 20000 in
theorem ggX7_pass_X2_save : GoodIn wsX7_pass wsX2_save := goodIn_r _ [25, 26, 27, 28, 29, 30, 31, 32, 33, 34, 35, 6, 36, 37, 38, 39, 40, 41, 42, 43, 44, 45, 46, 47, 8, 48, 49, 50, 51, 52, 53, 54, 55, 56, 57, 58, 59, 60, 61, 62, 63, 64, 65, 66, 67, 68, 69, 70, 71, 72, 73, 74, 75, 76, 77, 78, 156, 157, 158, 144, 145, 146, 147, 148, 149, 150, 151, 152, 153, 154, 155, 159, 160, 161, 162, 163, 164, 165, 166, 167, 168, 169, 170, 171, 172, 173, 174, 175] (by decide +kernel) (by decide +kernel)
set_option maxRecDepth 20000 in
theorem gX7_pass_X2_save : GoodIn wsX7_pass (wsV RX7 41 RX2 yX2_save wsX2_save) := goodIn_app (goodIn_of _ (by decide +kernel)) ggX7_pass_X2_save
set_option maxRecDepth 20000 in
theorem ggX7_pass_X5_letPass : GoodIn wsX7_pass wsX5_letPass := goodIn_r _ [82, 48, 83, 84, 85, 6, 86, 42, 43, 87, 88, 44, 45, 46, 8, 89, 90, 91, 92, 93, 94, 95, 96, 97, 98, 99, 100, 101, 102, 103, 49, 104, 105, 106, 107, 47, 108, 109, 110, 111, 112, 113, 114, 115, 116, 117, 118, 63, 119, 72, 70, 71, 120, 121, 122, 123, 124, 125, 126, 37, 127, 128, 129, 130, 131, 54, 132, 57, 56, 133, 134, 135, 136, 137, 138, 30, 31, 32, 139, 144, 145, 146, 147, 148, 149, 150, 151, 152, 153, 154, 155, 159, 160, 161, 162, 163, 164, 165, 166, 167, 168, 169, 170, 171, 172, 173, 174, 175] (by decide +kernel) (by decide +kernel)
set_option maxRecDepth 20000 in
theorem gX7_pass_X5_letPass : GoodIn wsX7_pass (wsV RX7 91 RX5 yX5_letPass wsX5_letPass) := goodIn_app (goodIn_of _ (by decide +kernel)) ggX7_pass_X5_letPass
theorem dX7_pass_0 : decode cX7_pass 0 = .ok (.aload_n 0, 1) := by decide +kernel
theorem dX7_pass_1 : decode cX7_pass 1 = .ok (.getfield 10, 3) := by decide +kernel
theorem dX7_pass_4 : decode cX7_pass 4 = .ok (.iload_n 1, 1) := by decide +kernel
theorem dX7_pass_5 : decode cX7_pass 5 = .ok (.invokevirtual 88, 3) := by decide +kernel
theorem dX7_pass_8 : decode cX7_pass 8 = .ok (.invokestatic 37, 3) := by decide +kernel
theorem dX7_pass_11 : decode cX7_pass 11 = .ok (.aload_n 0, 1) := by decide +kernel
theorem dX7_pass_12 : decode cX7_pass 12 = .ok (.getfield 22, 3) := by decide +kernel
theorem dX7_pass_15 : decode cX7_pass 15 = .ok (.aload_n 0, 1) := by decide +kernel
theorem dX7_pass_16 : decode cX7_pass 16 = .ok (.getfield 10, 3) := by decide +kernel
theorem dX7_pass_19 : decode cX7_pass 19 = .ok (.invokevirtual 41, 3) := by decide +kernel
theorem dX7_pass_22 : decode cX7_pass 22 = .ok (.aload_n 0, 1) := by decide +kernel
theorem dX7_pass_23 : decode cX7_pass 23 = .ok (.getfield 10, 3) := by decide +kernel
theorem dX7_pass_26 : decode cX7_pass 26 = .ok (.iload_n 1, 1) := by decide +kernel
theorem dX7_pass_27 : decode cX7_pass 27 = .ok (.invokevirtual 91, 3) := by decide +kernel
theorem dX7_pass_30 : decode cX7_pass 30 = .ok (.ireturn, 1) := by decide +kernel
set_option maxRecDepth 20000 in
theorem ggX7_cell_X7_requireCell : GoodIn wsX7_cell wsX7_requireCell := goodIn_ca (goodIn_r _ [6, 7, 8, 9, 10, 5, 11, 12, 13, 14] (by decide +kernel) (by decide +kernel)) (goodIn_sub (fun _ h => List.mem_cons_of_mem _ (List.mem_append_right _ h)) (by decide +kernel))
set_option maxRecDepth 20000 in
theorem gX7_cell_X7_requireCell : GoodIn wsX7_cell (va_wsS RX7 98 yX7_requireCell wsX7_requireCell) := goodIn_app (goodIn_of _ (by decide +kernel)) ggX7_cell_X7_requireCell
theorem dX7_cell_0 : decode cX7_cell 0 = .ok (.iload_n 1, 1) := by decide +kernel
theorem dX7_cell_1 : decode cX7_cell 1 = .ok (.invokestatic 98, 3) := by decide +kernel
theorem dX7_cell_4 : decode cX7_cell 4 = .ok (.aload_n 0, 1) := by decide +kernel
theorem dX7_cell_5 : decode cX7_cell 5 = .ok (.getfield 10, 3) := by decide +kernel
theorem dX7_cell_8 : decode cX7_cell 8 = .ok (.getfield 101, 3) := by decide +kernel
theorem dX7_cell_11 : decode cX7_cell 11 = .ok (.iload_n 1, 1) := by decide +kernel
theorem dX7_cell_12 : decode cX7_cell 12 = .ok (.iaload, 1) := by decide +kernel
theorem dX7_cell_13 : decode cX7_cell 13 = .ok (.ireturn, 1) := by decide +kernel
set_option maxRecDepth 20000 in
theorem ggX7_moveOf_X7_requireMove : GoodIn wsX7_moveOf wsX7_requireMove := goodIn_ca (goodIn_r _ [7, 8, 9, 1, 10, 34, 35, 36, 37, 38, 39, 40, 41, 42, 43, 44, 45, 46, 47, 48, 49] (by decide +kernel) (by decide +kernel)) (goodIn_sub (fun _ h => List.mem_cons_of_mem _ (List.mem_append_left _ (List.mem_append_right _ h))) (by decide +kernel))
set_option maxRecDepth 20000 in
theorem gX7_moveOf_X7_requireMove : GoodIn wsX7_moveOf (wsV RX7 123 RX7 yX7_requireMove wsX7_requireMove) := goodIn_app (goodIn_of _ (by decide +kernel)) ggX7_moveOf_X7_requireMove
set_option maxRecDepth 20000 in
theorem ggX7_moveOf_X7_requireRange : GoodIn wsX7_moveOf wsX7_requireRange := goodIn_ca (goodIn_r _ [13, 14, 15, 16, 17, 6, 18] (by decide +kernel) (by decide +kernel)) (goodIn_sub (fun _ h => List.mem_cons_of_mem _ (List.mem_append_right _ h)) (by decide +kernel))
set_option maxRecDepth 20000 in
theorem gX7_moveOf_X7_requireRange : GoodIn wsX7_moveOf (va_wsS RX7 116 yX7_requireRange wsX7_requireRange) := goodIn_app (goodIn_of _ (by decide +kernel)) ggX7_moveOf_X7_requireRange
set_option maxRecDepth 20000 in
theorem ggX7_moveOf_X3_part : GoodIn wsX7_moveOf wsX3_part := goodIn_r _ [23, 24, 25, 26, 27, 28, 29, 30, 31, 32, 33, 50, 51, 52, 53, 54, 55, 56, 57, 58, 59, 60, 61, 62] (by decide +kernel) (by decide +kernel)
set_option maxRecDepth 20000 in
theorem gX7_moveOf_X3_part : GoodIn wsX7_moveOf (wsV RX7 130 RX3 yX3_part wsX3_part) := goodIn_app (goodIn_of _ (by decide +kernel)) ggX7_moveOf_X3_part
theorem dX7_moveOf_0 : decode cX7_moveOf 0 = .ok (.aload_n 0, 1) := by decide +kernel
theorem dX7_moveOf_1 : decode cX7_moveOf 1 = .ok (.iload_n 1, 1) := by decide +kernel
theorem dX7_moveOf_2 : decode cX7_moveOf 2 = .ok (.invokevirtual 123, 3) := by decide +kernel
theorem dX7_moveOf_5 : decode cX7_moveOf 5 = .ok (.iload_n 2, 1) := by decide +kernel
theorem dX7_moveOf_6 : decode cX7_moveOf 6 = .ok (.bipush 9, 2) := by decide +kernel
theorem dX7_moveOf_8 : decode cX7_moveOf 8 = .ok (.invokestatic 116, 3) := by decide +kernel
theorem dX7_moveOf_11 : decode cX7_moveOf 11 = .ok (.aload_n 0, 1) := by decide +kernel
theorem dX7_moveOf_12 : decode cX7_moveOf 12 = .ok (.getfield 10, 3) := by decide +kernel
theorem dX7_moveOf_15 : decode cX7_moveOf 15 = .ok (.getfield 126, 3) := by decide +kernel
theorem dX7_moveOf_18 : decode cX7_moveOf 18 = .ok (.iload_n 1, 1) := by decide +kernel
theorem dX7_moveOf_19 : decode cX7_moveOf 19 = .ok (.aaload, 1) := by decide +kernel
theorem dX7_moveOf_20 : decode cX7_moveOf 20 = .ok (.iload_n 2, 1) := by decide +kernel
theorem dX7_moveOf_21 : decode cX7_moveOf 21 = .ok (.invokevirtual 130, 3) := by decide +kernel
theorem dX7_moveOf_24 : decode cX7_moveOf 24 = .ok (.ireturn, 1) := by decide +kernel
set_option maxRecDepth 20000 in
theorem ggX7_hostage_X7_requireMove : GoodIn wsX7_hostage wsX7_requireMove := goodIn_ca (goodIn_r _ [9, 10, 11, 3, 12, 26, 27, 28, 29, 30, 31, 32, 33, 34, 35, 36, 37, 38, 39, 40, 41] (by decide +kernel) (by decide +kernel)) (goodIn_sub (fun _ h => List.mem_cons_of_mem _ (List.mem_append_right _ h)) (by decide +kernel))
set_option maxRecDepth 20000 in
theorem gX7_hostage_X7_requireMove : GoodIn wsX7_hostage (wsV RX7 123 RX7 yX7_requireMove wsX7_requireMove) := goodIn_app (goodIn_of _ (by decide +kernel)) ggX7_hostage_X7_requireMove
set_option maxRecDepth 20000 in
theorem ggX7_hostage_X3_hostageAt : GoodIn wsX7_hostage wsX3_hostageAt := goodIn_r _ [17, 18, 19, 20, 21, 22, 16, 23, 24, 25, 42, 43, 44, 45, 46, 47, 48, 49, 50, 51, 52, 53, 54] (by decide +kernel) (by decide +kernel)
set_option maxRecDepth 20000 in
theorem gX7_hostage_X3_hostageAt : GoodIn wsX7_hostage (wsV RX7 140 RX3 yX3_hostageAt wsX3_hostageAt) := goodIn_app (goodIn_of _ (by decide +kernel)) ggX7_hostage_X3_hostageAt
theorem dX7_hostage_0 : decode cX7_hostage 0 = .ok (.aload_n 0, 1) := by decide +kernel
theorem dX7_hostage_1 : decode cX7_hostage 1 = .ok (.iload_n 1, 1) := by decide +kernel
theorem dX7_hostage_2 : decode cX7_hostage 2 = .ok (.invokevirtual 123, 3) := by decide +kernel
theorem dX7_hostage_5 : decode cX7_hostage 5 = .ok (.iload_n 2, 1) := by decide +kernel
theorem dX7_hostage_6 : decode cX7_hostage 6 = .ok (.ifCond .ge 13, 3) := by decide +kernel
theorem dX7_hostage_9 : decode cX7_hostage 9 = .ok (.new 135, 3) := by decide +kernel
theorem dX7_hostage_12 : decode cX7_hostage 12 = .ok (.dup, 1) := by decide +kernel
theorem dX7_hostage_13 : decode cX7_hostage 13 = .ok (.ldc 137, 2) := by decide +kernel
theorem dX7_hostage_15 : decode cX7_hostage 15 = .ok (.invokespecial 139, 3) := by decide +kernel
theorem dX7_hostage_18 : decode cX7_hostage 18 = .ok (.athrow, 1) := by decide +kernel
theorem dX7_hostage_19 : decode cX7_hostage 19 = .ok (.aload_n 0, 1) := by decide +kernel
theorem dX7_hostage_20 : decode cX7_hostage 20 = .ok (.getfield 10, 3) := by decide +kernel
theorem dX7_hostage_23 : decode cX7_hostage 23 = .ok (.getfield 126, 3) := by decide +kernel
theorem dX7_hostage_26 : decode cX7_hostage 26 = .ok (.iload_n 1, 1) := by decide +kernel
theorem dX7_hostage_27 : decode cX7_hostage 27 = .ok (.aaload, 1) := by decide +kernel
theorem dX7_hostage_28 : decode cX7_hostage 28 = .ok (.iload_n 2, 1) := by decide +kernel
theorem dX7_hostage_29 : decode cX7_hostage 29 = .ok (.invokevirtual 140, 3) := by decide +kernel
theorem dX7_hostage_32 : decode cX7_hostage 32 = .ok (.ireturn, 1) := by decide +kernel
set_option maxRecDepth 20000 in
theorem ggX7_cellSet_X7_requireMove : GoodIn wsX7_cellSet wsX7_requireMove := goodIn_ca (goodIn_r _ [9, 10, 11, 1, 12, 13, 14, 15, 16, 17, 18, 19, 20, 21, 22, 23, 24, 25, 26, 27, 28] (by decide +kernel) (by decide +kernel)) (goodIn_sub (fun _ h => List.mem_cons_of_mem _ (List.mem_append_right _ h)) (by decide +kernel))
set_option maxRecDepth 20000 in
theorem gX7_cellSet_X7_requireMove : GoodIn wsX7_cellSet (wsV RX7 123 RX7 yX7_requireMove wsX7_requireMove) := goodIn_app (goodIn_of _ (by decide +kernel)) ggX7_cellSet_X7_requireMove
theorem dX7_cellSet_0 : decode cX7_cellSet 0 = .ok (.aload_n 0, 1) := by decide +kernel
theorem dX7_cellSet_1 : decode cX7_cellSet 1 = .ok (.iload_n 1, 1) := by decide +kernel
theorem dX7_cellSet_2 : decode cX7_cellSet 2 = .ok (.invokevirtual 123, 3) := by decide +kernel
theorem dX7_cellSet_5 : decode cX7_cellSet 5 = .ok (.iload_n 2, 1) := by decide +kernel
theorem dX7_cellSet_6 : decode cX7_cellSet 6 = .ok (.ifCond .eq 18, 3) := by decide +kernel
theorem dX7_cellSet_9 : decode cX7_cellSet 9 = .ok (.aload_n 0, 1) := by decide +kernel
theorem dX7_cellSet_10 : decode cX7_cellSet 10 = .ok (.getfield 10, 3) := by decide +kernel
theorem dX7_cellSet_13 : decode cX7_cellSet 13 = .ok (.getfield 126, 3) := by decide +kernel
theorem dX7_cellSet_16 : decode cX7_cellSet 16 = .ok (.iload_n 1, 1) := by decide +kernel
theorem dX7_cellSet_17 : decode cX7_cellSet 17 = .ok (.aaload, 1) := by decide +kernel
theorem dX7_cellSet_18 : decode cX7_cellSet 18 = .ok (.getfield 143, 3) := by decide +kernel
theorem dX7_cellSet_21 : decode cX7_cellSet 21 = .ok (.goto 15, 3) := by decide +kernel
theorem dX7_cellSet_24 : decode cX7_cellSet 24 = .ok (.aload_n 0, 1) := by decide +kernel
theorem dX7_cellSet_25 : decode cX7_cellSet 25 = .ok (.getfield 10, 3) := by decide +kernel
theorem dX7_cellSet_28 : decode cX7_cellSet 28 = .ok (.getfield 126, 3) := by decide +kernel
theorem dX7_cellSet_31 : decode cX7_cellSet 31 = .ok (.iload_n 1, 1) := by decide +kernel
theorem dX7_cellSet_32 : decode cX7_cellSet 32 = .ok (.aaload, 1) := by decide +kernel
theorem dX7_cellSet_33 : decode cX7_cellSet 33 = .ok (.getfield 147, 3) := by decide +kernel
theorem dX7_cellSet_36 : decode cX7_cellSet 36 = .ok (.lreturn, 1) := by decide +kernel
set_option maxRecDepth 20000 in
theorem ggX7_held_X5_heldCells : GoodIn wsX7_held wsX5_heldCells := goodIn_r _ [6, 7, 8, 9, 10, 11, 12, 13, 14, 15, 20, 21, 22, 23, 24, 25, 26, 27, 28, 29, 30, 31, 32, 33, 34, 35, 36, 37, 38, 39, 40, 41, 42, 43, 44] (by decide +kernel) (by decide +kernel)
set_option maxRecDepth 20000 in
theorem gX7_held_X5_heldCells : GoodIn wsX7_held (wsV RX7 150 RX5 yX5_heldCells wsX5_heldCells) := goodIn_app (goodIn_of _ (by decide +kernel)) ggX7_held_X5_heldCells
theorem dX7_held_0 : decode cX7_held 0 = .ok (.aload_n 0, 1) := by decide +kernel
theorem dX7_held_1 : decode cX7_held 1 = .ok (.getfield 10, 3) := by decide +kernel
theorem dX7_held_4 : decode cX7_held 4 = .ok (.invokevirtual 150, 3) := by decide +kernel
theorem dX7_held_7 : decode cX7_held 7 = .ok (.lreturn, 1) := by decide +kernel
set_option maxRecDepth 20000 in
theorem ggX7_whole_X7_requireRange : GoodIn wsX7_whole wsX7_requireRange := goodIn_ca (goodIn_r _ [4, 5, 6, 7, 8, 3, 9] (by decide +kernel) (by decide +kernel)) (goodIn_sub (fun _ h => List.mem_cons_of_mem _ (List.mem_append_right _ h)) (by decide +kernel))
set_option maxRecDepth 20000 in
theorem gX7_whole_X7_requireRange : GoodIn wsX7_whole (va_wsS RX7 116 yX7_requireRange wsX7_requireRange) := goodIn_app (goodIn_of _ (by decide +kernel)) ggX7_whole_X7_requireRange
set_option maxRecDepth 20000 in
theorem ggX7_whole_X7_wholePart : GoodIn wsX7_whole wsX7_wholePart := goodIn_r _ [13, 14, 15, 16, 17, 18, 19, 20, 21, 22, 23, 24, 25, 26, 27, 28, 29, 30, 31, 32, 33, 34, 35, 36, 37, 38, 39, 40, 41, 42, 43, 44, 45, 46, 47, 48, 49, 50, 51, 52, 53, 54, 55, 56, 57, 58, 59, 60, 61, 62, 63, 64, 65, 66, 67, 68, 69, 70, 71, 72, 73, 74, 75, 76, 77, 78, 79, 80, 81, 82, 83, 84, 85, 86, 87, 88, 89, 90, 91, 92, 93] (by decide +kernel) (by decide +kernel)
set_option maxRecDepth 20000 in
theorem gX7_whole_X7_wholePart : GoodIn wsX7_whole (wsV RX7 154 RX7 yX7_wholePart wsX7_wholePart) := goodIn_app (goodIn_of _ (by decide +kernel)) ggX7_whole_X7_wholePart
theorem dX7_whole_0 : decode cX7_whole 0 = .ok (.iload_n 1, 1) := by decide +kernel
theorem dX7_whole_1 : decode cX7_whole 1 = .ok (.bipush 14, 2) := by decide +kernel
theorem dX7_whole_3 : decode cX7_whole 3 = .ok (.invokestatic 116, 3) := by decide +kernel
theorem dX7_whole_6 : decode cX7_whole 6 = .ok (.aload_n 0, 1) := by decide +kernel
theorem dX7_whole_7 : decode cX7_whole 7 = .ok (.iload_n 1, 1) := by decide +kernel
theorem dX7_whole_8 : decode cX7_whole 8 = .ok (.invokevirtual 154, 3) := by decide +kernel
theorem dX7_whole_11 : decode cX7_whole 11 = .ok (.ireturn, 1) := by decide +kernel
set_option maxRecDepth 20000 in
theorem ggX7_reason_X7_requireCell : GoodIn wsX7_reason wsX7_requireCell := goodIn_ca (goodIn_r _ [5, 6, 7, 8, 9, 4, 10, 11, 12, 13] (by decide +kernel) (by decide +kernel)) (goodIn_sub (fun _ h => List.mem_cons_of_mem _ (List.mem_append_right _ h)) (by decide +kernel))
set_option maxRecDepth 20000 in
theorem gX7_reason_X7_requireCell : GoodIn wsX7_reason (va_wsS RX7 98 yX7_requireCell wsX7_requireCell) := goodIn_app (goodIn_of _ (by decide +kernel)) ggX7_reason_X7_requireCell
set_option maxRecDepth 20000 in
theorem ggX7_reason_X5_barOf : GoodIn wsX7_reason wsX5_barOf := goodIn_r _ [18, 19, 20, 21, 22, 23, 24, 25, 26, 17, 27, 28, 29, 30, 31, 32, 33, 38, 39, 40, 41, 42, 43, 44, 45, 46, 47, 48, 49, 50, 51, 52, 53, 54, 55, 56, 57, 58, 59, 60, 61, 62] (by decide +kernel) (by decide +kernel)
set_option maxRecDepth 20000 in
theorem gX7_reason_X5_barOf : GoodIn wsX7_reason (wsV RX7 157 RX5 yX5_barOf wsX5_barOf) := goodIn_app (goodIn_of _ (by decide +kernel)) ggX7_reason_X5_barOf
theorem dX7_reason_0 : decode cX7_reason 0 = .ok (.iload_n 1, 1) := by decide +kernel
theorem dX7_reason_1 : decode cX7_reason 1 = .ok (.invokestatic 98, 3) := by decide +kernel
theorem dX7_reason_4 : decode cX7_reason 4 = .ok (.aload_n 0, 1) := by decide +kernel
theorem dX7_reason_5 : decode cX7_reason 5 = .ok (.getfield 10, 3) := by decide +kernel
theorem dX7_reason_8 : decode cX7_reason 8 = .ok (.iload_n 1, 1) := by decide +kernel
theorem dX7_reason_9 : decode cX7_reason 9 = .ok (.invokevirtual 157, 3) := by decide +kernel
theorem dX7_reason_12 : decode cX7_reason 12 = .ok (.ireturn, 1) := by decide +kernel
set_option maxRecDepth 20000 in
theorem ggX7_waitsFor_X7_requireMove : GoodIn wsX7_waitsFor wsX7_requireMove := goodIn_ca (goodIn_r _ [6, 7, 8, 1, 9, 25, 26, 27, 28, 29, 30, 31, 32, 33, 34, 35, 36, 37, 38, 39, 40] (by decide +kernel) (by decide +kernel)) (goodIn_sub (fun _ h => List.mem_cons_of_mem _ (List.mem_append_right _ h)) (by decide +kernel))
set_option maxRecDepth 20000 in
theorem gX7_waitsFor_X7_requireMove : GoodIn wsX7_waitsFor (wsV RX7 123 RX7 yX7_requireMove wsX7_requireMove) := goodIn_app (goodIn_of _ (by decide +kernel)) ggX7_waitsFor_X7_requireMove
set_option maxRecDepth 20000 in
theorem ggX7_waitsFor_X5_waitedFor : GoodIn wsX7_waitsFor wsX5_waitedFor := goodIn_r _ [14, 15, 16, 17, 18, 19, 20, 21, 22, 23, 24, 29, 30, 31, 32, 33, 34, 35, 36, 37, 38, 39, 40, 41, 42, 43, 44, 45, 46, 47, 48, 49, 50, 51, 52, 53] (by decide +kernel) (by decide +kernel)
set_option maxRecDepth 20000 in
theorem gX7_waitsFor_X5_waitedFor : GoodIn wsX7_waitsFor (wsV RX7 160 RX5 yX5_waitedFor wsX5_waitedFor) := goodIn_app (goodIn_of _ (by decide +kernel)) ggX7_waitsFor_X5_waitedFor
theorem dX7_waitsFor_0 : decode cX7_waitsFor 0 = .ok (.aload_n 0, 1) := by decide +kernel
theorem dX7_waitsFor_1 : decode cX7_waitsFor 1 = .ok (.iload_n 1, 1) := by decide +kernel
theorem dX7_waitsFor_2 : decode cX7_waitsFor 2 = .ok (.invokevirtual 123, 3) := by decide +kernel
theorem dX7_waitsFor_5 : decode cX7_waitsFor 5 = .ok (.aload_n 0, 1) := by decide +kernel
theorem dX7_waitsFor_6 : decode cX7_waitsFor 6 = .ok (.getfield 10, 3) := by decide +kernel
theorem dX7_waitsFor_9 : decode cX7_waitsFor 9 = .ok (.iload_n 1, 1) := by decide +kernel
theorem dX7_waitsFor_10 : decode cX7_waitsFor 10 = .ok (.invokevirtual 160, 3) := by decide +kernel
theorem dX7_waitsFor_13 : decode cX7_waitsFor 13 = .ok (.ireturn, 1) := by decide +kernel
set_option maxRecDepth 20000 in
theorem ggX7_depth_X7_requireMove : GoodIn wsX7_depth wsX7_requireMove := goodIn_ca (goodIn_r _ [6, 7, 8, 1, 9, 34, 35, 36, 37, 38, 39, 40, 41, 42, 43, 44, 45, 46, 47, 48, 49] (by decide +kernel) (by decide +kernel)) (goodIn_sub (fun _ h => List.mem_cons_of_mem _ (List.mem_append_right _ h)) (by decide +kernel))
set_option maxRecDepth 20000 in
theorem gX7_depth_X7_requireMove : GoodIn wsX7_depth (wsV RX7 123 RX7 yX7_requireMove wsX7_requireMove) := goodIn_app (goodIn_of _ (by decide +kernel)) ggX7_depth_X7_requireMove
set_option maxRecDepth 20000 in
theorem ggX7_depth_X5_depthOf : GoodIn wsX7_depth wsX5_depthOf := goodIn_r _ [14, 15, 16, 17, 18, 19, 20, 21, 22, 13, 23, 24, 25, 26, 27, 28, 29, 30, 31, 32, 33, 38, 39, 40, 41, 42, 43, 44, 45, 46, 47, 48, 49, 50, 51, 52, 53, 54, 55, 56, 57, 58, 59, 60, 61, 62] (by decide +kernel) (by decide +kernel)
set_option maxRecDepth 20000 in
theorem gX7_depth_X5_depthOf : GoodIn wsX7_depth (wsV RX7 163 RX5 yX5_depthOf wsX5_depthOf) := goodIn_app (goodIn_of _ (by decide +kernel)) ggX7_depth_X5_depthOf
theorem dX7_depth_0 : decode cX7_depth 0 = .ok (.aload_n 0, 1) := by decide +kernel
theorem dX7_depth_1 : decode cX7_depth 1 = .ok (.iload_n 1, 1) := by decide +kernel
theorem dX7_depth_2 : decode cX7_depth 2 = .ok (.invokevirtual 123, 3) := by decide +kernel
theorem dX7_depth_5 : decode cX7_depth 5 = .ok (.aload_n 0, 1) := by decide +kernel
theorem dX7_depth_6 : decode cX7_depth 6 = .ok (.getfield 10, 3) := by decide +kernel
theorem dX7_depth_9 : decode cX7_depth 9 = .ok (.iload_n 1, 1) := by decide +kernel
theorem dX7_depth_10 : decode cX7_depth 10 = .ok (.invokevirtual 163, 3) := by decide +kernel
theorem dX7_depth_13 : decode cX7_depth 13 = .ok (.ireturn, 1) := by decide +kernel
set_option maxRecDepth 20000 in
theorem ggX7_wholePart_X5_wholePart : GoodIn wsX7_wholePart wsX5_wholePart := goodIn_r _ [8, 9, 10, 11, 12, 13, 14, 15, 16, 17, 18, 19, 7, 20, 21, 22, 23, 24, 25, 26, 27, 28, 29, 30, 31, 32, 33, 34, 35, 36, 37, 38, 39, 40, 41, 42, 43, 44, 45, 56, 57, 58, 59, 60, 61, 62, 63, 64, 65, 66, 67, 68, 69, 70, 71, 72, 73, 74, 75, 76, 77, 78, 79, 80] (by decide +kernel) (by decide +kernel)
set_option maxRecDepth 20000 in
theorem gX7_wholePart_X5_wholePart : GoodIn wsX7_wholePart (wsV RX7 246 RX5 yX5_wholePart wsX5_wholePart) := goodIn_app (goodIn_of _ (by decide +kernel)) ggX7_wholePart_X5_wholePart
theorem dX7_wholePart_0 : decode cX7_wholePart 0 = .ok (.iload_n 1, 1) := by decide +kernel
theorem dX7_wholePart_1 : decode cX7_wholePart 1 = .ok (.bipush 14, 2) := by decide +kernel
theorem dX7_wholePart_3 : decode cX7_wholePart 3 = .ok (.if_icmp .ne 13, 3) := by decide +kernel
theorem dX7_wholePart_6 : decode cX7_wholePart 6 = .ok (.aload_n 0, 1) := by decide +kernel
theorem dX7_wholePart_7 : decode cX7_wholePart 7 = .ok (.getfield 29, 3) := by decide +kernel
theorem dX7_wholePart_10 : decode cX7_wholePart 10 = .ok (.getfield 182, 3) := by decide +kernel
theorem dX7_wholePart_13 : decode cX7_wholePart 13 = .ok (.goto 11, 3) := by decide +kernel
theorem dX7_wholePart_16 : decode cX7_wholePart 16 = .ok (.aload_n 0, 1) := by decide +kernel
theorem dX7_wholePart_17 : decode cX7_wholePart 17 = .ok (.getfield 10, 3) := by decide +kernel
theorem dX7_wholePart_20 : decode cX7_wholePart 20 = .ok (.iload_n 1, 1) := by decide +kernel
theorem dX7_wholePart_21 : decode cX7_wholePart 21 = .ok (.invokevirtual 246, 3) := by decide +kernel
theorem dX7_wholePart_24 : decode cX7_wholePart 24 = .ok (.ireturn, 1) := by decide +kernel
theorem dX7_refuse_0 : decode cX7_refuse 0 = .ok (.iload_n 0, 1) := by decide +kernel
theorem dX7_refuse_1 : decode cX7_refuse 1 = .ok (.iconst 1, 1) := by decide +kernel
theorem dX7_refuse_2 : decode cX7_refuse 2 = .ok (.if_icmp .ne 14, 3) := by decide +kernel
theorem dX7_refuse_5 : decode cX7_refuse 5 = .ok (.new 109, 3) := by decide +kernel
theorem dX7_refuse_8 : decode cX7_refuse 8 = .ok (.dup, 1) := by decide +kernel
theorem dX7_refuse_9 : decode cX7_refuse 9 = .ok (.ldc_w 264, 3) := by decide +kernel
theorem dX7_refuse_12 : decode cX7_refuse 12 = .ok (.invokespecial 113, 3) := by decide +kernel
theorem dX7_refuse_15 : decode cX7_refuse 15 = .ok (.athrow, 1) := by decide +kernel
theorem dX7_refuse_16 : decode cX7_refuse 16 = .ok (.iload_n 0, 1) := by decide +kernel
theorem dX7_refuse_17 : decode cX7_refuse 17 = .ok (.iconst 2, 1) := by decide +kernel
theorem dX7_refuse_18 : decode cX7_refuse 18 = .ok (.if_icmp .ne 14, 3) := by decide +kernel
theorem dX7_refuse_21 : decode cX7_refuse 21 = .ok (.new 135, 3) := by decide +kernel
theorem dX7_refuse_24 : decode cX7_refuse 24 = .ok (.dup, 1) := by decide +kernel
theorem dX7_refuse_25 : decode cX7_refuse 25 = .ok (.ldc_w 266, 3) := by decide +kernel
theorem dX7_refuse_28 : decode cX7_refuse 28 = .ok (.invokespecial 139, 3) := by decide +kernel
theorem dX7_refuse_31 : decode cX7_refuse 31 = .ok (.athrow, 1) := by decide +kernel
theorem dX7_refuse_32 : decode cX7_refuse 32 = .ok (.iload_n 0, 1) := by decide +kernel
theorem dX7_refuse_33 : decode cX7_refuse 33 = .ok (.iconst 3, 1) := by decide +kernel
theorem dX7_refuse_34 : decode cX7_refuse 34 = .ok (.if_icmp .ne 14, 3) := by decide +kernel
theorem dX7_refuse_37 : decode cX7_refuse 37 = .ok (.new 185, 3) := by decide +kernel
theorem dX7_refuse_40 : decode cX7_refuse 40 = .ok (.dup, 1) := by decide +kernel
theorem dX7_refuse_41 : decode cX7_refuse 41 = .ok (.ldc_w 268, 3) := by decide +kernel
theorem dX7_refuse_44 : decode cX7_refuse 44 = .ok (.invokespecial 189, 3) := by decide +kernel
theorem dX7_refuse_47 : decode cX7_refuse 47 = .ok (.athrow, 1) := by decide +kernel
theorem dX7_refuse_48 : decode cX7_refuse 48 = .ok (.return_, 1) := by decide +kernel
set_option maxRecDepth 20000 in
theorem ggX7_requireCell_X7_isCell : GoodIn wsX7_requireCell wsX7_isCell := goodIn_r _ [6, 7, 8, 5, 9] (by decide +kernel) (by decide +kernel)
set_option maxRecDepth 20000 in
theorem gX7_requireCell_X7_isCell : GoodIn wsX7_requireCell (va_wsS RX7 270 yX7_isCell wsX7_isCell) := goodIn_app (goodIn_of _ (by decide +kernel)) ggX7_requireCell_X7_isCell
theorem dX7_requireCell_0 : decode cX7_requireCell 0 = .ok (.iload_n 0, 1) := by decide +kernel
theorem dX7_requireCell_1 : decode cX7_requireCell 1 = .ok (.invokestatic 270, 3) := by decide +kernel
theorem dX7_requireCell_4 : decode cX7_requireCell 4 = .ok (.ifCond .ne 14, 3) := by decide +kernel
theorem dX7_requireCell_7 : decode cX7_requireCell 7 = .ok (.new 109, 3) := by decide +kernel
theorem dX7_requireCell_10 : decode cX7_requireCell 10 = .ok (.dup, 1) := by decide +kernel
theorem dX7_requireCell_11 : decode cX7_requireCell 11 = .ok (.ldc_w 273, 3) := by decide +kernel
theorem dX7_requireCell_14 : decode cX7_requireCell 14 = .ok (.invokespecial 113, 3) := by decide +kernel
theorem dX7_requireCell_17 : decode cX7_requireCell 17 = .ok (.athrow, 1) := by decide +kernel
theorem dX7_requireCell_18 : decode cX7_requireCell 18 = .ok (.return_, 1) := by decide +kernel
theorem dX7_requireMove_0 : decode cX7_requireMove 0 = .ok (.iload_n 1, 1) := by decide +kernel
theorem dX7_requireMove_1 : decode cX7_requireMove 1 = .ok (.ifCond .lt 14, 3) := by decide +kernel
theorem dX7_requireMove_4 : decode cX7_requireMove 4 = .ok (.iload_n 1, 1) := by decide +kernel
theorem dX7_requireMove_5 : decode cX7_requireMove 5 = .ok (.aload_n 0, 1) := by decide +kernel
theorem dX7_requireMove_6 : decode cX7_requireMove 6 = .ok (.getfield 10, 3) := by decide +kernel
theorem dX7_requireMove_9 : decode cX7_requireMove 9 = .ok (.getfield 240, 3) := by decide +kernel
theorem dX7_requireMove_12 : decode cX7_requireMove 12 = .ok (.if_icmp .lt 14, 3) := by decide +kernel
theorem dX7_requireMove_15 : decode cX7_requireMove 15 = .ok (.new 109, 3) := by decide +kernel
theorem dX7_requireMove_18 : decode cX7_requireMove 18 = .ok (.dup, 1) := by decide +kernel
theorem dX7_requireMove_19 : decode cX7_requireMove 19 = .ok (.ldc_w 275, 3) := by decide +kernel
theorem dX7_requireMove_22 : decode cX7_requireMove 22 = .ok (.invokespecial 113, 3) := by decide +kernel
theorem dX7_requireMove_25 : decode cX7_requireMove 25 = .ok (.athrow, 1) := by decide +kernel
theorem dX7_requireMove_26 : decode cX7_requireMove 26 = .ok (.return_, 1) := by decide +kernel
set_option maxRecDepth 20000 in
theorem ggX7_requireRange_X7_isWithin : GoodIn wsX7_requireRange wsX7_isWithin := goodIn_r _ [6] (by decide +kernel) (by decide +kernel)
set_option maxRecDepth 20000 in
theorem gX7_requireRange_X7_isWithin : GoodIn wsX7_requireRange (va_wsS RX7 277 yX7_isWithin wsX7_isWithin) := goodIn_app (goodIn_of _ (by decide +kernel)) ggX7_requireRange_X7_isWithin
theorem dX7_requireRange_0 : decode cX7_requireRange 0 = .ok (.iload_n 0, 1) := by decide +kernel
theorem dX7_requireRange_1 : decode cX7_requireRange 1 = .ok (.iconst 0, 1) := by decide +kernel
theorem dX7_requireRange_2 : decode cX7_requireRange 2 = .ok (.iload_n 1, 1) := by decide +kernel
theorem dX7_requireRange_3 : decode cX7_requireRange 3 = .ok (.invokestatic 277, 3) := by decide +kernel
theorem dX7_requireRange_6 : decode cX7_requireRange 6 = .ok (.ifCond .ne 14, 3) := by decide +kernel
theorem dX7_requireRange_9 : decode cX7_requireRange 9 = .ok (.new 135, 3) := by decide +kernel
theorem dX7_requireRange_12 : decode cX7_requireRange 12 = .ok (.dup, 1) := by decide +kernel
theorem dX7_requireRange_13 : decode cX7_requireRange 13 = .ok (.ldc_w 266, 3) := by decide +kernel
theorem dX7_requireRange_16 : decode cX7_requireRange 16 = .ok (.invokespecial 139, 3) := by decide +kernel
theorem dX7_requireRange_19 : decode cX7_requireRange 19 = .ok (.athrow, 1) := by decide +kernel
theorem dX7_requireRange_20 : decode cX7_requireRange 20 = .ok (.return_, 1) := by decide +kernel
set_option maxRecDepth 20000 in
theorem ggX7_isCell_X7_isWithin : GoodIn wsX7_isCell wsX7_isWithin := goodIn_r _ [4] (by decide +kernel) (by decide +kernel)
set_option maxRecDepth 20000 in
theorem gX7_isCell_X7_isWithin : GoodIn wsX7_isCell (va_wsS RX7 277 yX7_isWithin wsX7_isWithin) := goodIn_app (goodIn_of _ (by decide +kernel)) ggX7_isCell_X7_isWithin
theorem dX7_isCell_0 : decode cX7_isCell 0 = .ok (.iload_n 0, 1) := by decide +kernel
theorem dX7_isCell_1 : decode cX7_isCell 1 = .ok (.iconst 0, 1) := by decide +kernel
theorem dX7_isCell_2 : decode cX7_isCell 2 = .ok (.bipush 47, 2) := by decide +kernel
theorem dX7_isCell_4 : decode cX7_isCell 4 = .ok (.invokestatic 277, 3) := by decide +kernel
theorem dX7_isCell_7 : decode cX7_isCell 7 = .ok (.ireturn, 1) := by decide +kernel
theorem dX7_isWithin_0 : decode cX7_isWithin 0 = .ok (.iload_n 0, 1) := by decide +kernel
theorem dX7_isWithin_1 : decode cX7_isWithin 1 = .ok (.iload_n 1, 1) := by decide +kernel
theorem dX7_isWithin_2 : decode cX7_isWithin 2 = .ok (.if_icmp .lt 12, 3) := by decide +kernel
theorem dX7_isWithin_5 : decode cX7_isWithin 5 = .ok (.iload_n 0, 1) := by decide +kernel
theorem dX7_isWithin_6 : decode cX7_isWithin 6 = .ok (.iload_n 2, 1) := by decide +kernel
theorem dX7_isWithin_7 : decode cX7_isWithin 7 = .ok (.if_icmp .gt 7, 3) := by decide +kernel
theorem dX7_isWithin_10 : decode cX7_isWithin 10 = .ok (.iconst 1, 1) := by decide +kernel
theorem dX7_isWithin_11 : decode cX7_isWithin 11 = .ok (.goto 4, 3) := by decide +kernel
theorem dX7_isWithin_14 : decode cX7_isWithin 14 = .ok (.iconst 0, 1) := by decide +kernel
theorem dX7_isWithin_15 : decode cX7_isWithin 15 = .ok (.ireturn, 1) := by decide +kernel
