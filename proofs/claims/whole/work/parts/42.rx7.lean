set_option maxRecDepth 20000 in
theorem ggX7_init_X5_init : GoodIn wsX7_init wsX5_init := goodIn_r _ [19, 20, 2, 3, 21, 22, 23, 24, 25, 26, 27, 28, 29, 30, 31, 32, 33, 34, 35, 36, 37, 38, 39, 40, 57, 58, 59, 60, 61, 62, 63, 64, 65, 66, 67, 68, 82, 83, 84, 85, 86, 87, 88, 89, 90, 91, 92, 93, 94, 95, 96, 97, 98] (by decide +kernel) (by decide +kernel)
set_option maxRecDepth 20000 in
theorem gX7_init_X5_init : GoodIn wsX7_init (wsX5_init) := ggX7_init_X5_init
set_option maxRecDepth 20000 in
theorem ggX7_init_X2_init : GoodIn wsX7_init wsX2_init := goodIn_r _ [43, 44, 2, 3, 45, 46, 5, 6, 47, 18, 19, 20, 21, 22, 23, 24, 25, 26, 27, 28, 29, 30, 31, 32, 33, 34, 35, 36, 37, 38, 39, 40, 73, 74, 75, 57, 58, 59, 60, 61, 62, 63, 64, 65, 66, 67, 68, 82, 83, 84, 85, 86, 87, 88, 89, 90, 91, 92, 93, 94, 95, 96, 97, 98] (by decide +kernel) (by decide +kernel)
set_option maxRecDepth 20000 in
theorem gX7_init_X2_init : GoodIn wsX7_init (wsX2_init) := ggX7_init_X2_init
set_option maxRecDepth 20000 in
theorem ggX7_init_X1_init : GoodIn wsX7_init wsX1_init := goodIn_r _ [49, 50, 2, 3, 51, 52, 21, 53, 54, 55, 56, 76, 77, 78, 79, 80, 81] (by decide +kernel) (by decide +kernel)
set_option maxRecDepth 20000 in
theorem gX7_init_X1_init_n28 : GoodIn wsX7_init (wsX1_init) := ggX7_init_X1_init
theorem dX7_init_0 : decode cX7_init 0 = .ok (.aload_n 0, 1) := by decide +kernel
theorem dX7_init_1 : decode cX7_init 1 = .ok (.invokespecial 1, 3) := by decide +kernel
theorem dX7_init_4 : decode cX7_init 4 = .ok (.aload_n 0, 1) := by decide +kernel
theorem dX7_init_5 : decode cX7_init 5 = .ok (.new 7, 3) := by decide +kernel
theorem dX7_init_8 : decode cX7_init 8 = .ok (.dup, 1) := by decide +kernel
theorem dX7_init_9 : decode cX7_init 9 = .ok (.invokespecial 9, 3) := by decide +kernel
theorem dX7_init_12 : decode cX7_init 12 = .ok (.putfield 10, 3) := by decide +kernel
theorem dX7_init_15 : decode cX7_init 15 = .ok (.aload_n 0, 1) := by decide +kernel
theorem dX7_init_16 : decode cX7_init 16 = .ok (.new 7, 3) := by decide +kernel
theorem dX7_init_19 : decode cX7_init 19 = .ok (.dup, 1) := by decide +kernel
theorem dX7_init_20 : decode cX7_init 20 = .ok (.invokespecial 9, 3) := by decide +kernel
theorem dX7_init_23 : decode cX7_init 23 = .ok (.putfield 16, 3) := by decide +kernel
theorem dX7_init_26 : decode cX7_init 26 = .ok (.aload_n 0, 1) := by decide +kernel
theorem dX7_init_27 : decode cX7_init 27 = .ok (.new 19, 3) := by decide +kernel
theorem dX7_init_30 : decode cX7_init 30 = .ok (.dup, 1) := by decide +kernel
theorem dX7_init_31 : decode cX7_init 31 = .ok (.invokespecial 21, 3) := by decide +kernel
theorem dX7_init_34 : decode cX7_init 34 = .ok (.putfield 22, 3) := by decide +kernel
theorem dX7_init_37 : decode cX7_init 37 = .ok (.aload_n 0, 1) := by decide +kernel
theorem dX7_init_38 : decode cX7_init 38 = .ok (.new 26, 3) := by decide +kernel
theorem dX7_init_41 : decode cX7_init 41 = .ok (.dup, 1) := by decide +kernel
theorem dX7_init_42 : decode cX7_init 42 = .ok (.invokespecial 28, 3) := by decide +kernel
theorem dX7_init_45 : decode cX7_init 45 = .ok (.putfield 29, 3) := by decide +kernel
theorem dX7_init_48 : decode cX7_init 48 = .ok (.return_, 1) := by decide +kernel
set_option maxRecDepth 20000 in
theorem ggX7_addRing_X5_ringRefusal : GoodIn wsX7_addRing wsX5_ringRefusal := goodIn_r _ [7, 8, 9, 10, 11, 12, 13, 14, 15, 16, 17, 6, 18, 19, 20, 21, 98, 99, 100, 101, 102, 103, 104, 105, 106, 107, 108, 109, 110, 111, 112, 113] (by decide +kernel) (by decide +kernel)
set_option maxRecDepth 20000 in
theorem gX7_addRing_X5_ringRefusal : GoodIn wsX7_addRing (wsV RX7 33 RX5 yX5_ringRefusal wsX5_ringRefusal) := goodIn_app (goodIn_of _ (by decide +kernel)) ggX7_addRing_X5_ringRefusal
set_option maxRecDepth 20000 in
theorem ggX7_addRing_X7_refuse : GoodIn wsX7_addRing wsX7_refuse := goodIn_ca (goodIn_ca (goodIn_ca (goodIn_r _ [24, 25, 26, 27, 28, 29, 30] (by decide +kernel) (by decide +kernel)) (goodIn_sub (fun _ h => List.mem_cons_of_mem _ (List.mem_append_left _ (List.mem_append_left _ (List.mem_append_right _ h)))) (by decide +kernel))) (goodIn_sub (fun _ h => List.mem_cons_of_mem _ (List.mem_append_left _ (List.mem_append_right _ h))) (by decide +kernel))) (goodIn_sub (fun _ h => List.mem_cons_of_mem _ (List.mem_append_right _ h)) (by decide +kernel))
set_option maxRecDepth 20000 in
theorem gX7_addRing_X7_refuse : GoodIn wsX7_addRing (va_wsS RX7 37 yX7_refuse wsX7_refuse) := goodIn_app (goodIn_of _ (by decide +kernel)) ggX7_addRing_X7_refuse
set_option maxRecDepth 20000 in
theorem ggX7_addRing_X2_save : GoodIn wsX7_addRing wsX2_save := goodIn_r _ [35, 36, 37, 38, 39, 40, 41, 42, 43, 44, 45, 6, 46, 47, 48, 49, 50, 51, 8, 19, 52, 53, 54, 55, 56, 57, 58, 59, 60, 61, 62, 63, 64, 65, 66, 67, 68, 69, 70, 71, 72, 73, 74, 75, 76, 77, 78, 79, 80, 81, 82, 83, 84, 85, 86, 87, 114, 115, 116, 98, 99, 100, 101, 102, 103, 104, 105, 106, 107, 108, 109, 110, 111, 112, 113, 117, 118, 119, 120, 121, 122, 123, 124, 125, 126, 127, 128, 129] (by decide +kernel) (by decide +kernel)
set_option maxRecDepth 20000 in
theorem gX7_addRing_X2_save : GoodIn wsX7_addRing (wsV RX7 41 RX2 yX2_save wsX2_save) := goodIn_app (goodIn_of _ (by decide +kernel)) ggX7_addRing_X2_save
set_option maxRecDepth 20000 in
theorem ggX7_addRing_X5_putRing : GoodIn wsX7_addRing wsX5_putRing := goodIn_r _ [91, 19, 8, 20, 21, 92, 93, 98, 99, 100, 101, 102, 103, 104, 105, 106, 107, 108, 109, 110, 111, 112, 113] (by decide +kernel) (by decide +kernel)
set_option maxRecDepth 20000 in
theorem gX7_addRing_X5_putRing : GoodIn wsX7_addRing (wsV RX7 45 RX5 yX5_putRing wsX5_putRing) := goodIn_app (goodIn_of _ (by decide +kernel)) ggX7_addRing_X5_putRing
theorem dX7_addRing_0 : decode cX7_addRing 0 = .ok (.aload_n 0, 1) := by decide +kernel
theorem dX7_addRing_1 : decode cX7_addRing 1 = .ok (.getfield 10, 3) := by decide +kernel
theorem dX7_addRing_4 : decode cX7_addRing 4 = .ok (.iload_n 1, 1) := by decide +kernel
theorem dX7_addRing_5 : decode cX7_addRing 5 = .ok (.iload_n 2, 1) := by decide +kernel
theorem dX7_addRing_6 : decode cX7_addRing 6 = .ok (.iload_n 3, 1) := by decide +kernel
theorem dX7_addRing_7 : decode cX7_addRing 7 = .ok (.invokevirtual 33, 3) := by decide +kernel
theorem dX7_addRing_10 : decode cX7_addRing 10 = .ok (.invokestatic 37, 3) := by decide +kernel
theorem dX7_addRing_13 : decode cX7_addRing 13 = .ok (.aload_n 0, 1) := by decide +kernel
theorem dX7_addRing_14 : decode cX7_addRing 14 = .ok (.getfield 22, 3) := by decide +kernel
theorem dX7_addRing_17 : decode cX7_addRing 17 = .ok (.aload_n 0, 1) := by decide +kernel
theorem dX7_addRing_18 : decode cX7_addRing 18 = .ok (.getfield 10, 3) := by decide +kernel
theorem dX7_addRing_21 : decode cX7_addRing 21 = .ok (.invokevirtual 41, 3) := by decide +kernel
theorem dX7_addRing_24 : decode cX7_addRing 24 = .ok (.aload_n 0, 1) := by decide +kernel
theorem dX7_addRing_25 : decode cX7_addRing 25 = .ok (.getfield 10, 3) := by decide +kernel
theorem dX7_addRing_28 : decode cX7_addRing 28 = .ok (.iload_n 1, 1) := by decide +kernel
theorem dX7_addRing_29 : decode cX7_addRing 29 = .ok (.iload_n 2, 1) := by decide +kernel
theorem dX7_addRing_30 : decode cX7_addRing 30 = .ok (.iload_n 3, 1) := by decide +kernel
theorem dX7_addRing_31 : decode cX7_addRing 31 = .ok (.invokevirtual 45, 3) := by decide +kernel
theorem dX7_addRing_34 : decode cX7_addRing 34 = .ok (.ireturn, 1) := by decide +kernel
set_option maxRecDepth 20000 in
theorem ggX7_setPatience_X5_patienceRefusal : GoodIn wsX7_setPatience wsX5_patienceRefusal := goodIn_r _ [7, 8, 9, 10, 6, 11, 12, 13, 14, 15, 92, 93, 94, 95, 96, 97, 98, 99, 100, 101, 102, 103] (by decide +kernel) (by decide +kernel)
set_option maxRecDepth 20000 in
theorem gX7_setPatience_X5_patienceRefusal : GoodIn wsX7_setPatience (wsV RX7 48 RX5 yX5_patienceRefusal wsX5_patienceRefusal) := goodIn_app (goodIn_of _ (by decide +kernel)) ggX7_setPatience_X5_patienceRefusal
set_option maxRecDepth 20000 in
theorem ggX7_setPatience_X7_refuse : GoodIn wsX7_setPatience wsX7_refuse := goodIn_ca (goodIn_ca (goodIn_ca (goodIn_r _ [18, 19, 20, 21, 22, 23, 24] (by decide +kernel) (by decide +kernel)) (goodIn_sub (fun _ h => List.mem_cons_of_mem _ (List.mem_append_left _ (List.mem_append_left _ (List.mem_append_right _ h)))) (by decide +kernel))) (goodIn_sub (fun _ h => List.mem_cons_of_mem _ (List.mem_append_left _ (List.mem_append_right _ h))) (by decide +kernel))) (goodIn_sub (fun _ h => List.mem_cons_of_mem _ (List.mem_append_right _ h)) (by decide +kernel))
set_option maxRecDepth 20000 in
theorem gX7_setPatience_X7_refuse : GoodIn wsX7_setPatience (va_wsS RX7 37 yX7_refuse wsX7_refuse) := goodIn_app (goodIn_of _ (by decide +kernel)) ggX7_setPatience_X7_refuse
set_option maxRecDepth 20000 in
theorem ggX7_setPatience_X2_save : GoodIn wsX7_setPatience wsX2_save := goodIn_r _ [29, 30, 31, 32, 33, 34, 35, 36, 37, 38, 39, 6, 40, 41, 42, 43, 44, 45, 12, 46, 47, 48, 49, 50, 51, 52, 53, 54, 55, 56, 57, 58, 59, 60, 61, 62, 63, 64, 65, 66, 67, 68, 69, 70, 71, 72, 73, 74, 75, 76, 77, 78, 79, 80, 81, 82, 104, 105, 106, 92, 93, 94, 95, 96, 97, 98, 99, 100, 101, 102, 103, 107, 108, 109, 110, 111, 112, 113, 114, 115, 116, 117, 118, 119, 120, 121, 122, 123] (by decide +kernel) (by decide +kernel)
set_option maxRecDepth 20000 in
theorem gX7_setPatience_X2_save : GoodIn wsX7_setPatience (wsV RX7 41 RX2 yX2_save wsX2_save) := goodIn_app (goodIn_of _ (by decide +kernel)) ggX7_setPatience_X2_save
set_option maxRecDepth 20000 in
theorem ggX7_setPatience_X5_putPatience : GoodIn wsX7_setPatience wsX5_putPatience := goodIn_r _ [86, 46, 87, 92, 93, 94, 95, 96, 97, 98, 99, 100, 101, 102, 103, 107, 108, 109, 110] (by decide +kernel) (by decide +kernel)
set_option maxRecDepth 20000 in
theorem gX7_setPatience_X5_putPatience : GoodIn wsX7_setPatience (wsV RX7 52 RX5 yX5_putPatience wsX5_putPatience) := goodIn_app (goodIn_of _ (by decide +kernel)) ggX7_setPatience_X5_putPatience
theorem dX7_setPatience_0 : decode cX7_setPatience 0 = .ok (.aload_n 0, 1) := by decide +kernel
theorem dX7_setPatience_1 : decode cX7_setPatience 1 = .ok (.getfield 10, 3) := by decide +kernel
theorem dX7_setPatience_4 : decode cX7_setPatience 4 = .ok (.iload_n 1, 1) := by decide +kernel
theorem dX7_setPatience_5 : decode cX7_setPatience 5 = .ok (.iload_n 2, 1) := by decide +kernel
theorem dX7_setPatience_6 : decode cX7_setPatience 6 = .ok (.invokevirtual 48, 3) := by decide +kernel
theorem dX7_setPatience_9 : decode cX7_setPatience 9 = .ok (.invokestatic 37, 3) := by decide +kernel
theorem dX7_setPatience_12 : decode cX7_setPatience 12 = .ok (.aload_n 0, 1) := by decide +kernel
theorem dX7_setPatience_13 : decode cX7_setPatience 13 = .ok (.getfield 22, 3) := by decide +kernel
theorem dX7_setPatience_16 : decode cX7_setPatience 16 = .ok (.aload_n 0, 1) := by decide +kernel
theorem dX7_setPatience_17 : decode cX7_setPatience 17 = .ok (.getfield 10, 3) := by decide +kernel
theorem dX7_setPatience_20 : decode cX7_setPatience 20 = .ok (.invokevirtual 41, 3) := by decide +kernel
theorem dX7_setPatience_23 : decode cX7_setPatience 23 = .ok (.aload_n 0, 1) := by decide +kernel
theorem dX7_setPatience_24 : decode cX7_setPatience 24 = .ok (.getfield 10, 3) := by decide +kernel
theorem dX7_setPatience_27 : decode cX7_setPatience 27 = .ok (.iload_n 1, 1) := by decide +kernel
theorem dX7_setPatience_28 : decode cX7_setPatience 28 = .ok (.iload_n 2, 1) := by decide +kernel
theorem dX7_setPatience_29 : decode cX7_setPatience 29 = .ok (.invokevirtual 52, 3) := by decide +kernel
theorem dX7_setPatience_32 : decode cX7_setPatience 32 = .ok (.ireturn, 1) := by decide +kernel
set_option maxRecDepth 20000 in
theorem ggX7_set_X5_settingRefusal : GoodIn wsX7_set wsX5_settingRefusal := goodIn_r _ [6, 7, 8, 9] (by decide +kernel) (by decide +kernel)
set_option maxRecDepth 20000 in
theorem gX7_set_X5_settingRefusal : GoodIn wsX7_set (va_wsS RX7 55 yX5_settingRefusal wsX5_settingRefusal) := goodIn_app (goodIn_of _ (by decide +kernel)) ggX7_set_X5_settingRefusal
set_option maxRecDepth 20000 in
theorem ggX7_set_X7_refuse : GoodIn wsX7_set wsX7_refuse := goodIn_ca (goodIn_ca (goodIn_ca (goodIn_r _ [12, 13, 14, 15, 16, 17, 18] (by decide +kernel) (by decide +kernel)) (goodIn_sub (fun _ h => List.mem_cons_of_mem _ (List.mem_append_left _ (List.mem_append_left _ (List.mem_append_right _ h)))) (by decide +kernel))) (goodIn_sub (fun _ h => List.mem_cons_of_mem _ (List.mem_append_left _ (List.mem_append_right _ h))) (by decide +kernel))) (goodIn_sub (fun _ h => List.mem_cons_of_mem _ (List.mem_append_right _ h)) (by decide +kernel))
set_option maxRecDepth 20000 in
theorem gX7_set_X7_refuse : GoodIn wsX7_set (va_wsS RX7 37 yX7_refuse wsX7_refuse) := goodIn_app (goodIn_of _ (by decide +kernel)) ggX7_set_X7_refuse
set_option maxRecDepth 20000 in
theorem ggX7_set_X2_save : GoodIn wsX7_set wsX2_save := goodIn_r _ [23, 24, 25, 26, 27, 28, 29, 30, 31, 32, 33, 5, 34, 35, 36, 37, 38, 39, 40, 41, 42, 43, 44, 45, 46, 47, 48, 49, 50, 51, 52, 53, 54, 55, 56, 57, 58, 59, 60, 61, 62, 63, 64, 65, 66, 67, 68, 69, 70, 71, 72, 73, 74, 75, 76, 77, 86, 87, 88, 89, 90, 91, 92, 93, 94, 95, 96, 97, 98, 99, 100, 101, 102, 103, 104, 105, 106, 107, 108, 109, 110, 111, 112, 113, 114, 115, 116, 117] (by decide +kernel) (by decide +kernel)
set_option maxRecDepth 20000 in
theorem gX7_set_X2_save : GoodIn wsX7_set (wsV RX7 41 RX2 yX2_save wsX2_save) := goodIn_app (goodIn_of _ (by decide +kernel)) ggX7_set_X2_save
set_option maxRecDepth 20000 in
theorem ggX7_set_X5_putSetting : GoodIn wsX7_set wsX5_putSetting := goodIn_r _ [81, 44, 45, 89, 90, 91, 92, 93, 94, 95, 96, 97, 98, 99, 100] (by decide +kernel) (by decide +kernel)
set_option maxRecDepth 20000 in
theorem gX7_set_X5_putSetting : GoodIn wsX7_set (wsV RX7 58 RX5 yX5_putSetting wsX5_putSetting) := goodIn_app (goodIn_of _ (by decide +kernel)) ggX7_set_X5_putSetting
theorem dX7_set_0 : decode cX7_set 0 = .ok (.iload_n 1, 1) := by decide +kernel
theorem dX7_set_1 : decode cX7_set 1 = .ok (.iload_n 2, 1) := by decide +kernel
theorem dX7_set_2 : decode cX7_set 2 = .ok (.invokestatic 55, 3) := by decide +kernel
theorem dX7_set_5 : decode cX7_set 5 = .ok (.invokestatic 37, 3) := by decide +kernel
theorem dX7_set_8 : decode cX7_set 8 = .ok (.aload_n 0, 1) := by decide +kernel
theorem dX7_set_9 : decode cX7_set 9 = .ok (.getfield 22, 3) := by decide +kernel
theorem dX7_set_12 : decode cX7_set 12 = .ok (.aload_n 0, 1) := by decide +kernel
theorem dX7_set_13 : decode cX7_set 13 = .ok (.getfield 10, 3) := by decide +kernel
theorem dX7_set_16 : decode cX7_set 16 = .ok (.invokevirtual 41, 3) := by decide +kernel
theorem dX7_set_19 : decode cX7_set 19 = .ok (.aload_n 0, 1) := by decide +kernel
theorem dX7_set_20 : decode cX7_set 20 = .ok (.getfield 10, 3) := by decide +kernel
theorem dX7_set_23 : decode cX7_set 23 = .ok (.iload_n 1, 1) := by decide +kernel
theorem dX7_set_24 : decode cX7_set 24 = .ok (.iload_n 2, 1) := by decide +kernel
theorem dX7_set_25 : decode cX7_set 25 = .ok (.invokevirtual 58, 3) := by decide +kernel
theorem dX7_set_28 : decode cX7_set 28 = .ok (.ireturn, 1) := by decide +kernel
set_option maxRecDepth 20000 in
theorem ggX7_write_X5_valueRefusal : GoodIn wsX7_write wsX5_valueRefusal := goodIn_r _ [7, 8, 9, 10, 11, 12, 13, 14, 15, 16, 6, 17, 18, 19, 20, 21, 22, 23, 24, 25, 26, 27, 28, 29, 30, 31, 32, 105, 106, 107, 108, 109, 110, 111, 112, 113, 114, 115, 116, 117, 118, 119, 120, 121, 122, 123, 124, 125, 126, 127, 128, 129] (by decide +kernel) (by decide +kernel)
set_option maxRecDepth 20000 in
theorem gX7_write_X5_valueRefusal : GoodIn wsX7_write (wsV RX7 61 RX5 yX5_valueRefusal wsX5_valueRefusal) := goodIn_app (goodIn_of _ (by decide +kernel)) ggX7_write_X5_valueRefusal
set_option maxRecDepth 20000 in
theorem ggX7_write_X7_refuse : GoodIn wsX7_write wsX7_refuse := goodIn_ca (goodIn_ca (goodIn_ca (goodIn_r _ [35, 36, 37, 38, 39, 40, 41] (by decide +kernel) (by decide +kernel)) (goodIn_sub (fun _ h => List.mem_cons_of_mem _ (List.mem_append_left _ (List.mem_append_left _ (List.mem_append_right _ h)))) (by decide +kernel))) (goodIn_sub (fun _ h => List.mem_cons_of_mem _ (List.mem_append_left _ (List.mem_append_right _ h))) (by decide +kernel))) (goodIn_sub (fun _ h => List.mem_cons_of_mem _ (List.mem_append_right _ h)) (by decide +kernel))
set_option maxRecDepth 20000 in
theorem gX7_write_X7_refuse : GoodIn wsX7_write (va_wsS RX7 37 yX7_refuse wsX7_refuse) := goodIn_app (goodIn_of _ (by decide +kernel)) ggX7_write_X7_refuse
set_option maxRecDepth 20000 in
theorem ggX7_write_X2_save : GoodIn wsX7_write wsX2_save := goodIn_r _ [46, 47, 48, 49, 50, 51, 52, 53, 54, 55, 56, 6, 57, 58, 59, 60, 61, 62, 63, 64, 18, 19, 65, 66, 67, 68, 69, 70, 71, 72, 73, 74, 75, 76, 77, 78, 79, 80, 81, 82, 30, 83, 84, 85, 86, 87, 88, 89, 90, 32, 91, 92, 93, 94, 95, 96, 130, 131, 132, 105, 106, 107, 108, 109, 110, 111, 112, 113, 114, 115, 116, 133, 134, 135, 136, 117, 118, 119, 120, 121, 122, 123, 124, 125, 126, 127, 128, 129] (by decide +kernel) (by decide +kernel)
set_option maxRecDepth 20000 in
theorem gX7_write_X2_save : GoodIn wsX7_write (wsV RX7 41 RX2 yX2_save wsX2_save) := goodIn_app (goodIn_of _ (by decide +kernel)) ggX7_write_X2_save
set_option maxRecDepth 20000 in
theorem ggX7_write_X5_putValue : GoodIn wsX7_write wsX5_putValue := goodIn_r _ [100, 58, 105, 106, 107, 108, 109, 110, 111, 112, 113, 114, 115, 116] (by decide +kernel) (by decide +kernel)
set_option maxRecDepth 20000 in
theorem gX7_write_X5_putValue : GoodIn wsX7_write (wsV RX7 64 RX5 yX5_putValue wsX5_putValue) := goodIn_app (goodIn_of _ (by decide +kernel)) ggX7_write_X5_putValue
theorem dX7_write_0 : decode cX7_write 0 = .ok (.aload_n 0, 1) := by decide +kernel
theorem dX7_write_1 : decode cX7_write 1 = .ok (.getfield 10, 3) := by decide +kernel
theorem dX7_write_4 : decode cX7_write 4 = .ok (.iload_n 1, 1) := by decide +kernel
theorem dX7_write_5 : decode cX7_write 5 = .ok (.iload_n 2, 1) := by decide +kernel
theorem dX7_write_6 : decode cX7_write 6 = .ok (.invokevirtual 61, 3) := by decide +kernel
theorem dX7_write_9 : decode cX7_write 9 = .ok (.invokestatic 37, 3) := by decide +kernel
theorem dX7_write_12 : decode cX7_write 12 = .ok (.aload_n 0, 1) := by decide +kernel
theorem dX7_write_13 : decode cX7_write 13 = .ok (.getfield 22, 3) := by decide +kernel
theorem dX7_write_16 : decode cX7_write 16 = .ok (.aload_n 0, 1) := by decide +kernel
theorem dX7_write_17 : decode cX7_write 17 = .ok (.getfield 10, 3) := by decide +kernel
theorem dX7_write_20 : decode cX7_write 20 = .ok (.invokevirtual 41, 3) := by decide +kernel
theorem dX7_write_23 : decode cX7_write 23 = .ok (.aload_n 0, 1) := by decide +kernel
theorem dX7_write_24 : decode cX7_write 24 = .ok (.getfield 10, 3) := by decide +kernel
theorem dX7_write_27 : decode cX7_write 27 = .ok (.iload_n 1, 1) := by decide +kernel
theorem dX7_write_28 : decode cX7_write 28 = .ok (.iload_n 2, 1) := by decide +kernel
theorem dX7_write_29 : decode cX7_write 29 = .ok (.invokevirtual 64, 3) := by decide +kernel
theorem dX7_write_32 : decode cX7_write 32 = .ok (.ireturn, 1) := by decide +kernel
set_option maxRecDepth 20000 in
theorem ggX7_move_X5_moveRefusal : GoodIn wsX7_move wsX5_moveRefusal := goodIn_r _ [7, 8, 9, 10, 11, 12, 13, 14, 15, 16, 17, 6, 18, 19, 20, 21, 22, 113, 114, 115, 116, 117, 118, 119, 120, 121, 122, 123, 124, 125, 126, 127, 128] (by decide +kernel) (by decide +kernel)
set_option maxRecDepth 20000 in
theorem gX7_move_X5_moveRefusal : GoodIn wsX7_move (wsV RX7 67 RX5 yX5_moveRefusal wsX5_moveRefusal) := goodIn_app (goodIn_of _ (by decide +kernel)) ggX7_move_X5_moveRefusal
set_option maxRecDepth 20000 in
theorem ggX7_move_X7_refuse : GoodIn wsX7_move wsX7_refuse := goodIn_ca (goodIn_ca (goodIn_ca (goodIn_r _ [25, 26, 27, 28, 29, 30, 31] (by decide +kernel) (by decide +kernel)) (goodIn_sub (fun _ h => List.mem_cons_of_mem _ (List.mem_append_left _ (List.mem_append_left _ (List.mem_append_right _ h)))) (by decide +kernel))) (goodIn_sub (fun _ h => List.mem_cons_of_mem _ (List.mem_append_left _ (List.mem_append_right _ h))) (by decide +kernel))) (goodIn_sub (fun _ h => List.mem_cons_of_mem _ (List.mem_append_right _ h)) (by decide +kernel))
set_option maxRecDepth 20000 in
theorem gX7_move_X7_refuse : GoodIn wsX7_move (va_wsS RX7 37 yX7_refuse wsX7_refuse) := goodIn_app (goodIn_of _ (by decide +kernel)) ggX7_move_X7_refuse
set_option maxRecDepth 20000 in
theorem ggX7_move_X2_save : GoodIn wsX7_move wsX2_save := goodIn_r _ [36, 37, 38, 39, 40, 11, 12, 13, 41, 42, 43, 6, 44, 45, 46, 47, 48, 49, 19, 8, 14, 50, 51, 52, 53, 54, 55, 56, 57, 58, 59, 60, 61, 62, 63, 64, 65, 66, 67, 68, 69, 70, 71, 72, 73, 74, 75, 76, 77, 78, 79, 80, 81, 82, 83, 84, 129, 130, 131, 113, 114, 115, 116, 117, 118, 119, 120, 121, 122, 123, 124, 125, 126, 127, 128, 132, 133, 134, 135, 136, 137, 138, 139, 140, 141, 142, 143, 144] (by decide +kernel) (by decide +kernel)
set_option maxRecDepth 20000 in
theorem gX7_move_X2_save : GoodIn wsX7_move (wsV RX7 41 RX2 yX2_save wsX2_save) := goodIn_app (goodIn_of _ (by decide +kernel)) ggX7_move_X2_save
set_option maxRecDepth 20000 in
theorem ggX7_move_X5_putMove : GoodIn wsX7_move wsX5_putMove := goodIn_r _ [88, 50, 14, 89, 90, 91, 92, 93, 8, 94, 95, 96, 97, 98, 99, 100, 101, 102, 103, 60, 104, 105, 106, 107, 108, 63, 62, 113, 114, 115, 116, 117, 118, 119, 120, 121, 122, 123, 124, 132, 133, 134, 135, 136, 137, 138, 139, 140, 141, 142, 143, 144, 125, 126, 127, 128] (by decide +kernel) (by decide +kernel)
set_option maxRecDepth 20000 in
theorem gX7_move_X5_putMove : GoodIn wsX7_move (wsV RX7 71 RX5 yX5_putMove wsX5_putMove) := goodIn_app (goodIn_of _ (by decide +kernel)) ggX7_move_X5_putMove
theorem dX7_move_0 : decode cX7_move 0 = .ok (.aload_n 0, 1) := by decide +kernel
theorem dX7_move_1 : decode cX7_move 1 = .ok (.getfield 10, 3) := by decide +kernel
theorem dX7_move_4 : decode cX7_move 4 = .ok (.iload_n 1, 1) := by decide +kernel
theorem dX7_move_5 : decode cX7_move 5 = .ok (.iload_n 2, 1) := by decide +kernel
theorem dX7_move_6 : decode cX7_move 6 = .ok (.iload_n 3, 1) := by decide +kernel
theorem dX7_move_7 : decode cX7_move 7 = .ok (.iload 4, 2) := by decide +kernel
theorem dX7_move_9 : decode cX7_move 9 = .ok (.iload 5, 2) := by decide +kernel
theorem dX7_move_11 : decode cX7_move 11 = .ok (.invokevirtual 67, 3) := by decide +kernel
theorem dX7_move_14 : decode cX7_move 14 = .ok (.invokestatic 37, 3) := by decide +kernel
theorem dX7_move_17 : decode cX7_move 17 = .ok (.aload_n 0, 1) := by decide +kernel
theorem dX7_move_18 : decode cX7_move 18 = .ok (.getfield 22, 3) := by decide +kernel
theorem dX7_move_21 : decode cX7_move 21 = .ok (.aload_n 0, 1) := by decide +kernel
theorem dX7_move_22 : decode cX7_move 22 = .ok (.getfield 10, 3) := by decide +kernel
theorem dX7_move_25 : decode cX7_move 25 = .ok (.invokevirtual 41, 3) := by decide +kernel
theorem dX7_move_28 : decode cX7_move 28 = .ok (.aload_n 0, 1) := by decide +kernel
theorem dX7_move_29 : decode cX7_move 29 = .ok (.getfield 10, 3) := by decide +kernel
theorem dX7_move_32 : decode cX7_move 32 = .ok (.iload_n 1, 1) := by decide +kernel
theorem dX7_move_33 : decode cX7_move 33 = .ok (.iload_n 2, 1) := by decide +kernel
theorem dX7_move_34 : decode cX7_move 34 = .ok (.iload_n 3, 1) := by decide +kernel
theorem dX7_move_35 : decode cX7_move 35 = .ok (.iload 4, 2) := by decide +kernel
theorem dX7_move_37 : decode cX7_move 37 = .ok (.iload 5, 2) := by decide +kernel
theorem dX7_move_39 : decode cX7_move 39 = .ok (.invokevirtual 71, 3) := by decide +kernel
theorem dX7_move_42 : decode cX7_move 42 = .ok (.ireturn, 1) := by decide +kernel
set_option maxRecDepth 20000 in
theorem ggX7_sign_X5_signRefusal : GoodIn wsX7_sign wsX5_signRefusal := goodIn_r _ [7, 8, 9, 10, 11, 12, 6, 13, 14, 15, 16, 17, 18, 19, 20, 21, 22, 23, 24, 25, 104, 105, 106, 107, 108, 109, 110, 111, 112, 113, 114, 115, 116, 117, 118, 119, 120, 121, 122, 123, 124, 125, 126, 127, 128, 129, 130, 131, 132] (by decide +kernel) (by decide +kernel)
set_option maxRecDepth 20000 in
theorem gX7_sign_X5_signRefusal : GoodIn wsX7_sign (wsV RX7 74 RX5 yX5_signRefusal wsX5_signRefusal) := goodIn_app (goodIn_of _ (by decide +kernel)) ggX7_sign_X5_signRefusal
set_option maxRecDepth 20000 in
theorem ggX7_sign_X7_refuse : GoodIn wsX7_sign wsX7_refuse := goodIn_ca (goodIn_ca (goodIn_ca (goodIn_r _ [29, 30, 31, 32, 33, 34, 35] (by decide +kernel) (by decide +kernel)) (goodIn_sub (fun _ h => List.mem_cons_of_mem _ (List.mem_append_left _ (List.mem_append_left _ (List.mem_append_right _ h)))) (by decide +kernel))) (goodIn_sub (fun _ h => List.mem_cons_of_mem _ (List.mem_append_left _ (List.mem_append_right _ h))) (by decide +kernel))) (goodIn_sub (fun _ h => List.mem_cons_of_mem _ (List.mem_append_right _ h)) (by decide +kernel))
set_option maxRecDepth 20000 in
theorem gX7_sign_X7_refuse : GoodIn wsX7_sign (va_wsS RX7 37 yX7_refuse wsX7_refuse) := goodIn_app (goodIn_of _ (by decide +kernel)) ggX7_sign_X7_refuse
set_option maxRecDepth 20000 in
theorem ggX7_sign_X2_save : GoodIn wsX7_sign wsX2_save := goodIn_r _ [40, 41, 42, 43, 44, 45, 46, 47, 48, 49, 50, 6, 51, 52, 53, 54, 55, 56, 14, 8, 19, 20, 57, 58, 59, 60, 61, 62, 63, 64, 65, 66, 67, 68, 69, 70, 71, 72, 73, 74, 75, 76, 77, 78, 79, 80, 81, 82, 83, 84, 85, 86, 87, 88, 89, 90, 133, 134, 135, 104, 105, 106, 107, 108, 109, 110, 111, 112, 113, 114, 115, 116, 117, 118, 119, 120, 121, 122, 123, 124, 125, 126, 127, 128, 129, 130, 131, 132] (by decide +kernel) (by decide +kernel)
set_option maxRecDepth 20000 in
theorem gX7_sign_X2_save : GoodIn wsX7_sign (wsV RX7 41 RX2 yX2_save wsX2_save) := goodIn_app (goodIn_of _ (by decide +kernel)) ggX7_sign_X2_save
set_option maxRecDepth 20000 in
theorem ggX7_sign_X5_signFirst : GoodIn wsX7_sign wsX5_signFirst := goodIn_r _ [94, 19, 20, 21, 22, 6, 23, 24, 25, 95, 96, 97, 98, 59, 99, 61, 104, 105, 106, 107, 108, 109, 110, 111, 112, 113, 114, 115, 120, 121, 122, 123, 124, 125, 126, 127, 128, 129, 130, 131, 132] (by decide +kernel) (by decide +kernel)
set_option maxRecDepth 20000 in
theorem gX7_sign_X5_signFirst : GoodIn wsX7_sign (wsV RX7 78 RX5 yX5_signFirst wsX5_signFirst) := goodIn_app (goodIn_of _ (by decide +kernel)) ggX7_sign_X5_signFirst
theorem dX7_sign_0 : decode cX7_sign 0 = .ok (.aload_n 0, 1) := by decide +kernel
theorem dX7_sign_1 : decode cX7_sign 1 = .ok (.getfield 10, 3) := by decide +kernel
theorem dX7_sign_4 : decode cX7_sign 4 = .ok (.iload_n 1, 1) := by decide +kernel
theorem dX7_sign_5 : decode cX7_sign 5 = .ok (.invokevirtual 74, 3) := by decide +kernel
theorem dX7_sign_8 : decode cX7_sign 8 = .ok (.invokestatic 37, 3) := by decide +kernel
theorem dX7_sign_11 : decode cX7_sign 11 = .ok (.aload_n 0, 1) := by decide +kernel
theorem dX7_sign_12 : decode cX7_sign 12 = .ok (.getfield 22, 3) := by decide +kernel
theorem dX7_sign_15 : decode cX7_sign 15 = .ok (.aload_n 0, 1) := by decide +kernel
theorem dX7_sign_16 : decode cX7_sign 16 = .ok (.getfield 10, 3) := by decide +kernel
theorem dX7_sign_19 : decode cX7_sign 19 = .ok (.invokevirtual 41, 3) := by decide +kernel
theorem dX7_sign_22 : decode cX7_sign 22 = .ok (.aload_n 0, 1) := by decide +kernel
theorem dX7_sign_23 : decode cX7_sign 23 = .ok (.getfield 10, 3) := by decide +kernel
theorem dX7_sign_26 : decode cX7_sign 26 = .ok (.iload_n 1, 1) := by decide +kernel
theorem dX7_sign_27 : decode cX7_sign 27 = .ok (.invokevirtual 78, 3) := by decide +kernel
theorem dX7_sign_30 : decode cX7_sign 30 = .ok (.ireturn, 1) := by decide +kernel
set_option maxRecDepth 20000 in
theorem ggX7_strike_X5_strikeRefusal : GoodIn wsX7_strike wsX5_strikeRefusal := goodIn_r _ [7, 8, 9, 10, 11, 12, 6, 13, 14, 99, 100, 101, 102, 103, 104, 105, 106, 107, 108, 109, 110, 111, 112, 113, 114] (by decide +kernel) (by decide +kernel)
set_option maxRecDepth 20000 in
theorem gX7_strike_X5_strikeRefusal : GoodIn wsX7_strike (wsV RX7 81 RX5 yX5_strikeRefusal wsX5_strikeRefusal) := goodIn_app (goodIn_of _ (by decide +kernel)) ggX7_strike_X5_strikeRefusal
set_option maxRecDepth 20000 in
theorem ggX7_strike_X7_refuse : GoodIn wsX7_strike wsX7_refuse := goodIn_ca (goodIn_ca (goodIn_ca (goodIn_r _ [18, 19, 20, 21, 22, 23, 24] (by decide +kernel) (by decide +kernel)) (goodIn_sub (fun _ h => List.mem_cons_of_mem _ (List.mem_append_left _ (List.mem_append_left _ (List.mem_append_right _ h)))) (by decide +kernel))) (goodIn_sub (fun _ h => List.mem_cons_of_mem _ (List.mem_append_left _ (List.mem_append_right _ h))) (by decide +kernel))) (goodIn_sub (fun _ h => List.mem_cons_of_mem _ (List.mem_append_right _ h)) (by decide +kernel))
set_option maxRecDepth 20000 in
theorem gX7_strike_X7_refuse : GoodIn wsX7_strike (va_wsS RX7 37 yX7_refuse wsX7_refuse) := goodIn_app (goodIn_of _ (by decide +kernel)) ggX7_strike_X7_refuse
set_option maxRecDepth 20000 in
theorem ggX7_strike_X2_save : GoodIn wsX7_strike wsX2_save := goodIn_r _ [29, 30, 31, 32, 33, 34, 35, 36, 37, 38, 39, 6, 40, 41, 42, 43, 44, 45, 14, 8, 46, 47, 48, 49, 50, 51, 52, 53, 54, 55, 56, 57, 58, 59, 60, 61, 62, 63, 64, 65, 66, 67, 68, 69, 70, 71, 72, 73, 74, 75, 76, 77, 78, 79, 80, 81, 115, 116, 117, 99, 100, 101, 102, 103, 104, 105, 106, 107, 108, 109, 110, 111, 112, 113, 114, 118, 119, 120, 121, 122, 123, 124, 125, 126, 127, 128, 129, 130] (by decide +kernel) (by decide +kernel)
set_option maxRecDepth 20000 in
theorem gX7_strike_X2_save : GoodIn wsX7_strike (wsV RX7 41 RX2 yX2_save wsX2_save) := goodIn_app (goodIn_of _ (by decide +kernel)) ggX7_strike_X2_save
set_option maxRecDepth 20000 in
theorem ggX7_strike_X5_putStrike : GoodIn wsX7_strike wsX5_putStrike := goodIn_r _ [85, 8, 9, 86, 87, 88, 6, 89, 46, 47, 90, 91, 92, 93, 94, 99, 100, 101, 102, 103, 104, 105, 106, 107, 108, 109, 110, 111, 112, 113, 114, 118, 119, 120, 121, 122, 123, 124, 125, 126, 127, 128, 129, 130] (by decide +kernel) (by decide +kernel)
set_option maxRecDepth 20000 in
theorem gX7_strike_X5_putStrike : GoodIn wsX7_strike (wsV RX7 85 RX5 yX5_putStrike wsX5_putStrike) := goodIn_app (goodIn_of _ (by decide +kernel)) ggX7_strike_X5_putStrike
theorem dX7_strike_0 : decode cX7_strike 0 = .ok (.aload_n 0, 1) := by decide +kernel
theorem dX7_strike_1 : decode cX7_strike 1 = .ok (.getfield 10, 3) := by decide +kernel
theorem dX7_strike_4 : decode cX7_strike 4 = .ok (.iload_n 1, 1) := by decide +kernel
theorem dX7_strike_5 : decode cX7_strike 5 = .ok (.iload_n 2, 1) := by decide +kernel
theorem dX7_strike_6 : decode cX7_strike 6 = .ok (.invokevirtual 81, 3) := by decide +kernel
theorem dX7_strike_9 : decode cX7_strike 9 = .ok (.invokestatic 37, 3) := by decide +kernel
theorem dX7_strike_12 : decode cX7_strike 12 = .ok (.aload_n 0, 1) := by decide +kernel
theorem dX7_strike_13 : decode cX7_strike 13 = .ok (.getfield 22, 3) := by decide +kernel
theorem dX7_strike_16 : decode cX7_strike 16 = .ok (.aload_n 0, 1) := by decide +kernel
theorem dX7_strike_17 : decode cX7_strike 17 = .ok (.getfield 10, 3) := by decide +kernel
theorem dX7_strike_20 : decode cX7_strike 20 = .ok (.invokevirtual 41, 3) := by decide +kernel
theorem dX7_strike_23 : decode cX7_strike 23 = .ok (.aload_n 0, 1) := by decide +kernel
theorem dX7_strike_24 : decode cX7_strike 24 = .ok (.getfield 10, 3) := by decide +kernel
theorem dX7_strike_27 : decode cX7_strike 27 = .ok (.iload_n 1, 1) := by decide +kernel
theorem dX7_strike_28 : decode cX7_strike 28 = .ok (.iload_n 2, 1) := by decide +kernel
theorem dX7_strike_29 : decode cX7_strike 29 = .ok (.invokevirtual 85, 3) := by decide +kernel
theorem dX7_strike_32 : decode cX7_strike 32 = .ok (.ireturn, 1) := by decide +kernel
set_option maxRecDepth 20000 in
theorem ggX7_pass_X5_passRefusal : GoodIn wsX7_pass wsX5_passRefusal := goodIn_r _ [7, 8, 9, 10, 11, 144, 145, 146, 147, 148, 149, 150, 151, 152, 153, 154, 155] (by decide +kernel) (by decide +kernel)
set_option maxRecDepth 20000 in
theorem gX7_pass_X5_passRefusal : GoodIn wsX7_pass (wsV RX7 88 RX5 yX5_passRefusal wsX5_passRefusal) := goodIn_app (goodIn_of _ (by decide +kernel)) ggX7_pass_X5_passRefusal
set_option maxRecDepth 20000 in
theorem ggX7_pass_X7_refuse : GoodIn wsX7_pass wsX7_refuse := goodIn_ca (goodIn_ca (goodIn_ca (goodIn_r _ [14, 15, 16, 17, 18, 19, 20] (by decide +kernel) (by decide +kernel)) (goodIn_sub (fun _ h => List.mem_cons_of_mem _ (List.mem_append_left _ (List.mem_append_left _ (List.mem_append_right _ h)))) (by decide +kernel))) (goodIn_sub (fun _ h => List.mem_cons_of_mem _ (List.mem_append_left _ (List.mem_append_right _ h))) (by decide +kernel))) (goodIn_sub (fun _ h => List.mem_cons_of_mem _ (List.mem_append_right _ h)) (by decide +kernel))
set_option maxRecDepth 20000 in
theorem gX7_pass_X7_refuse : GoodIn wsX7_pass (va_wsS RX7 37 yX7_refuse wsX7_refuse) := goodIn_app (goodIn_of _ (by decide +kernel)) ggX7_pass_X7_refuse
set_option maxRecDepth 20000 in
theorem ggX7_pass_X2_save : GoodIn wsX7_pass wsX2_save := goodIn_r _ [25, 26, 27, 28, 29, 30, 31, 32, 33, 34, 35, 6, 36, 37, 38, 39, 40, 41, 42, 43, 44, 45, 46, 47, 8, 48, 49, 50, 51, 52, 53, 54, 55, 56, 57, 58, 59, 60, 61, 62, 63, 64, 65, 66, 67, 68, 69, 70, 71, 72, 73, 74, 75, 76, 77, 78, 156, 157, 158, 144, 145, 146, 147, 148, 149, 150, 151, 152, 153, 154, 155, 159, 160, 161, 162, 163, 164, 165, 166, 167, 168, 169, 170, 171, 172, 173, 174, 175] (by decide +kernel) (by decide +kernel)
set_option maxRecDepth 20000 in
theorem gX7_pass_X2_save : GoodIn wsX7_pass (wsV RX7 41 RX2 yX2_save wsX2_save) := goodIn_app (goodIn_of _ (by decide +kernel)) ggX7_pass_X2_save
set_option maxRecDepth 20000 in
theorem ggX7_pass_X5_letPass : GoodIn wsX7_pass wsX5_letPass := goodIn_r _ [82, 48, 83, 84, 85, 6, 86, 42, 43, 87, 88, 44, 45, 46, 8, 89, 90, 91, 92, 93, 94, 95, 96, 97, 98, 99, 100, 101, 102, 103, 49, 104, 105, 106, 107, 47, 108, 109, 110, 111, 112, 113, 114, 115, 116, 117, 118, 63, 119, 72, 70, 71, 120, 121, 122, 123, 124, 125, 126, 37, 127, 128, 129, 130, 131, 54, 132, 57, 56, 133, 134, 135, 136, 137, 138, 30, 31, 32, 139, 144, 145, 146, 147, 148, 149, 150, 151, 152, 153, 154, 155, 159, 160, 161, 162, 163, 164, 165, 166, 167, 168, 169, 170, 171, 172, 173, 174, 175] (by decide +kernel) (by decide +kernel)
set_option maxRecDepth 20000 in
theorem gX7_pass_X5_letPass : GoodIn wsX7_pass (wsV RX7 91 RX5 yX5_letPass wsX5_letPass) := goodIn_app (goodIn_of _ (by decide +kernel)) ggX7_pass_X5_letPass
theorem dX7_pass_0 : decode cX7_pass 0 = .ok (.aload_n 0, 1) := by decide +kernel
theorem dX7_pass_1 : decode cX7_pass 1 = .ok (.getfield 10, 3) := by decide +kernel
theorem dX7_pass_4 : decode cX7_pass 4 = .ok (.iload_n 1, 1) := by decide +kernel
theorem dX7_pass_5 : decode cX7_pass 5 = .ok (.invokevirtual 88, 3) := by decide +kernel
theorem dX7_pass_8 : decode cX7_pass 8 = .ok (.invokestatic 37, 3) := by decide +kernel
theorem dX7_pass_11 : decode cX7_pass 11 = .ok (.aload_n 0, 1) := by decide +kernel
theorem dX7_pass_12 : decode cX7_pass 12 = .ok (.getfield 22, 3) := by decide +kernel
theorem dX7_pass_15 : decode cX7_pass 15 = .ok (.aload_n 0, 1) := by decide +kernel
theorem dX7_pass_16 : decode cX7_pass 16 = .ok (.getfield 10, 3) := by decide +kernel
theorem dX7_pass_19 : decode cX7_pass 19 = .ok (.invokevirtual 41, 3) := by decide +kernel
theorem dX7_pass_22 : decode cX7_pass 22 = .ok (.aload_n 0, 1) := by decide +kernel
theorem dX7_pass_23 : decode cX7_pass 23 = .ok (.getfield 10, 3) := by decide +kernel
theorem dX7_pass_26 : decode cX7_pass 26 = .ok (.iload_n 1, 1) := by decide +kernel
theorem dX7_pass_27 : decode cX7_pass 27 = .ok (.invokevirtual 91, 3) := by decide +kernel
theorem dX7_pass_30 : decode cX7_pass 30 = .ok (.ireturn, 1) := by decide +kernel
set_option maxRecDepth 20000 in
theorem ggX7_sweep_X2_save : GoodIn wsX7_sweep wsX2_save := goodIn_r _ [7, 8, 9, 10, 11, 12, 13, 14, 15, 16, 17, 18, 19, 20, 21, 22, 23, 24, 25, 26, 27, 28, 29, 30, 31, 32, 33, 34, 35, 36, 37, 38, 39, 40, 41, 42, 43, 44, 45, 46, 47, 48, 49, 50, 51, 52, 53, 54, 55, 56, 57, 58, 59, 60, 61, 62, 72, 73, 74, 75, 76, 77, 78, 79, 80, 81, 82, 83, 84, 85, 86, 87, 88, 89, 90, 91, 92, 93, 94, 95, 96, 97, 98, 99, 100, 101, 102, 103] (by decide +kernel) (by decide +kernel)
set_option maxRecDepth 20000 in
theorem gX7_sweep_X2_save : GoodIn wsX7_sweep (wsV RX7 41 RX2 yX2_save wsX2_save) := goodIn_app (goodIn_of _ (by decide +kernel)) ggX7_sweep_X2_save
set_option maxRecDepth 20000 in
theorem ggX7_sweep_X5_dropSigned : GoodIn wsX7_sweep wsX5_dropSigned := goodIn_r _ [66, 27, 28, 67, 34, 44, 45, 46, 47, 48, 49, 50, 51, 52, 53, 54, 55, 56, 57, 58, 59, 60, 61, 62, 22, 23, 24, 75, 76, 77, 78, 79, 80, 81, 82, 83, 84, 85, 86, 91, 92, 93, 94, 95, 96, 97, 98, 99, 100, 101, 102, 103] (by decide +kernel) (by decide +kernel)
set_option maxRecDepth 20000 in
theorem gX7_sweep_X5_dropSigned : GoodIn wsX7_sweep (wsV RX7 94 RX5 yX5_dropSigned wsX5_dropSigned) := goodIn_app (goodIn_of _ (by decide +kernel)) ggX7_sweep_X5_dropSigned
theorem dX7_sweep_0 : decode cX7_sweep 0 = .ok (.aload_n 0, 1) := by decide +kernel
theorem dX7_sweep_1 : decode cX7_sweep 1 = .ok (.getfield 22, 3) := by decide +kernel
theorem dX7_sweep_4 : decode cX7_sweep 4 = .ok (.aload_n 0, 1) := by decide +kernel
theorem dX7_sweep_5 : decode cX7_sweep 5 = .ok (.getfield 10, 3) := by decide +kernel
theorem dX7_sweep_8 : decode cX7_sweep 8 = .ok (.invokevirtual 41, 3) := by decide +kernel
theorem dX7_sweep_11 : decode cX7_sweep 11 = .ok (.aload_n 0, 1) := by decide +kernel
theorem dX7_sweep_12 : decode cX7_sweep 12 = .ok (.getfield 10, 3) := by decide +kernel
theorem dX7_sweep_15 : decode cX7_sweep 15 = .ok (.invokevirtual 94, 3) := by decide +kernel
theorem dX7_sweep_18 : decode cX7_sweep 18 = .ok (.ireturn, 1) := by decide +kernel
set_option maxRecDepth 20000 in
theorem ggX7_cell_X7_requireCell : GoodIn wsX7_cell wsX7_requireCell := goodIn_ca (goodIn_r _ [6, 7, 8, 9, 10, 5, 11, 12, 13, 14] (by decide +kernel) (by decide +kernel)) (goodIn_sub (fun _ h => List.mem_cons_of_mem _ (List.mem_append_right _ h)) (by decide +kernel))
set_option maxRecDepth 20000 in
theorem gX7_cell_X7_requireCell : GoodIn wsX7_cell (va_wsS RX7 98 yX7_requireCell wsX7_requireCell) := goodIn_app (goodIn_of _ (by decide +kernel)) ggX7_cell_X7_requireCell
theorem dX7_cell_0 : decode cX7_cell 0 = .ok (.iload_n 1, 1) := by decide +kernel
theorem dX7_cell_1 : decode cX7_cell 1 = .ok (.invokestatic 98, 3) := by decide +kernel
theorem dX7_cell_4 : decode cX7_cell 4 = .ok (.aload_n 0, 1) := by decide +kernel
theorem dX7_cell_5 : decode cX7_cell 5 = .ok (.getfield 10, 3) := by decide +kernel
theorem dX7_cell_8 : decode cX7_cell 8 = .ok (.getfield 101, 3) := by decide +kernel
theorem dX7_cell_11 : decode cX7_cell 11 = .ok (.iload_n 1, 1) := by decide +kernel
theorem dX7_cell_12 : decode cX7_cell 12 = .ok (.iaload, 1) := by decide +kernel
theorem dX7_cell_13 : decode cX7_cell 13 = .ok (.ireturn, 1) := by decide +kernel
set_option maxRecDepth 20000 in
theorem ggX7_ring_X5_hasRing : GoodIn wsX7_ring wsX5_hasRing := goodIn_r _ [8, 9, 53, 54, 55, 56, 57, 58, 59, 60, 61, 62, 63, 64] (by decide +kernel) (by decide +kernel)
set_option maxRecDepth 20000 in
theorem gX7_ring_X5_hasRing : GoodIn wsX7_ring (wsV RX7 105 RX5 yX5_hasRing wsX5_hasRing) := goodIn_app (goodIn_of _ (by decide +kernel)) ggX7_ring_X5_hasRing
set_option maxRecDepth 20000 in
theorem ggX7_ring_X7_requireRange : GoodIn wsX7_ring wsX7_requireRange := goodIn_ca (goodIn_r _ [13, 14, 15, 16, 17, 12, 18] (by decide +kernel) (by decide +kernel)) (goodIn_sub (fun _ h => List.mem_cons_of_mem _ (List.mem_append_right _ h)) (by decide +kernel))
set_option maxRecDepth 20000 in
theorem gX7_ring_X7_requireRange : GoodIn wsX7_ring (va_wsS RX7 116 yX7_requireRange wsX7_requireRange) := goodIn_app (goodIn_of _ (by decide +kernel)) ggX7_ring_X7_requireRange
set_option maxRecDepth 20000 in
theorem ggX7_ring_X5_ringPart : GoodIn wsX7_ring wsX5_ringPart := goodIn_r _ [22, 23, 24, 25, 26, 27, 28, 29, 30, 7, 31, 32, 33, 34, 35, 36, 37, 38, 39, 40, 41, 42, 43, 44, 45, 46, 47, 48, 53, 54, 55, 56, 57, 58, 59, 60, 61, 62, 63, 64, 65, 66, 67, 68, 69, 70, 71, 72, 73, 74, 75, 76, 77, 78, 79, 80, 81] (by decide +kernel) (by decide +kernel)
set_option maxRecDepth 20000 in
theorem gX7_ring_X5_ringPart : GoodIn wsX7_ring (wsV RX7 120 RX5 yX5_ringPart wsX5_ringPart) := goodIn_app (goodIn_of _ (by decide +kernel)) ggX7_ring_X5_ringPart
theorem dX7_ring_0 : decode cX7_ring 0 = .ok (.aload_n 0, 1) := by decide +kernel
theorem dX7_ring_1 : decode cX7_ring 1 = .ok (.getfield 10, 3) := by decide +kernel
theorem dX7_ring_4 : decode cX7_ring 4 = .ok (.iload_n 1, 1) := by decide +kernel
theorem dX7_ring_5 : decode cX7_ring 5 = .ok (.invokevirtual 105, 3) := by decide +kernel
theorem dX7_ring_8 : decode cX7_ring 8 = .ok (.ifCond .ne 13, 3) := by decide +kernel
theorem dX7_ring_11 : decode cX7_ring 11 = .ok (.new 109, 3) := by decide +kernel
theorem dX7_ring_14 : decode cX7_ring 14 = .ok (.dup, 1) := by decide +kernel
theorem dX7_ring_15 : decode cX7_ring 15 = .ok (.ldc 111, 2) := by decide +kernel
theorem dX7_ring_17 : decode cX7_ring 17 = .ok (.invokespecial 113, 3) := by decide +kernel
theorem dX7_ring_20 : decode cX7_ring 20 = .ok (.athrow, 1) := by decide +kernel
theorem dX7_ring_21 : decode cX7_ring 21 = .ok (.iload_n 2, 1) := by decide +kernel
theorem dX7_ring_22 : decode cX7_ring 22 = .ok (.bipush 7, 2) := by decide +kernel
theorem dX7_ring_24 : decode cX7_ring 24 = .ok (.invokestatic 116, 3) := by decide +kernel
theorem dX7_ring_27 : decode cX7_ring 27 = .ok (.aload_n 0, 1) := by decide +kernel
theorem dX7_ring_28 : decode cX7_ring 28 = .ok (.getfield 10, 3) := by decide +kernel
theorem dX7_ring_31 : decode cX7_ring 31 = .ok (.iload_n 1, 1) := by decide +kernel
theorem dX7_ring_32 : decode cX7_ring 32 = .ok (.iload_n 2, 1) := by decide +kernel
theorem dX7_ring_33 : decode cX7_ring 33 = .ok (.invokevirtual 120, 3) := by decide +kernel
theorem dX7_ring_36 : decode cX7_ring 36 = .ok (.ireturn, 1) := by decide +kernel
set_option maxRecDepth 20000 in
theorem ggX7_moveOf_X7_requireMove : GoodIn wsX7_moveOf wsX7_requireMove := goodIn_ca (goodIn_r _ [7, 8, 9, 1, 10, 34, 35, 36, 37, 38, 39, 40, 41, 42, 43, 44, 45, 46, 47, 48, 49] (by decide +kernel) (by decide +kernel)) (goodIn_sub (fun _ h => List.mem_cons_of_mem _ (List.mem_append_left _ (List.mem_append_right _ h))) (by decide +kernel))
set_option maxRecDepth 20000 in
theorem gX7_moveOf_X7_requireMove : GoodIn wsX7_moveOf (wsV RX7 123 RX7 yX7_requireMove wsX7_requireMove) := goodIn_app (goodIn_of _ (by decide +kernel)) ggX7_moveOf_X7_requireMove
set_option maxRecDepth 20000 in
theorem ggX7_moveOf_X7_requireRange : GoodIn wsX7_moveOf wsX7_requireRange := goodIn_ca (goodIn_r _ [13, 14, 15, 16, 17, 6, 18] (by decide +kernel) (by decide +kernel)) (goodIn_sub (fun _ h => List.mem_cons_of_mem _ (List.mem_append_right _ h)) (by decide +kernel))
set_option maxRecDepth 20000 in
theorem gX7_moveOf_X7_requireRange : GoodIn wsX7_moveOf (va_wsS RX7 116 yX7_requireRange wsX7_requireRange) := goodIn_app (goodIn_of _ (by decide +kernel)) ggX7_moveOf_X7_requireRange
set_option maxRecDepth 20000 in
theorem ggX7_moveOf_X3_part : GoodIn wsX7_moveOf wsX3_part := goodIn_r _ [23, 24, 25, 26, 27, 28, 29, 30, 31, 32, 33, 50, 51, 52, 53, 54, 55, 56, 57, 58, 59, 60, 61, 62] (by decide +kernel) (by decide +kernel)
set_option maxRecDepth 20000 in
theorem gX7_moveOf_X3_part : GoodIn wsX7_moveOf (wsV RX7 130 RX3 yX3_part wsX3_part) := goodIn_app (goodIn_of _ (by decide +kernel)) ggX7_moveOf_X3_part
theorem dX7_moveOf_0 : decode cX7_moveOf 0 = .ok (.aload_n 0, 1) := by decide +kernel
theorem dX7_moveOf_1 : decode cX7_moveOf 1 = .ok (.iload_n 1, 1) := by decide +kernel
theorem dX7_moveOf_2 : decode cX7_moveOf 2 = .ok (.invokevirtual 123, 3) := by decide +kernel
theorem dX7_moveOf_5 : decode cX7_moveOf 5 = .ok (.iload_n 2, 1) := by decide +kernel
theorem dX7_moveOf_6 : decode cX7_moveOf 6 = .ok (.bipush 9, 2) := by decide +kernel
theorem dX7_moveOf_8 : decode cX7_moveOf 8 = .ok (.invokestatic 116, 3) := by decide +kernel
theorem dX7_moveOf_11 : decode cX7_moveOf 11 = .ok (.aload_n 0, 1) := by decide +kernel
theorem dX7_moveOf_12 : decode cX7_moveOf 12 = .ok (.getfield 10, 3) := by decide +kernel
theorem dX7_moveOf_15 : decode cX7_moveOf 15 = .ok (.getfield 126, 3) := by decide +kernel
theorem dX7_moveOf_18 : decode cX7_moveOf 18 = .ok (.iload_n 1, 1) := by decide +kernel
theorem dX7_moveOf_19 : decode cX7_moveOf 19 = .ok (.aaload, 1) := by decide +kernel
theorem dX7_moveOf_20 : decode cX7_moveOf 20 = .ok (.iload_n 2, 1) := by decide +kernel
theorem dX7_moveOf_21 : decode cX7_moveOf 21 = .ok (.invokevirtual 130, 3) := by decide +kernel
theorem dX7_moveOf_24 : decode cX7_moveOf 24 = .ok (.ireturn, 1) := by decide +kernel
set_option maxRecDepth 20000 in
theorem ggX7_hostage_X7_requireMove : GoodIn wsX7_hostage wsX7_requireMove := goodIn_ca (goodIn_r _ [9, 10, 11, 3, 12, 26, 27, 28, 29, 30, 31, 32, 33, 34, 35, 36, 37, 38, 39, 40, 41] (by decide +kernel) (by decide +kernel)) (goodIn_sub (fun _ h => List.mem_cons_of_mem _ (List.mem_append_right _ h)) (by decide +kernel))
set_option maxRecDepth 20000 in
theorem gX7_hostage_X7_requireMove : GoodIn wsX7_hostage (wsV RX7 123 RX7 yX7_requireMove wsX7_requireMove) := goodIn_app (goodIn_of _ (by decide +kernel)) ggX7_hostage_X7_requireMove
set_option maxRecDepth 20000 in
theorem ggX7_hostage_X3_hostageAt : GoodIn wsX7_hostage wsX3_hostageAt := goodIn_r _ [17, 18, 19, 20, 21, 22, 16, 23, 24, 25, 42, 43, 44, 45, 46, 47, 48, 49, 50, 51, 52, 53, 54] (by decide +kernel) (by decide +kernel)
set_option maxRecDepth 20000 in
theorem gX7_hostage_X3_hostageAt : GoodIn wsX7_hostage (wsV RX7 140 RX3 yX3_hostageAt wsX3_hostageAt) := goodIn_app (goodIn_of _ (by decide +kernel)) ggX7_hostage_X3_hostageAt
theorem dX7_hostage_0 : decode cX7_hostage 0 = .ok (.aload_n 0, 1) := by decide +kernel
theorem dX7_hostage_1 : decode cX7_hostage 1 = .ok (.iload_n 1, 1) := by decide +kernel
theorem dX7_hostage_2 : decode cX7_hostage 2 = .ok (.invokevirtual 123, 3) := by decide +kernel
theorem dX7_hostage_5 : decode cX7_hostage 5 = .ok (.iload_n 2, 1) := by decide +kernel
theorem dX7_hostage_6 : decode cX7_hostage 6 = .ok (.ifCond .ge 13, 3) := by decide +kernel
theorem dX7_hostage_9 : decode cX7_hostage 9 = .ok (.new 135, 3) := by decide +kernel
theorem dX7_hostage_12 : decode cX7_hostage 12 = .ok (.dup, 1) := by decide +kernel
theorem dX7_hostage_13 : decode cX7_hostage 13 = .ok (.ldc 137, 2) := by decide +kernel
theorem dX7_hostage_15 : decode cX7_hostage 15 = .ok (.invokespecial 139, 3) := by decide +kernel
theorem dX7_hostage_18 : decode cX7_hostage 18 = .ok (.athrow, 1) := by decide +kernel
theorem dX7_hostage_19 : decode cX7_hostage 19 = .ok (.aload_n 0, 1) := by decide +kernel
theorem dX7_hostage_20 : decode cX7_hostage 20 = .ok (.getfield 10, 3) := by decide +kernel
theorem dX7_hostage_23 : decode cX7_hostage 23 = .ok (.getfield 126, 3) := by decide +kernel
theorem dX7_hostage_26 : decode cX7_hostage 26 = .ok (.iload_n 1, 1) := by decide +kernel
theorem dX7_hostage_27 : decode cX7_hostage 27 = .ok (.aaload, 1) := by decide +kernel
theorem dX7_hostage_28 : decode cX7_hostage 28 = .ok (.iload_n 2, 1) := by decide +kernel
theorem dX7_hostage_29 : decode cX7_hostage 29 = .ok (.invokevirtual 140, 3) := by decide +kernel
theorem dX7_hostage_32 : decode cX7_hostage 32 = .ok (.ireturn, 1) := by decide +kernel
set_option maxRecDepth 20000 in
theorem ggX7_cellSet_X7_requireMove : GoodIn wsX7_cellSet wsX7_requireMove := goodIn_ca (goodIn_r _ [9, 10, 11, 1, 12, 13, 14, 15, 16, 17, 18, 19, 20, 21, 22, 23, 24, 25, 26, 27, 28] (by decide +kernel) (by decide +kernel)) (goodIn_sub (fun _ h => List.mem_cons_of_mem _ (List.mem_append_right _ h)) (by decide +kernel))
set_option maxRecDepth 20000 in
theorem gX7_cellSet_X7_requireMove : GoodIn wsX7_cellSet (wsV RX7 123 RX7 yX7_requireMove wsX7_requireMove) := goodIn_app (goodIn_of _ (by decide +kernel)) ggX7_cellSet_X7_requireMove
theorem dX7_cellSet_0 : decode cX7_cellSet 0 = .ok (.aload_n 0, 1) := by decide +kernel
theorem dX7_cellSet_1 : decode cX7_cellSet 1 = .ok (.iload_n 1, 1) := by decide +kernel
theorem dX7_cellSet_2 : decode cX7_cellSet 2 = .ok (.invokevirtual 123, 3) := by decide +kernel
theorem dX7_cellSet_5 : decode cX7_cellSet 5 = .ok (.iload_n 2, 1) := by decide +kernel
theorem dX7_cellSet_6 : decode cX7_cellSet 6 = .ok (.ifCond .eq 18, 3) := by decide +kernel
theorem dX7_cellSet_9 : decode cX7_cellSet 9 = .ok (.aload_n 0, 1) := by decide +kernel
theorem dX7_cellSet_10 : decode cX7_cellSet 10 = .ok (.getfield 10, 3) := by decide +kernel
theorem dX7_cellSet_13 : decode cX7_cellSet 13 = .ok (.getfield 126, 3) := by decide +kernel
theorem dX7_cellSet_16 : decode cX7_cellSet 16 = .ok (.iload_n 1, 1) := by decide +kernel
theorem dX7_cellSet_17 : decode cX7_cellSet 17 = .ok (.aaload, 1) := by decide +kernel
theorem dX7_cellSet_18 : decode cX7_cellSet 18 = .ok (.getfield 143, 3) := by decide +kernel
theorem dX7_cellSet_21 : decode cX7_cellSet 21 = .ok (.goto 15, 3) := by decide +kernel
theorem dX7_cellSet_24 : decode cX7_cellSet 24 = .ok (.aload_n 0, 1) := by decide +kernel
theorem dX7_cellSet_25 : decode cX7_cellSet 25 = .ok (.getfield 10, 3) := by decide +kernel
theorem dX7_cellSet_28 : decode cX7_cellSet 28 = .ok (.getfield 126, 3) := by decide +kernel
theorem dX7_cellSet_31 : decode cX7_cellSet 31 = .ok (.iload_n 1, 1) := by decide +kernel
theorem dX7_cellSet_32 : decode cX7_cellSet 32 = .ok (.aaload, 1) := by decide +kernel
theorem dX7_cellSet_33 : decode cX7_cellSet 33 = .ok (.getfield 147, 3) := by decide +kernel
theorem dX7_cellSet_36 : decode cX7_cellSet 36 = .ok (.lreturn, 1) := by decide +kernel
set_option maxRecDepth 20000 in
theorem ggX7_held_X5_heldCells : GoodIn wsX7_held wsX5_heldCells := goodIn_r _ [6, 7, 8, 9, 10, 11, 12, 13, 14, 15, 20, 21, 22, 23, 24, 25, 26, 27, 28, 29, 30, 31, 32, 33, 34, 35, 36, 37, 38, 39, 40, 41, 42, 43, 44] (by decide +kernel) (by decide +kernel)
set_option maxRecDepth 20000 in
theorem gX7_held_X5_heldCells : GoodIn wsX7_held (wsV RX7 150 RX5 yX5_heldCells wsX5_heldCells) := goodIn_app (goodIn_of _ (by decide +kernel)) ggX7_held_X5_heldCells
theorem dX7_held_0 : decode cX7_held 0 = .ok (.aload_n 0, 1) := by decide +kernel
theorem dX7_held_1 : decode cX7_held 1 = .ok (.getfield 10, 3) := by decide +kernel
theorem dX7_held_4 : decode cX7_held 4 = .ok (.invokevirtual 150, 3) := by decide +kernel
theorem dX7_held_7 : decode cX7_held 7 = .ok (.lreturn, 1) := by decide +kernel
set_option maxRecDepth 20000 in
theorem ggX7_whole_X7_requireRange : GoodIn wsX7_whole wsX7_requireRange := goodIn_ca (goodIn_r _ [4, 5, 6, 7, 8, 3, 9] (by decide +kernel) (by decide +kernel)) (goodIn_sub (fun _ h => List.mem_cons_of_mem _ (List.mem_append_right _ h)) (by decide +kernel))
set_option maxRecDepth 20000 in
theorem gX7_whole_X7_requireRange : GoodIn wsX7_whole (va_wsS RX7 116 yX7_requireRange wsX7_requireRange) := goodIn_app (goodIn_of _ (by decide +kernel)) ggX7_whole_X7_requireRange
set_option maxRecDepth 20000 in
theorem ggX7_whole_X7_wholePart : GoodIn wsX7_whole wsX7_wholePart := goodIn_r _ [13, 14, 15, 16, 17, 18, 19, 20, 21, 22, 23, 24, 25, 26, 27, 28, 29, 30, 31, 32, 33, 34, 35, 36, 37, 38, 39, 40, 41, 42, 43, 44, 45, 46, 47, 48, 49, 50, 51, 52, 53, 54, 55, 56, 57, 58, 59, 60, 61, 62, 63, 64, 65, 66, 67, 68, 69, 70, 71, 72, 73, 74, 75, 76, 77, 78, 79, 80, 81, 82, 83, 84, 85, 86, 87, 88, 89, 90, 91, 92, 93] (by decide +kernel) (by decide +kernel)
set_option maxRecDepth 20000 in
theorem gX7_whole_X7_wholePart : GoodIn wsX7_whole (wsV RX7 154 RX7 yX7_wholePart wsX7_wholePart) := goodIn_app (goodIn_of _ (by decide +kernel)) ggX7_whole_X7_wholePart
theorem dX7_whole_0 : decode cX7_whole 0 = .ok (.iload_n 1, 1) := by decide +kernel
theorem dX7_whole_1 : decode cX7_whole 1 = .ok (.bipush 14, 2) := by decide +kernel
theorem dX7_whole_3 : decode cX7_whole 3 = .ok (.invokestatic 116, 3) := by decide +kernel
theorem dX7_whole_6 : decode cX7_whole 6 = .ok (.aload_n 0, 1) := by decide +kernel
theorem dX7_whole_7 : decode cX7_whole 7 = .ok (.iload_n 1, 1) := by decide +kernel
theorem dX7_whole_8 : decode cX7_whole 8 = .ok (.invokevirtual 154, 3) := by decide +kernel
theorem dX7_whole_11 : decode cX7_whole 11 = .ok (.ireturn, 1) := by decide +kernel
set_option maxRecDepth 20000 in
theorem ggX7_reason_X7_requireCell : GoodIn wsX7_reason wsX7_requireCell := goodIn_ca (goodIn_r _ [5, 6, 7, 8, 9, 4, 10, 11, 12, 13] (by decide +kernel) (by decide +kernel)) (goodIn_sub (fun _ h => List.mem_cons_of_mem _ (List.mem_append_right _ h)) (by decide +kernel))
set_option maxRecDepth 20000 in
theorem gX7_reason_X7_requireCell : GoodIn wsX7_reason (va_wsS RX7 98 yX7_requireCell wsX7_requireCell) := goodIn_app (goodIn_of _ (by decide +kernel)) ggX7_reason_X7_requireCell
set_option maxRecDepth 20000 in
theorem ggX7_reason_X5_barOf : GoodIn wsX7_reason wsX5_barOf := goodIn_r _ [18, 19, 20, 21, 22, 23, 24, 25, 26, 17, 27, 28, 29, 30, 31, 32, 33, 38, 39, 40, 41, 42, 43, 44, 45, 46, 47, 48, 49, 50, 51, 52, 53, 54, 55, 56, 57, 58, 59, 60, 61, 62] (by decide +kernel) (by decide +kernel)
set_option maxRecDepth 20000 in
theorem gX7_reason_X5_barOf : GoodIn wsX7_reason (wsV RX7 157 RX5 yX5_barOf wsX5_barOf) := goodIn_app (goodIn_of _ (by decide +kernel)) ggX7_reason_X5_barOf
theorem dX7_reason_0 : decode cX7_reason 0 = .ok (.iload_n 1, 1) := by decide +kernel
theorem dX7_reason_1 : decode cX7_reason 1 = .ok (.invokestatic 98, 3) := by decide +kernel
theorem dX7_reason_4 : decode cX7_reason 4 = .ok (.aload_n 0, 1) := by decide +kernel
theorem dX7_reason_5 : decode cX7_reason 5 = .ok (.getfield 10, 3) := by decide +kernel
theorem dX7_reason_8 : decode cX7_reason 8 = .ok (.iload_n 1, 1) := by decide +kernel
theorem dX7_reason_9 : decode cX7_reason 9 = .ok (.invokevirtual 157, 3) := by decide +kernel
theorem dX7_reason_12 : decode cX7_reason 12 = .ok (.ireturn, 1) := by decide +kernel
set_option maxRecDepth 20000 in
theorem ggX7_waitsFor_X7_requireMove : GoodIn wsX7_waitsFor wsX7_requireMove := goodIn_ca (goodIn_r _ [6, 7, 8, 1, 9, 25, 26, 27, 28, 29, 30, 31, 32, 33, 34, 35, 36, 37, 38, 39, 40] (by decide +kernel) (by decide +kernel)) (goodIn_sub (fun _ h => List.mem_cons_of_mem _ (List.mem_append_right _ h)) (by decide +kernel))
set_option maxRecDepth 20000 in
theorem gX7_waitsFor_X7_requireMove : GoodIn wsX7_waitsFor (wsV RX7 123 RX7 yX7_requireMove wsX7_requireMove) := goodIn_app (goodIn_of _ (by decide +kernel)) ggX7_waitsFor_X7_requireMove
set_option maxRecDepth 20000 in
theorem ggX7_waitsFor_X5_waitedFor : GoodIn wsX7_waitsFor wsX5_waitedFor := goodIn_r _ [14, 15, 16, 17, 18, 19, 20, 21, 22, 23, 24, 29, 30, 31, 32, 33, 34, 35, 36, 37, 38, 39, 40, 41, 42, 43, 44, 45, 46, 47, 48, 49, 50, 51, 52, 53] (by decide +kernel) (by decide +kernel)
set_option maxRecDepth 20000 in
theorem gX7_waitsFor_X5_waitedFor : GoodIn wsX7_waitsFor (wsV RX7 160 RX5 yX5_waitedFor wsX5_waitedFor) := goodIn_app (goodIn_of _ (by decide +kernel)) ggX7_waitsFor_X5_waitedFor
theorem dX7_waitsFor_0 : decode cX7_waitsFor 0 = .ok (.aload_n 0, 1) := by decide +kernel
theorem dX7_waitsFor_1 : decode cX7_waitsFor 1 = .ok (.iload_n 1, 1) := by decide +kernel
theorem dX7_waitsFor_2 : decode cX7_waitsFor 2 = .ok (.invokevirtual 123, 3) := by decide +kernel
theorem dX7_waitsFor_5 : decode cX7_waitsFor 5 = .ok (.aload_n 0, 1) := by decide +kernel
theorem dX7_waitsFor_6 : decode cX7_waitsFor 6 = .ok (.getfield 10, 3) := by decide +kernel
theorem dX7_waitsFor_9 : decode cX7_waitsFor 9 = .ok (.iload_n 1, 1) := by decide +kernel
theorem dX7_waitsFor_10 : decode cX7_waitsFor 10 = .ok (.invokevirtual 160, 3) := by decide +kernel
theorem dX7_waitsFor_13 : decode cX7_waitsFor 13 = .ok (.ireturn, 1) := by decide +kernel
set_option maxRecDepth 20000 in
theorem ggX7_depth_X7_requireMove : GoodIn wsX7_depth wsX7_requireMove := goodIn_ca (goodIn_r _ [6, 7, 8, 1, 9, 34, 35, 36, 37, 38, 39, 40, 41, 42, 43, 44, 45, 46, 47, 48, 49] (by decide +kernel) (by decide +kernel)) (goodIn_sub (fun _ h => List.mem_cons_of_mem _ (List.mem_append_right _ h)) (by decide +kernel))
set_option maxRecDepth 20000 in
theorem gX7_depth_X7_requireMove : GoodIn wsX7_depth (wsV RX7 123 RX7 yX7_requireMove wsX7_requireMove) := goodIn_app (goodIn_of _ (by decide +kernel)) ggX7_depth_X7_requireMove
set_option maxRecDepth 20000 in
theorem ggX7_depth_X5_depthOf : GoodIn wsX7_depth wsX5_depthOf := goodIn_r _ [14, 15, 16, 17, 18, 19, 20, 21, 22, 13, 23, 24, 25, 26, 27, 28, 29, 30, 31, 32, 33, 38, 39, 40, 41, 42, 43, 44, 45, 46, 47, 48, 49, 50, 51, 52, 53, 54, 55, 56, 57, 58, 59, 60, 61, 62] (by decide +kernel) (by decide +kernel)
set_option maxRecDepth 20000 in
theorem gX7_depth_X5_depthOf : GoodIn wsX7_depth (wsV RX7 163 RX5 yX5_depthOf wsX5_depthOf) := goodIn_app (goodIn_of _ (by decide +kernel)) ggX7_depth_X5_depthOf
theorem dX7_depth_0 : decode cX7_depth 0 = .ok (.aload_n 0, 1) := by decide +kernel
theorem dX7_depth_1 : decode cX7_depth 1 = .ok (.iload_n 1, 1) := by decide +kernel
theorem dX7_depth_2 : decode cX7_depth 2 = .ok (.invokevirtual 123, 3) := by decide +kernel
theorem dX7_depth_5 : decode cX7_depth 5 = .ok (.aload_n 0, 1) := by decide +kernel
theorem dX7_depth_6 : decode cX7_depth 6 = .ok (.getfield 10, 3) := by decide +kernel
theorem dX7_depth_9 : decode cX7_depth 9 = .ok (.iload_n 1, 1) := by decide +kernel
theorem dX7_depth_10 : decode cX7_depth 10 = .ok (.invokevirtual 163, 3) := by decide +kernel
theorem dX7_depth_13 : decode cX7_depth 13 = .ok (.ireturn, 1) := by decide +kernel
set_option maxRecDepth 20000 in
theorem ggX7_finalValue_X7_requireCell : GoodIn wsX7_finalValue wsX7_requireCell := goodIn_ca (goodIn_r _ [6, 7, 8, 9, 10, 5, 11, 12, 13, 14] (by decide +kernel) (by decide +kernel)) (goodIn_sub (fun _ h => List.mem_cons_of_mem _ (List.mem_append_right _ h)) (by decide +kernel))
set_option maxRecDepth 20000 in
theorem gX7_finalValue_X7_requireCell : GoodIn wsX7_finalValue (va_wsS RX7 98 yX7_requireCell wsX7_requireCell) := goodIn_app (goodIn_of _ (by decide +kernel)) ggX7_finalValue_X7_requireCell
set_option maxRecDepth 20000 in
theorem ggX7_finalValue_X7_tryFinish : GoodIn wsX7_finalValue wsX7_tryFinish := goodIn_r _ [18, 1, 19, 20, 21, 22, 23, 24, 25, 26, 27, 28, 29, 30, 31, 32, 33, 34, 35, 36, 37, 38, 39, 40, 41, 42, 43, 44, 45, 46, 47, 48, 49, 50, 51, 52, 53, 54, 55, 56, 57, 58, 59, 60, 61, 62, 63, 64, 65, 66, 67, 68, 69, 70, 71, 72, 73, 74, 75, 76, 77, 78, 79, 80, 81, 82, 83, 84, 85, 86, 87, 88, 89, 90, 91, 92, 93, 94, 95, 96, 97, 98, 99, 100, 101, 102, 103, 104, 105, 106, 107, 108, 109, 110, 111, 112, 113, 114, 115, 116, 117, 118, 119, 120, 121, 122, 123, 124, 125, 126, 127, 128, 129, 130] (by decide +kernel) (by decide +kernel)
set_option maxRecDepth 20000 in
theorem gX7_finalValue_X7_tryFinish : GoodIn wsX7_finalValue (wsV RX7 166 RX7 yX7_tryFinish wsX7_tryFinish) := goodIn_app (goodIn_of _ (by decide +kernel)) ggX7_finalValue_X7_tryFinish
theorem dX7_finalValue_0 : decode cX7_finalValue 0 = .ok (.iload_n 1, 1) := by decide +kernel
theorem dX7_finalValue_1 : decode cX7_finalValue 1 = .ok (.invokestatic 98, 3) := by decide +kernel
theorem dX7_finalValue_4 : decode cX7_finalValue 4 = .ok (.aload_n 0, 1) := by decide +kernel
theorem dX7_finalValue_5 : decode cX7_finalValue 5 = .ok (.invokevirtual 166, 3) := by decide +kernel
theorem dX7_finalValue_8 : decode cX7_finalValue 8 = .ok (.aload_n 0, 1) := by decide +kernel
theorem dX7_finalValue_9 : decode cX7_finalValue 9 = .ok (.getfield 16, 3) := by decide +kernel
theorem dX7_finalValue_12 : decode cX7_finalValue 12 = .ok (.getfield 101, 3) := by decide +kernel
theorem dX7_finalValue_15 : decode cX7_finalValue 15 = .ok (.iload_n 1, 1) := by decide +kernel
theorem dX7_finalValue_16 : decode cX7_finalValue 16 = .ok (.iaload, 1) := by decide +kernel
theorem dX7_finalValue_17 : decode cX7_finalValue 17 = .ok (.ireturn, 1) := by decide +kernel
set_option maxRecDepth 20000 in
theorem ggX7_copiedIn_X7_requireMove : GoodIn wsX7_copiedIn wsX7_requireMove := goodIn_ca (goodIn_r _ [9, 10, 11, 1, 12, 121, 122, 123, 124, 125, 126, 127, 128, 129, 130, 131, 132, 133, 134, 135, 136] (by decide +kernel) (by decide +kernel)) (goodIn_sub (fun _ h => List.mem_cons_of_mem _ (List.mem_append_right _ h)) (by decide +kernel))
set_option maxRecDepth 20000 in
theorem gX7_copiedIn_X7_requireMove : GoodIn wsX7_copiedIn (wsV RX7 123 RX7 yX7_requireMove wsX7_requireMove) := goodIn_app (goodIn_of _ (by decide +kernel)) ggX7_copiedIn_X7_requireMove
set_option maxRecDepth 20000 in
theorem ggX7_copiedIn_X5_copyFrom : GoodIn wsX7_copiedIn wsX5_copyFrom := goodIn_r _ [17, 18, 19, 20, 21, 22, 23, 24, 25, 26, 27, 28, 29, 30, 31, 32, 33, 34, 35, 36, 37, 38, 39, 40, 41, 42, 43, 44, 45, 46, 47, 48, 49, 50, 51, 52, 53, 54, 55, 56, 57, 58, 59, 60, 125, 126, 127, 128, 129, 130, 131, 132, 133, 134, 135, 136, 150, 151, 152, 153, 137, 138, 139, 140, 141, 142, 143, 144, 145, 146, 147, 148, 149] (by decide +kernel) (by decide +kernel)
set_option maxRecDepth 20000 in
theorem gX7_copiedIn_X5_copyFrom : GoodIn wsX7_copiedIn (wsV RX7 173 RX5 yX5_copyFrom wsX5_copyFrom) := goodIn_app (goodIn_of _ (by decide +kernel)) ggX7_copiedIn_X5_copyFrom
set_option maxRecDepth 20000 in
theorem ggX7_copiedIn_X5_passTick : GoodIn wsX7_copiedIn wsX5_passTick := goodIn_r _ [64, 23, 24, 65, 66, 25, 26, 27, 29, 67, 68, 69, 16, 70, 71, 72, 73, 74, 75, 76, 77, 78, 79, 80, 81, 31, 82, 83, 84, 85, 28, 86, 87, 88, 89, 90, 91, 92, 93, 94, 95, 96, 45, 97, 54, 52, 53, 98, 99, 100, 101, 102, 103, 104, 18, 105, 106, 107, 108, 109, 36, 110, 39, 38, 111, 112, 113, 114, 115, 116, 117, 118, 119, 120, 30, 125, 126, 127, 128, 129, 130, 131, 132, 133, 134, 135, 136, 150, 151, 152, 153, 137, 138, 139, 140, 141, 142, 143, 144, 145, 146, 147, 148, 149] (by decide +kernel) (by decide +kernel)
set_option maxRecDepth 20000 in
theorem gX7_copiedIn_X5_passTick : GoodIn wsX7_copiedIn (wsV RX7 176 RX5 yX5_passTick wsX5_passTick) := goodIn_app (goodIn_of _ (by decide +kernel)) ggX7_copiedIn_X5_passTick
theorem dX7_copiedIn_0 : decode cX7_copiedIn 0 = .ok (.aload_n 0, 1) := by decide +kernel
theorem dX7_copiedIn_1 : decode cX7_copiedIn 1 = .ok (.iload_n 1, 1) := by decide +kernel
theorem dX7_copiedIn_2 : decode cX7_copiedIn 2 = .ok (.invokevirtual 123, 3) := by decide +kernel
theorem dX7_copiedIn_5 : decode cX7_copiedIn 5 = .ok (.aload_n 0, 1) := by decide +kernel
theorem dX7_copiedIn_6 : decode cX7_copiedIn 6 = .ok (.getfield 10, 3) := by decide +kernel
theorem dX7_copiedIn_9 : decode cX7_copiedIn 9 = .ok (.getfield 126, 3) := by decide +kernel
theorem dX7_copiedIn_12 : decode cX7_copiedIn 12 = .ok (.iload_n 1, 1) := by decide +kernel
theorem dX7_copiedIn_13 : decode cX7_copiedIn 13 = .ok (.aaload, 1) := by decide +kernel
theorem dX7_copiedIn_14 : decode cX7_copiedIn 14 = .ok (.getfield 169, 3) := by decide +kernel
theorem dX7_copiedIn_17 : decode cX7_copiedIn 17 = .ok (.iconst 2, 1) := by decide +kernel
theorem dX7_copiedIn_18 : decode cX7_copiedIn 18 = .ok (.if_icmp .lt 5, 3) := by decide +kernel
theorem dX7_copiedIn_21 : decode cX7_copiedIn 21 = .ok (.iconst 0, 1) := by decide +kernel
theorem dX7_copiedIn_22 : decode cX7_copiedIn 22 = .ok (.ireturn, 1) := by decide +kernel
theorem dX7_copiedIn_23 : decode cX7_copiedIn 23 = .ok (.aload_n 0, 1) := by decide +kernel
theorem dX7_copiedIn_24 : decode cX7_copiedIn 24 = .ok (.getfield 16, 3) := by decide +kernel
theorem dX7_copiedIn_27 : decode cX7_copiedIn 27 = .ok (.aload_n 0, 1) := by decide +kernel
theorem dX7_copiedIn_28 : decode cX7_copiedIn 28 = .ok (.getfield 10, 3) := by decide +kernel
theorem dX7_copiedIn_31 : decode cX7_copiedIn 31 = .ok (.invokevirtual 173, 3) := by decide +kernel
theorem dX7_copiedIn_34 : decode cX7_copiedIn 34 = .ok (.iconst 1, 1) := by decide +kernel
theorem dX7_copiedIn_35 : decode cX7_copiedIn 35 = .ok (.istore_n 2, 1) := by decide +kernel
theorem dX7_copiedIn_36 : decode cX7_copiedIn 36 = .ok (.iload_n 2, 1) := by decide +kernel
theorem dX7_copiedIn_37 : decode cX7_copiedIn 37 = .ok (.sipush 300, 3) := by decide +kernel
theorem dX7_copiedIn_40 : decode cX7_copiedIn 40 = .ok (.if_icmp .gt 34, 3) := by decide +kernel
theorem dX7_copiedIn_43 : decode cX7_copiedIn 43 = .ok (.aload_n 0, 1) := by decide +kernel
theorem dX7_copiedIn_44 : decode cX7_copiedIn 44 = .ok (.getfield 16, 3) := by decide +kernel
theorem dX7_copiedIn_47 : decode cX7_copiedIn 47 = .ok (.invokevirtual 176, 3) := by decide +kernel
theorem dX7_copiedIn_50 : decode cX7_copiedIn 50 = .ok (.aload_n 0, 1) := by decide +kernel
theorem dX7_copiedIn_51 : decode cX7_copiedIn 51 = .ok (.getfield 16, 3) := by decide +kernel
theorem dX7_copiedIn_54 : decode cX7_copiedIn 54 = .ok (.getfield 126, 3) := by decide +kernel
theorem dX7_copiedIn_57 : decode cX7_copiedIn 57 = .ok (.iload_n 1, 1) := by decide +kernel
theorem dX7_copiedIn_58 : decode cX7_copiedIn 58 = .ok (.aaload, 1) := by decide +kernel
theorem dX7_copiedIn_59 : decode cX7_copiedIn 59 = .ok (.getfield 169, 3) := by decide +kernel
theorem dX7_copiedIn_62 : decode cX7_copiedIn 62 = .ok (.iconst 2, 1) := by decide +kernel
theorem dX7_copiedIn_63 : decode cX7_copiedIn 63 = .ok (.if_icmp .lt 5, 3) := by decide +kernel
theorem dX7_copiedIn_66 : decode cX7_copiedIn 66 = .ok (.iload_n 2, 1) := by decide +kernel
theorem dX7_copiedIn_67 : decode cX7_copiedIn 67 = .ok (.ireturn, 1) := by decide +kernel
theorem dX7_copiedIn_68 : decode cX7_copiedIn 68 = .ok (.iinc 2 1, 3) := by decide +kernel
theorem dX7_copiedIn_71 : decode cX7_copiedIn 71 = .ok (.goto (-35), 3) := by decide +kernel
theorem dX7_copiedIn_74 : decode cX7_copiedIn 74 = .ok (.sipush (-1000), 3) := by decide +kernel
theorem dX7_copiedIn_77 : decode cX7_copiedIn 77 = .ok (.ireturn, 1) := by decide +kernel
set_option maxRecDepth 20000 in
theorem ggX7_stuck_X5_countIn : GoodIn wsX7_stuck wsX5_countIn := goodIn_r _ [7, 8, 9, 10, 120, 121, 122, 123, 124, 125, 126, 127, 128, 129, 130, 131, 132, 133, 134, 135, 136, 137, 138, 139, 140, 141, 142, 143, 144] (by decide +kernel) (by decide +kernel)
set_option maxRecDepth 20000 in
theorem gX7_stuck_X5_countIn : GoodIn wsX7_stuck (wsV RX7 179 RX5 yX5_countIn wsX5_countIn) := goodIn_app (goodIn_of _ (by decide +kernel)) ggX7_stuck_X5_countIn
set_option maxRecDepth 20000 in
theorem ggX7_stuck_X5_copyFrom : GoodIn wsX7_stuck wsX5_copyFrom := goodIn_r _ [14, 15, 16, 17, 18, 19, 20, 21, 8, 9, 22, 23, 24, 25, 26, 27, 28, 29, 30, 31, 32, 33, 34, 35, 36, 37, 38, 39, 40, 41, 42, 43, 44, 45, 46, 47, 48, 49, 50, 51, 52, 53, 54, 55, 120, 121, 122, 123, 124, 125, 126, 127, 128, 129, 130, 131, 145, 146, 147, 148, 132, 133, 134, 135, 136, 137, 138, 139, 140, 141, 142, 143, 144] (by decide +kernel) (by decide +kernel)
set_option maxRecDepth 20000 in
theorem gX7_stuck_X5_copyFrom : GoodIn wsX7_stuck (wsV RX7 173 RX5 yX5_copyFrom wsX5_copyFrom) := goodIn_app (goodIn_of _ (by decide +kernel)) ggX7_stuck_X5_copyFrom
set_option maxRecDepth 20000 in
theorem ggX7_stuck_X5_letPass : GoodIn wsX7_stuck wsX5_letPass := goodIn_r _ [59, 25, 60, 61, 62, 6, 63, 20, 21, 64, 65, 8, 9, 22, 24, 66, 67, 68, 69, 70, 71, 72, 73, 10, 74, 75, 76, 77, 78, 79, 26, 80, 81, 82, 83, 23, 84, 4, 5, 7, 85, 86, 87, 88, 89, 90, 91, 40, 92, 49, 47, 48, 93, 94, 95, 96, 97, 98, 99, 15, 100, 101, 102, 103, 104, 31, 105, 34, 33, 106, 107, 108, 109, 110, 111, 112, 113, 114, 115, 120, 121, 122, 123, 124, 125, 126, 127, 128, 129, 130, 131, 145, 146, 147, 148, 132, 133, 134, 135, 136, 137, 138, 139, 140, 141, 142, 143, 144] (by decide +kernel) (by decide +kernel)
set_option maxRecDepth 20000 in
theorem gX7_stuck_X5_letPass : GoodIn wsX7_stuck (wsV RX7 91 RX5 yX5_letPass wsX5_letPass) := goodIn_app (goodIn_of _ (by decide +kernel)) ggX7_stuck_X5_letPass
theorem dX7_stuck_0 : decode cX7_stuck 0 = .ok (.aload_n 0, 1) := by decide +kernel
theorem dX7_stuck_1 : decode cX7_stuck 1 = .ok (.getfield 10, 3) := by decide +kernel
theorem dX7_stuck_4 : decode cX7_stuck 4 = .ok (.iconst 0, 1) := by decide +kernel
theorem dX7_stuck_5 : decode cX7_stuck 5 = .ok (.invokevirtual 179, 3) := by decide +kernel
theorem dX7_stuck_8 : decode cX7_stuck 8 = .ok (.istore_n 1, 1) := by decide +kernel
theorem dX7_stuck_9 : decode cX7_stuck 9 = .ok (.iload_n 1, 1) := by decide +kernel
theorem dX7_stuck_10 : decode cX7_stuck 10 = .ok (.ifCond .eq 14, 3) := by decide +kernel
theorem dX7_stuck_13 : decode cX7_stuck 13 = .ok (.aload_n 0, 1) := by decide +kernel
theorem dX7_stuck_14 : decode cX7_stuck 14 = .ok (.getfield 10, 3) := by decide +kernel
theorem dX7_stuck_17 : decode cX7_stuck 17 = .ok (.iconst 1, 1) := by decide +kernel
theorem dX7_stuck_18 : decode cX7_stuck 18 = .ok (.invokevirtual 179, 3) := by decide +kernel
theorem dX7_stuck_21 : decode cX7_stuck 21 = .ok (.ifCond .le 5, 3) := by decide +kernel
theorem dX7_stuck_24 : decode cX7_stuck 24 = .ok (.iconst 0, 1) := by decide +kernel
theorem dX7_stuck_25 : decode cX7_stuck 25 = .ok (.ireturn, 1) := by decide +kernel
theorem dX7_stuck_26 : decode cX7_stuck 26 = .ok (.aload_n 0, 1) := by decide +kernel
theorem dX7_stuck_27 : decode cX7_stuck 27 = .ok (.getfield 16, 3) := by decide +kernel
theorem dX7_stuck_30 : decode cX7_stuck 30 = .ok (.aload_n 0, 1) := by decide +kernel
theorem dX7_stuck_31 : decode cX7_stuck 31 = .ok (.getfield 10, 3) := by decide +kernel
theorem dX7_stuck_34 : decode cX7_stuck 34 = .ok (.invokevirtual 173, 3) := by decide +kernel
theorem dX7_stuck_37 : decode cX7_stuck 37 = .ok (.aload_n 0, 1) := by decide +kernel
theorem dX7_stuck_38 : decode cX7_stuck 38 = .ok (.getfield 16, 3) := by decide +kernel
theorem dX7_stuck_41 : decode cX7_stuck 41 = .ok (.bipush 60, 2) := by decide +kernel
theorem dX7_stuck_43 : decode cX7_stuck 43 = .ok (.invokevirtual 91, 3) := by decide +kernel
theorem dX7_stuck_46 : decode cX7_stuck 46 = .ok (.pop, 1) := by decide +kernel
theorem dX7_stuck_47 : decode cX7_stuck 47 = .ok (.aload_n 0, 1) := by decide +kernel
theorem dX7_stuck_48 : decode cX7_stuck 48 = .ok (.getfield 16, 3) := by decide +kernel
theorem dX7_stuck_51 : decode cX7_stuck 51 = .ok (.iconst 0, 1) := by decide +kernel
theorem dX7_stuck_52 : decode cX7_stuck 52 = .ok (.invokevirtual 179, 3) := by decide +kernel
theorem dX7_stuck_55 : decode cX7_stuck 55 = .ok (.iload_n 1, 1) := by decide +kernel
theorem dX7_stuck_56 : decode cX7_stuck 56 = .ok (.if_icmp .ne 7, 3) := by decide +kernel
theorem dX7_stuck_59 : decode cX7_stuck 59 = .ok (.iconst 1, 1) := by decide +kernel
theorem dX7_stuck_60 : decode cX7_stuck 60 = .ok (.goto 4, 3) := by decide +kernel
theorem dX7_stuck_63 : decode cX7_stuck 63 = .ok (.iconst 0, 1) := by decide +kernel
theorem dX7_stuck_64 : decode cX7_stuck 64 = .ok (.ireturn, 1) := by decide +kernel
set_option maxRecDepth 20000 in
theorem ggX7_type_X7_requireRange : GoodIn wsX7_type wsX7_requireRange := goodIn_ca (goodIn_r _ [8, 9, 10, 11, 12, 7, 13] (by decide +kernel) (by decide +kernel)) (goodIn_sub (fun _ h => List.mem_cons_of_mem _ (List.mem_append_right _ h)) (by decide +kernel))
set_option maxRecDepth 20000 in
theorem gX7_type_X7_requireRange : GoodIn wsX7_type (va_wsS RX7 116 yX7_requireRange wsX7_requireRange) := goodIn_app (goodIn_of _ (by decide +kernel)) ggX7_type_X7_requireRange
set_option maxRecDepth 20000 in
theorem ggX7_type_X1_append : GoodIn wsX7_type wsX1_append := goodIn_r _ [18, 19, 20, 25, 26, 27, 28, 29, 30] (by decide +kernel) (by decide +kernel)
set_option maxRecDepth 20000 in
theorem gX7_type_X1_append : GoodIn wsX7_type (wsV RX7 190 RX1 yX1_append wsX1_append) := goodIn_app (goodIn_of _ (by decide +kernel)) ggX7_type_X1_append
theorem dX7_type_0 : decode cX7_type 0 = .ok (.iload_n 1, 1) := by decide +kernel
theorem dX7_type_1 : decode cX7_type 1 = .ok (.bipush 127, 2) := by decide +kernel
theorem dX7_type_3 : decode cX7_type 3 = .ok (.invokestatic 116, 3) := by decide +kernel
theorem dX7_type_6 : decode cX7_type 6 = .ok (.aload_n 0, 1) := by decide +kernel
theorem dX7_type_7 : decode cX7_type 7 = .ok (.getfield 29, 3) := by decide +kernel
theorem dX7_type_10 : decode cX7_type 10 = .ok (.getfield 182, 3) := by decide +kernel
theorem dX7_type_13 : decode cX7_type 13 = .ok (.sipush 150, 3) := by decide +kernel
theorem dX7_type_16 : decode cX7_type 16 = .ok (.if_icmp .lt 13, 3) := by decide +kernel
theorem dX7_type_19 : decode cX7_type 19 = .ok (.new 185, 3) := by decide +kernel
theorem dX7_type_22 : decode cX7_type 22 = .ok (.dup, 1) := by decide +kernel
theorem dX7_type_23 : decode cX7_type 23 = .ok (.ldc 187, 2) := by decide +kernel
theorem dX7_type_25 : decode cX7_type 25 = .ok (.invokespecial 189, 3) := by decide +kernel
theorem dX7_type_28 : decode cX7_type 28 = .ok (.athrow, 1) := by decide +kernel
theorem dX7_type_29 : decode cX7_type 29 = .ok (.aload_n 0, 1) := by decide +kernel
theorem dX7_type_30 : decode cX7_type 30 = .ok (.getfield 29, 3) := by decide +kernel
theorem dX7_type_33 : decode cX7_type 33 = .ok (.iload_n 1, 1) := by decide +kernel
theorem dX7_type_34 : decode cX7_type 34 = .ok (.invokevirtual 190, 3) := by decide +kernel
theorem dX7_type_37 : decode cX7_type 37 = .ok (.ireturn, 1) := by decide +kernel
theorem dX7_clearCommands_0 : decode cX7_clearCommands 0 = .ok (.aload_n 0, 1) := by decide +kernel
theorem dX7_clearCommands_1 : decode cX7_clearCommands 1 = .ok (.getfield 29, 3) := by decide +kernel
theorem dX7_clearCommands_4 : decode cX7_clearCommands 4 = .ok (.getfield 182, 3) := by decide +kernel
theorem dX7_clearCommands_7 : decode cX7_clearCommands 7 = .ok (.istore_n 1, 1) := by decide +kernel
theorem dX7_clearCommands_8 : decode cX7_clearCommands 8 = .ok (.aload_n 0, 1) := by decide +kernel
theorem dX7_clearCommands_9 : decode cX7_clearCommands 9 = .ok (.getfield 29, 3) := by decide +kernel
theorem dX7_clearCommands_12 : decode cX7_clearCommands 12 = .ok (.iconst 0, 1) := by decide +kernel
theorem dX7_clearCommands_13 : decode cX7_clearCommands 13 = .ok (.putfield 182, 3) := by decide +kernel
theorem dX7_clearCommands_16 : decode cX7_clearCommands 16 = .ok (.iload_n 1, 1) := by decide +kernel
theorem dX7_clearCommands_17 : decode cX7_clearCommands 17 = .ok (.ireturn, 1) := by decide +kernel
set_option maxRecDepth 20000 in
theorem ggX7_runCommands_X1_findFault : GoodIn wsX7_runCommands wsX1_findFault := goodIn_r _ [10, 11, 12, 13, 14, 9, 15, 16, 17, 18, 19, 20, 21, 22, 23, 24, 25, 26, 27, 28, 29, 30, 31, 32, 33, 34, 35, 36, 37, 38, 39, 40, 41, 42, 43, 44, 45, 46, 47, 48, 49, 50, 51, 52, 53, 54, 55, 56, 57, 58, 59, 60, 61, 62, 63, 64, 65, 66, 67, 68, 69, 70, 71, 72, 73, 74, 75, 76, 77, 78, 79, 80, 81, 82, 83, 84, 85, 86, 87, 88, 89, 90, 91, 92, 93, 94, 95, 96, 97, 98, 99, 100, 101, 102, 103, 104, 105, 106, 107, 108, 109, 110, 341, 342, 343, 344, 345, 346] (by decide +kernel) (by decide +kernel)
set_option maxRecDepth 20000 in
theorem gX7_runCommands_X1_findFault : GoodIn wsX7_runCommands (wsV RX7 193 RX1 yX1_findFault wsX1_findFault) := goodIn_app (goodIn_of _ (by decide +kernel)) ggX7_runCommands_X1_findFault
set_option maxRecDepth 20000 in
theorem ggX7_runCommands_X2_save : GoodIn wsX7_runCommands wsX2_save := goodIn_r _ [115, 116, 117, 118, 119, 120, 121, 122, 123, 124, 125, 126, 127, 128, 129, 130, 131, 132, 133, 134, 135, 136, 137, 138, 139, 140, 141, 142, 143, 144, 145, 146, 147, 148, 149, 150, 151, 152, 153, 154, 155, 156, 157, 158, 159, 160, 161, 162, 163, 164, 165, 166, 167, 168, 169, 170, 347, 348, 349, 350, 351, 352, 353, 354, 355, 356, 357, 358, 359, 360, 361, 362, 363, 364, 365, 366, 367, 368, 369, 370, 371, 372, 373, 374, 375, 376, 377, 378] (by decide +kernel) (by decide +kernel)
set_option maxRecDepth 20000 in
theorem gX7_runCommands_X2_save : GoodIn wsX7_runCommands (wsV RX7 41 RX2 yX2_save wsX2_save) := goodIn_app (goodIn_of _ (by decide +kernel)) ggX7_runCommands_X2_save
set_option maxRecDepth 20000 in
theorem ggX7_runCommands_X1_rewind : GoodIn wsX7_runCommands wsX1_rewind := goodIn_r _ [15, 16, 11, 341, 342, 343, 344, 345, 346] (by decide +kernel) (by decide +kernel)
set_option maxRecDepth 20000 in
theorem gX7_runCommands_X1_rewind : GoodIn wsX7_runCommands (wsV RX7 196 RX1 yX1_rewind wsX1_rewind) := goodIn_app (goodIn_of _ (by decide +kernel)) ggX7_runCommands_X1_rewind
set_option maxRecDepth 20000 in
theorem ggX7_runCommands_X1_readCommand : GoodIn wsX7_runCommands wsX1_readCommand := goodIn_r _ [20, 16, 21, 22, 23, 24, 9, 25, 26, 27, 28, 29, 30, 31, 32, 33, 34, 35, 36, 37, 38, 39, 40, 41, 42, 43, 44, 45, 46, 47, 48, 49, 50, 51, 52, 53, 54, 55, 56, 57, 58, 59, 60, 61, 62, 63, 64, 65, 66, 67, 68, 69, 70, 71, 72, 73, 74, 75, 76, 77, 78, 79, 80, 81, 82, 83, 84, 85, 86, 87, 88, 89, 90, 91, 92, 93, 94, 95, 96, 11, 97, 98, 99, 100, 101, 102, 103, 104, 105, 106, 107, 108, 109, 110, 341, 342, 343, 344, 345, 346] (by decide +kernel) (by decide +kernel)
set_option maxRecDepth 20000 in
theorem gX7_runCommands_X1_readCommand : GoodIn wsX7_runCommands (wsV RX7 199 RX1 yX1_readCommand wsX1_readCommand) := goodIn_app (goodIn_of _ (by decide +kernel)) ggX7_runCommands_X1_readCommand
set_option maxRecDepth 20000 in
theorem ggX7_runCommands_X7_carryOut : GoodIn wsX7_runCommands wsX7_carryOut := goodIn_r _ [176, 177, 3, 178, 179, 180, 33, 181, 182, 183, 184, 185, 186, 187, 188, 189, 190, 191, 126, 192, 133, 193, 194, 195, 32, 34, 196, 197, 198, 199, 134, 200, 201, 202, 203, 204, 205, 206, 120, 121, 122, 135, 207, 208, 209, 210, 211, 212, 213, 214, 215, 216, 217, 218, 219, 136, 220, 221, 222, 223, 224, 225, 226, 227, 228, 229, 230, 231, 232, 233, 234, 235, 236, 237, 238, 239, 240, 241, 242, 243, 244, 245, 155, 246, 164, 247, 248, 249, 250, 251, 252, 253, 139, 254, 255, 256, 257, 258, 259, 260, 261, 262, 263, 264, 265, 266, 267, 268, 269, 270, 271, 272, 273, 146, 274, 275, 276, 277, 278, 149, 148, 279, 280, 281, 282, 283, 284, 285, 286, 141, 287, 288, 289, 290, 291, 292, 293, 294, 128, 295, 296, 297, 298, 137, 138, 299, 300, 301, 302, 140, 303, 304, 305, 306, 307, 308, 309, 310, 311, 312, 313, 314, 315, 316, 317, 318, 319, 320, 321, 322, 323, 324, 325, 326, 162, 163, 327, 328, 329, 330, 331, 332, 333, 334, 335, 336, 337, 338, 339, 340, 350, 351, 352, 353, 354, 355, 356, 357, 358, 359, 360, 361, 362, 363, 364, 365, 366, 367, 368, 369, 370, 371, 372, 373, 374, 375, 376, 377, 378] (by decide +kernel) (by decide +kernel)
set_option maxRecDepth 20000 in
theorem gX7_runCommands_X7_carryOut : GoodIn wsX7_runCommands (wsV RX7 210 RX7 yX7_carryOut wsX7_carryOut) := goodIn_app (goodIn_of _ (by decide +kernel)) ggX7_runCommands_X7_carryOut
theorem dX7_runCommands_0 : decode cX7_runCommands 0 = .ok (.aload_n 0, 1) := by decide +kernel
theorem dX7_runCommands_1 : decode cX7_runCommands 1 = .ok (.getfield 29, 3) := by decide +kernel
theorem dX7_runCommands_4 : decode cX7_runCommands 4 = .ok (.invokevirtual 193, 3) := by decide +kernel
theorem dX7_runCommands_7 : decode cX7_runCommands 7 = .ok (.istore_n 1, 1) := by decide +kernel
theorem dX7_runCommands_8 : decode cX7_runCommands 8 = .ok (.iload_n 1, 1) := by decide +kernel
theorem dX7_runCommands_9 : decode cX7_runCommands 9 = .ok (.iconst (-1), 1) := by decide +kernel
theorem dX7_runCommands_10 : decode cX7_runCommands 10 = .ok (.if_icmp .eq 8, 3) := by decide +kernel
theorem dX7_runCommands_13 : decode cX7_runCommands 13 = .ok (.bipush (-10), 2) := by decide +kernel
theorem dX7_runCommands_15 : decode cX7_runCommands 15 = .ok (.iload_n 1, 1) := by decide +kernel
theorem dX7_runCommands_16 : decode cX7_runCommands 16 = .ok (.isub, 1) := by decide +kernel
theorem dX7_runCommands_17 : decode cX7_runCommands 17 = .ok (.ireturn, 1) := by decide +kernel
theorem dX7_runCommands_18 : decode cX7_runCommands 18 = .ok (.aload_n 0, 1) := by decide +kernel
theorem dX7_runCommands_19 : decode cX7_runCommands 19 = .ok (.getfield 22, 3) := by decide +kernel
theorem dX7_runCommands_22 : decode cX7_runCommands 22 = .ok (.aload_n 0, 1) := by decide +kernel
theorem dX7_runCommands_23 : decode cX7_runCommands 23 = .ok (.getfield 10, 3) := by decide +kernel
theorem dX7_runCommands_26 : decode cX7_runCommands 26 = .ok (.invokevirtual 41, 3) := by decide +kernel
theorem dX7_runCommands_29 : decode cX7_runCommands 29 = .ok (.aload_n 0, 1) := by decide +kernel
theorem dX7_runCommands_30 : decode cX7_runCommands 30 = .ok (.getfield 29, 3) := by decide +kernel
theorem dX7_runCommands_33 : decode cX7_runCommands 33 = .ok (.invokevirtual 196, 3) := by decide +kernel
theorem dX7_runCommands_36 : decode cX7_runCommands 36 = .ok (.iconst 0, 1) := by decide +kernel
theorem dX7_runCommands_37 : decode cX7_runCommands 37 = .ok (.istore_n 2, 1) := by decide +kernel
theorem dX7_runCommands_38 : decode cX7_runCommands 38 = .ok (.iload_n 2, 1) := by decide +kernel
theorem dX7_runCommands_39 : decode cX7_runCommands 39 = .ok (.sipush 150, 3) := by decide +kernel
theorem dX7_runCommands_42 : decode cX7_runCommands 42 = .ok (.if_icmp .ge 40, 3) := by decide +kernel
theorem dX7_runCommands_45 : decode cX7_runCommands 45 = .ok (.aload_n 0, 1) := by decide +kernel
theorem dX7_runCommands_46 : decode cX7_runCommands 46 = .ok (.getfield 29, 3) := by decide +kernel
theorem dX7_runCommands_49 : decode cX7_runCommands 49 = .ok (.invokevirtual 199, 3) := by decide +kernel
theorem dX7_runCommands_52 : decode cX7_runCommands 52 = .ok (.ifCond .eq 30, 3) := by decide +kernel
theorem dX7_runCommands_55 : decode cX7_runCommands 55 = .ok (.aload_n 0, 1) := by decide +kernel
theorem dX7_runCommands_56 : decode cX7_runCommands 56 = .ok (.aload_n 0, 1) := by decide +kernel
theorem dX7_runCommands_57 : decode cX7_runCommands 57 = .ok (.getfield 29, 3) := by decide +kernel
theorem dX7_runCommands_60 : decode cX7_runCommands 60 = .ok (.getfield 203, 3) := by decide +kernel
theorem dX7_runCommands_63 : decode cX7_runCommands 63 = .ok (.aload_n 0, 1) := by decide +kernel
theorem dX7_runCommands_64 : decode cX7_runCommands 64 = .ok (.getfield 29, 3) := by decide +kernel
theorem dX7_runCommands_67 : decode cX7_runCommands 67 = .ok (.getfield 207, 3) := by decide +kernel
theorem dX7_runCommands_70 : decode cX7_runCommands 70 = .ok (.invokevirtual 210, 3) := by decide +kernel
theorem dX7_runCommands_73 : decode cX7_runCommands 73 = .ok (.ifCond .eq 9, 3) := by decide +kernel
theorem dX7_runCommands_76 : decode cX7_runCommands 76 = .ok (.iinc 2 1, 3) := by decide +kernel
theorem dX7_runCommands_79 : decode cX7_runCommands 79 = .ok (.goto (-41), 3) := by decide +kernel
theorem dX7_runCommands_82 : decode cX7_runCommands 82 = .ok (.iload_n 2, 1) := by decide +kernel
theorem dX7_runCommands_83 : decode cX7_runCommands 83 = .ok (.ireturn, 1) := by decide +kernel
set_option maxRecDepth 20000 in
theorem ggX7_undo_X2_restore : GoodIn wsX7_undo wsX2_restore := goodIn_r _ [10, 11, 12, 13, 14, 15, 16, 17, 18, 19, 20, 21, 22, 23, 24, 25, 26, 27, 28, 29, 30, 31, 32, 33, 34, 35, 36, 37, 38, 39, 40, 41, 42, 43, 44, 45, 46, 47, 48, 49, 50, 51, 52, 53, 54, 55, 56, 57, 58, 59, 60, 61, 66, 67, 68, 69, 70, 71, 72, 73, 74, 75, 76, 77, 78, 79, 80, 81, 82, 83, 84, 85, 86, 87, 88, 89, 90, 91, 92, 93, 94, 95, 96, 97] (by decide +kernel) (by decide +kernel)
set_option maxRecDepth 20000 in
theorem gX7_undo_X2_restore : GoodIn wsX7_undo (wsV RX7 219 RX2 yX2_restore wsX2_restore) := goodIn_app (goodIn_of _ (by decide +kernel)) ggX7_undo_X2_restore
theorem dX7_undo_0 : decode cX7_undo 0 = .ok (.aload_n 0, 1) := by decide +kernel
theorem dX7_undo_1 : decode cX7_undo 1 = .ok (.getfield 22, 3) := by decide +kernel
theorem dX7_undo_4 : decode cX7_undo 4 = .ok (.getfield 214, 3) := by decide +kernel
theorem dX7_undo_7 : decode cX7_undo 7 = .ok (.iconst 1, 1) := by decide +kernel
theorem dX7_undo_8 : decode cX7_undo 8 = .ok (.if_icmp .ge 13, 3) := by decide +kernel
theorem dX7_undo_11 : decode cX7_undo 11 = .ok (.new 185, 3) := by decide +kernel
theorem dX7_undo_14 : decode cX7_undo 14 = .ok (.dup, 1) := by decide +kernel
theorem dX7_undo_15 : decode cX7_undo 15 = .ok (.ldc 217, 2) := by decide +kernel
theorem dX7_undo_17 : decode cX7_undo 17 = .ok (.invokespecial 189, 3) := by decide +kernel
theorem dX7_undo_20 : decode cX7_undo 20 = .ok (.athrow, 1) := by decide +kernel
theorem dX7_undo_21 : decode cX7_undo 21 = .ok (.aload_n 0, 1) := by decide +kernel
theorem dX7_undo_22 : decode cX7_undo 22 = .ok (.getfield 22, 3) := by decide +kernel
theorem dX7_undo_25 : decode cX7_undo 25 = .ok (.aload_n 0, 1) := by decide +kernel
theorem dX7_undo_26 : decode cX7_undo 26 = .ok (.getfield 10, 3) := by decide +kernel
theorem dX7_undo_29 : decode cX7_undo 29 = .ok (.invokevirtual 219, 3) := by decide +kernel
theorem dX7_undo_32 : decode cX7_undo 32 = .ok (.ireturn, 1) := by decide +kernel
set_option maxRecDepth 20000 in
theorem ggX7_digest_X7_wholePart : GoodIn wsX7_digest wsX7_wholePart := goodIn_r _ [10, 11, 12, 5, 13, 14, 15, 16, 17, 18, 19, 20, 21, 22, 23, 24, 25, 26, 27, 28, 29, 30, 31, 32, 33, 34, 35, 36, 37, 38, 39, 40, 41, 42, 43, 44, 45, 46, 47, 48, 49, 50, 51, 52, 53, 54, 190, 191, 192, 193, 197, 198, 199, 200, 201, 202, 203, 204, 205, 206, 207, 208, 209, 210, 211, 212, 213, 214, 215, 216, 217, 218, 219, 220, 221, 222, 223, 224, 225, 226, 227] (by decide +kernel) (by decide +kernel)
set_option maxRecDepth 20000 in
theorem gX7_digest_X7_wholePart : GoodIn wsX7_digest (wsV RX7 154 RX7 yX7_wholePart wsX7_wholePart) := goodIn_app (goodIn_of _ (by decide +kernel)) ggX7_digest_X7_wholePart
set_option maxRecDepth 20000 in
theorem ggX7_digest_X7_digestCells : GoodIn wsX7_digest wsX7_digestCells := goodIn_r _ [58, 4, 5, 59, 60, 61, 62, 63, 9, 64, 65, 66, 67, 16, 68, 54, 69, 70, 71, 72, 18, 73, 19, 30, 20, 21, 22, 23, 24, 25, 74, 75, 76, 77, 78, 79, 80, 81, 82, 83, 84, 85, 40, 86, 87, 88, 89, 90, 91, 92, 93, 42, 94, 95, 96, 97, 98, 99, 100, 101, 102, 103, 31, 104, 105, 106, 107, 108, 109, 110, 111, 112, 113, 114, 115, 116, 117, 118, 119, 120, 121, 122, 123, 124, 125, 126, 127, 128, 190, 191, 192, 193, 203, 204, 205, 206, 207, 208, 209, 210, 211, 212, 213, 214, 228, 229, 230, 231, 215, 216, 217, 218, 219, 220, 221, 222, 223, 224, 225, 226, 227] (by decide +kernel) (by decide +kernel)
set_option maxRecDepth 20000 in
theorem gX7_digest_X7_digestCells : GoodIn wsX7_digest (wsV RX7 227 RX7 yX7_digestCells wsX7_digestCells) := goodIn_app (goodIn_of _ (by decide +kernel)) ggX7_digest_X7_digestCells
set_option maxRecDepth 20000 in
theorem ggX7_digest_X7_digestRings : GoodIn wsX7_digest wsX7_digestRings := goodIn_r _ [132, 5, 133, 4, 134, 135, 136, 16, 137, 73, 138, 139, 140, 141, 142, 143, 144, 145, 19, 30, 31, 121, 109, 146, 147, 148, 149, 150, 151, 152, 50, 51, 52, 53, 54, 190, 191, 192, 193, 203, 204, 205, 206, 207, 208, 209, 210, 211, 212, 213, 214, 228, 229, 230, 231, 215, 216, 217, 218, 219, 220, 221, 222, 223, 224, 225, 226, 227] (by decide +kernel) (by decide +kernel)
set_option maxRecDepth 20000 in
theorem gX7_digest_X7_digestRings : GoodIn wsX7_digest (wsV RX7 231 RX7 yX7_digestRings wsX7_digestRings) := goodIn_app (goodIn_of _ (by decide +kernel)) ggX7_digest_X7_digestRings
set_option maxRecDepth 20000 in
theorem ggX7_digest_X7_digestMoves : GoodIn wsX7_digest wsX7_digestMoves := goodIn_r _ [156, 5, 157, 158, 4, 159, 160, 161, 40, 162, 87, 88, 89, 90, 91, 42, 94, 95, 96, 97, 163, 164, 165, 166, 167, 168, 169, 170, 98, 171, 172, 173, 174, 16, 175, 30, 31, 176, 177, 178, 179, 92, 93, 180, 181, 182, 183, 184, 185, 186, 125, 187, 188, 190, 191, 192, 193, 203, 204, 205, 206, 207, 208, 209, 210, 211, 212, 213, 214, 215, 216, 217, 218, 219, 220, 221, 222, 223, 224, 225, 226, 227] (by decide +kernel) (by decide +kernel)
set_option maxRecDepth 20000 in
theorem gX7_digest_X7_digestMoves : GoodIn wsX7_digest (wsV RX7 234 RX7 yX7_digestMoves wsX7_digestMoves) := goodIn_app (goodIn_of _ (by decide +kernel)) ggX7_digest_X7_digestMoves
set_option maxRecDepth 20000 in
theorem ggX7_digest_X5_heldCells : GoodIn wsX7_digest wsX5_heldCells := goodIn_r _ [35, 19, 30, 36, 37, 38, 39, 40, 41, 42, 203, 204, 205, 206, 207, 208, 209, 210, 211, 212, 213, 214, 215, 216, 217, 218, 219, 220, 221, 222, 223, 224, 225, 226, 227] (by decide +kernel) (by decide +kernel)
set_option maxRecDepth 20000 in
theorem gX7_digest_X5_heldCells : GoodIn wsX7_digest (wsV RX7 150 RX5 yX5_heldCells wsX5_heldCells) := goodIn_app (goodIn_of _ (by decide +kernel)) ggX7_digest_X5_heldCells
theorem dX7_digest_0 : decode cX7_digest 0 = .ok (.ldc2_w 223, 3) := by decide +kernel
theorem dX7_digest_3 : decode cX7_digest 3 = .ok (.aload_n 0, 1) := by decide +kernel
theorem dX7_digest_4 : decode cX7_digest 4 = .ok (.getfield 22, 3) := by decide +kernel
theorem dX7_digest_7 : decode cX7_digest 7 = .ok (.getfield 214, 3) := by decide +kernel
theorem dX7_digest_10 : decode cX7_digest 10 = .ok (.i2l, 1) := by decide +kernel
theorem dX7_digest_11 : decode cX7_digest 11 = .ok (.ladd, 1) := by decide +kernel
theorem dX7_digest_12 : decode cX7_digest 12 = .ok (.lstore_n 1, 1) := by decide +kernel
theorem dX7_digest_13 : decode cX7_digest 13 = .ok (.iconst 0, 1) := by decide +kernel
theorem dX7_digest_14 : decode cX7_digest 14 = .ok (.istore_n 3, 1) := by decide +kernel
theorem dX7_digest_15 : decode cX7_digest 15 = .ok (.iload_n 3, 1) := by decide +kernel
theorem dX7_digest_16 : decode cX7_digest 16 = .ok (.bipush 14, 2) := by decide +kernel
theorem dX7_digest_18 : decode cX7_digest 18 = .ok (.if_icmp .gt 22, 3) := by decide +kernel
theorem dX7_digest_21 : decode cX7_digest 21 = .ok (.ldc2_w 225, 3) := by decide +kernel
theorem dX7_digest_24 : decode cX7_digest 24 = .ok (.lload_n 1, 1) := by decide +kernel
theorem dX7_digest_25 : decode cX7_digest 25 = .ok (.lmul, 1) := by decide +kernel
theorem dX7_digest_26 : decode cX7_digest 26 = .ok (.aload_n 0, 1) := by decide +kernel
theorem dX7_digest_27 : decode cX7_digest 27 = .ok (.iload_n 3, 1) := by decide +kernel
theorem dX7_digest_28 : decode cX7_digest 28 = .ok (.invokevirtual 154, 3) := by decide +kernel
theorem dX7_digest_31 : decode cX7_digest 31 = .ok (.i2l, 1) := by decide +kernel
theorem dX7_digest_32 : decode cX7_digest 32 = .ok (.ladd, 1) := by decide +kernel
theorem dX7_digest_33 : decode cX7_digest 33 = .ok (.lstore_n 1, 1) := by decide +kernel
theorem dX7_digest_34 : decode cX7_digest 34 = .ok (.iinc 3 1, 3) := by decide +kernel
theorem dX7_digest_37 : decode cX7_digest 37 = .ok (.goto (-22), 3) := by decide +kernel
theorem dX7_digest_40 : decode cX7_digest 40 = .ok (.aload_n 0, 1) := by decide +kernel
theorem dX7_digest_41 : decode cX7_digest 41 = .ok (.lload_n 1, 1) := by decide +kernel
theorem dX7_digest_42 : decode cX7_digest 42 = .ok (.invokevirtual 227, 3) := by decide +kernel
theorem dX7_digest_45 : decode cX7_digest 45 = .ok (.lstore_n 1, 1) := by decide +kernel
theorem dX7_digest_46 : decode cX7_digest 46 = .ok (.aload_n 0, 1) := by decide +kernel
theorem dX7_digest_47 : decode cX7_digest 47 = .ok (.lload_n 1, 1) := by decide +kernel
theorem dX7_digest_48 : decode cX7_digest 48 = .ok (.invokevirtual 231, 3) := by decide +kernel
theorem dX7_digest_51 : decode cX7_digest 51 = .ok (.lstore_n 1, 1) := by decide +kernel
theorem dX7_digest_52 : decode cX7_digest 52 = .ok (.aload_n 0, 1) := by decide +kernel
theorem dX7_digest_53 : decode cX7_digest 53 = .ok (.lload_n 1, 1) := by decide +kernel
theorem dX7_digest_54 : decode cX7_digest 54 = .ok (.invokevirtual 234, 3) := by decide +kernel
theorem dX7_digest_57 : decode cX7_digest 57 = .ok (.lstore_n 1, 1) := by decide +kernel
theorem dX7_digest_58 : decode cX7_digest 58 = .ok (.ldc2_w 225, 3) := by decide +kernel
theorem dX7_digest_61 : decode cX7_digest 61 = .ok (.lload_n 1, 1) := by decide +kernel
theorem dX7_digest_62 : decode cX7_digest 62 = .ok (.lmul, 1) := by decide +kernel
theorem dX7_digest_63 : decode cX7_digest 63 = .ok (.aload_n 0, 1) := by decide +kernel
theorem dX7_digest_64 : decode cX7_digest 64 = .ok (.getfield 10, 3) := by decide +kernel
theorem dX7_digest_67 : decode cX7_digest 67 = .ok (.invokevirtual 150, 3) := by decide +kernel
theorem dX7_digest_70 : decode cX7_digest 70 = .ok (.ladd, 1) := by decide +kernel
theorem dX7_digest_71 : decode cX7_digest 71 = .ok (.lreturn, 1) := by decide +kernel
set_option maxRecDepth 20000 in
theorem ggX7_digestCells_X7_tryFinish : GoodIn wsX7_digestCells wsX7_tryFinish := goodIn_r _ [9, 4, 2, 10, 11, 12, 13, 14, 15, 16, 17, 18, 19, 20, 21, 22, 23, 24, 25, 26, 27, 28, 29, 30, 31, 32, 33, 34, 35, 36, 37, 38, 39, 40, 41, 42, 43, 44, 45, 46, 47, 48, 49, 50, 51, 52, 53, 54, 55, 56, 57, 58, 59, 60, 61, 62, 63, 64, 65, 66, 67, 68, 69, 70, 71, 72, 73, 74, 75, 76, 77, 78, 79, 80, 81, 82, 83, 84, 85, 86, 87, 88, 89, 90, 91, 92, 93, 94, 95, 96, 97, 98, 99, 100, 101, 102, 103, 104, 105, 106, 107, 108, 109, 110, 111, 112, 113, 114, 115, 116, 117, 118, 119, 120] (by decide +kernel) (by decide +kernel)
set_option maxRecDepth 20000 in
theorem gX7_digestCells_X7_tryFinish : GoodIn wsX7_digestCells (wsV RX7 166 RX7 yX7_tryFinish wsX7_tryFinish) := goodIn_app (goodIn_of _ (by decide +kernel)) ggX7_digestCells_X7_tryFinish
theorem dX7_digestCells_0 : decode cX7_digestCells 0 = .ok (.aload_n 0, 1) := by decide +kernel
theorem dX7_digestCells_1 : decode cX7_digestCells 1 = .ok (.invokevirtual 166, 3) := by decide +kernel
theorem dX7_digestCells_4 : decode cX7_digestCells 4 = .ok (.lload_n 1, 1) := by decide +kernel
theorem dX7_digestCells_5 : decode cX7_digestCells 5 = .ok (.lstore_n 3, 1) := by decide +kernel
theorem dX7_digestCells_6 : decode cX7_digestCells 6 = .ok (.iconst 0, 1) := by decide +kernel
theorem dX7_digestCells_7 : decode cX7_digestCells 7 = .ok (.istore 5, 2) := by decide +kernel
theorem dX7_digestCells_9 : decode cX7_digestCells 9 = .ok (.iload 5, 2) := by decide +kernel
theorem dX7_digestCells_11 : decode cX7_digestCells 11 = .ok (.bipush 48, 2) := by decide +kernel
theorem dX7_digestCells_13 : decode cX7_digestCells 13 = .ok (.if_icmp .ge 45, 3) := by decide +kernel
theorem dX7_digestCells_16 : decode cX7_digestCells 16 = .ok (.ldc2_w 225, 3) := by decide +kernel
theorem dX7_digestCells_19 : decode cX7_digestCells 19 = .ok (.lload_n 3, 1) := by decide +kernel
theorem dX7_digestCells_20 : decode cX7_digestCells 20 = .ok (.lmul, 1) := by decide +kernel
theorem dX7_digestCells_21 : decode cX7_digestCells 21 = .ok (.aload_n 0, 1) := by decide +kernel
theorem dX7_digestCells_22 : decode cX7_digestCells 22 = .ok (.getfield 10, 3) := by decide +kernel
theorem dX7_digestCells_25 : decode cX7_digestCells 25 = .ok (.getfield 101, 3) := by decide +kernel
theorem dX7_digestCells_28 : decode cX7_digestCells 28 = .ok (.iload 5, 2) := by decide +kernel
theorem dX7_digestCells_30 : decode cX7_digestCells 30 = .ok (.iaload, 1) := by decide +kernel
theorem dX7_digestCells_31 : decode cX7_digestCells 31 = .ok (.i2l, 1) := by decide +kernel
theorem dX7_digestCells_32 : decode cX7_digestCells 32 = .ok (.ladd, 1) := by decide +kernel
theorem dX7_digestCells_33 : decode cX7_digestCells 33 = .ok (.lstore_n 3, 1) := by decide +kernel
theorem dX7_digestCells_34 : decode cX7_digestCells 34 = .ok (.ldc2_w 225, 3) := by decide +kernel
theorem dX7_digestCells_37 : decode cX7_digestCells 37 = .ok (.lload_n 3, 1) := by decide +kernel
theorem dX7_digestCells_38 : decode cX7_digestCells 38 = .ok (.lmul, 1) := by decide +kernel
theorem dX7_digestCells_39 : decode cX7_digestCells 39 = .ok (.aload_n 0, 1) := by decide +kernel
theorem dX7_digestCells_40 : decode cX7_digestCells 40 = .ok (.getfield 16, 3) := by decide +kernel
theorem dX7_digestCells_43 : decode cX7_digestCells 43 = .ok (.getfield 101, 3) := by decide +kernel
theorem dX7_digestCells_46 : decode cX7_digestCells 46 = .ok (.iload 5, 2) := by decide +kernel
theorem dX7_digestCells_48 : decode cX7_digestCells 48 = .ok (.iaload, 1) := by decide +kernel
theorem dX7_digestCells_49 : decode cX7_digestCells 49 = .ok (.i2l, 1) := by decide +kernel
theorem dX7_digestCells_50 : decode cX7_digestCells 50 = .ok (.ladd, 1) := by decide +kernel
theorem dX7_digestCells_51 : decode cX7_digestCells 51 = .ok (.lstore_n 3, 1) := by decide +kernel
theorem dX7_digestCells_52 : decode cX7_digestCells 52 = .ok (.iinc 5 1, 3) := by decide +kernel
theorem dX7_digestCells_55 : decode cX7_digestCells 55 = .ok (.goto (-46), 3) := by decide +kernel
theorem dX7_digestCells_58 : decode cX7_digestCells 58 = .ok (.lload_n 3, 1) := by decide +kernel
theorem dX7_digestCells_59 : decode cX7_digestCells 59 = .ok (.lreturn, 1) := by decide +kernel
set_option maxRecDepth 20000 in
theorem ggX7_digestRings_X5_ringPart : GoodIn wsX7_digestRings wsX5_ringPart := goodIn_r _ [8, 9, 10, 11, 12, 13, 14, 15, 16, 7, 17, 18, 19, 20, 21, 22, 23, 24, 25, 26, 27, 28, 29, 30, 31, 32, 33, 34, 39, 40, 41, 42, 43, 44, 45, 46, 47, 48, 49, 50, 51, 52, 53, 54, 55, 56, 57, 58, 59, 60, 61, 62, 63, 64, 65, 66, 67] (by decide +kernel) (by decide +kernel)
set_option maxRecDepth 20000 in
theorem gX7_digestRings_X5_ringPart : GoodIn wsX7_digestRings (wsV RX7 120 RX5 yX5_ringPart wsX5_ringPart) := goodIn_app (goodIn_of _ (by decide +kernel)) ggX7_digestRings_X5_ringPart
theorem dX7_digestRings_0 : decode cX7_digestRings 0 = .ok (.lload_n 1, 1) := by decide +kernel
theorem dX7_digestRings_1 : decode cX7_digestRings 1 = .ok (.lstore_n 3, 1) := by decide +kernel
theorem dX7_digestRings_2 : decode cX7_digestRings 2 = .ok (.iconst 0, 1) := by decide +kernel
theorem dX7_digestRings_3 : decode cX7_digestRings 3 = .ok (.istore 5, 2) := by decide +kernel
theorem dX7_digestRings_5 : decode cX7_digestRings 5 = .ok (.iload 5, 2) := by decide +kernel
theorem dX7_digestRings_7 : decode cX7_digestRings 7 = .ok (.aload_n 0, 1) := by decide +kernel
theorem dX7_digestRings_8 : decode cX7_digestRings 8 = .ok (.getfield 10, 3) := by decide +kernel
theorem dX7_digestRings_11 : decode cX7_digestRings 11 = .ok (.getfield 237, 3) := by decide +kernel
theorem dX7_digestRings_14 : decode cX7_digestRings 14 = .ok (.if_icmp .ge 44, 3) := by decide +kernel
theorem dX7_digestRings_17 : decode cX7_digestRings 17 = .ok (.iconst 0, 1) := by decide +kernel
theorem dX7_digestRings_18 : decode cX7_digestRings 18 = .ok (.istore 6, 2) := by decide +kernel
theorem dX7_digestRings_20 : decode cX7_digestRings 20 = .ok (.iload 6, 2) := by decide +kernel
theorem dX7_digestRings_22 : decode cX7_digestRings 22 = .ok (.bipush 7, 2) := by decide +kernel
theorem dX7_digestRings_24 : decode cX7_digestRings 24 = .ok (.if_icmp .gt 28, 3) := by decide +kernel
theorem dX7_digestRings_27 : decode cX7_digestRings 27 = .ok (.ldc2_w 225, 3) := by decide +kernel
theorem dX7_digestRings_30 : decode cX7_digestRings 30 = .ok (.lload_n 3, 1) := by decide +kernel
theorem dX7_digestRings_31 : decode cX7_digestRings 31 = .ok (.lmul, 1) := by decide +kernel
theorem dX7_digestRings_32 : decode cX7_digestRings 32 = .ok (.aload_n 0, 1) := by decide +kernel
theorem dX7_digestRings_33 : decode cX7_digestRings 33 = .ok (.getfield 10, 3) := by decide +kernel
theorem dX7_digestRings_36 : decode cX7_digestRings 36 = .ok (.iload 5, 2) := by decide +kernel
theorem dX7_digestRings_38 : decode cX7_digestRings 38 = .ok (.iload 6, 2) := by decide +kernel
theorem dX7_digestRings_40 : decode cX7_digestRings 40 = .ok (.invokevirtual 120, 3) := by decide +kernel
theorem dX7_digestRings_43 : decode cX7_digestRings 43 = .ok (.i2l, 1) := by decide +kernel
theorem dX7_digestRings_44 : decode cX7_digestRings 44 = .ok (.ladd, 1) := by decide +kernel
theorem dX7_digestRings_45 : decode cX7_digestRings 45 = .ok (.lstore_n 3, 1) := by decide +kernel
theorem dX7_digestRings_46 : decode cX7_digestRings 46 = .ok (.iinc 6 1, 3) := by decide +kernel
theorem dX7_digestRings_49 : decode cX7_digestRings 49 = .ok (.goto (-29), 3) := by decide +kernel
theorem dX7_digestRings_52 : decode cX7_digestRings 52 = .ok (.iinc 5 1, 3) := by decide +kernel
theorem dX7_digestRings_55 : decode cX7_digestRings 55 = .ok (.goto (-50), 3) := by decide +kernel
theorem dX7_digestRings_58 : decode cX7_digestRings 58 = .ok (.lload_n 3, 1) := by decide +kernel
theorem dX7_digestRings_59 : decode cX7_digestRings 59 = .ok (.lreturn, 1) := by decide +kernel
set_option maxRecDepth 20000 in
theorem ggX7_digestMoves_X3_part : GoodIn wsX7_digestMoves wsX3_part := goodIn_r _ [9, 10, 11, 12, 13, 14, 15, 16, 17, 18, 19, 69, 70, 71, 72, 73, 74, 75, 76, 77, 78, 79, 80, 81] (by decide +kernel) (by decide +kernel)
set_option maxRecDepth 20000 in
theorem gX7_digestMoves_X3_part : GoodIn wsX7_digestMoves (wsV RX7 130 RX3 yX3_part wsX3_part) := goodIn_app (goodIn_of _ (by decide +kernel)) ggX7_digestMoves_X3_part
set_option maxRecDepth 20000 in
theorem ggX7_digestMoves_X3_countHostages : GoodIn wsX7_digestMoves wsX3_countHostages := goodIn_r _ [23, 15, 14, 16, 69, 70, 71, 72, 73, 74, 75, 76, 77, 78, 79, 80, 81] (by decide +kernel) (by decide +kernel)
set_option maxRecDepth 20000 in
theorem gX7_digestMoves_X3_countHostages : GoodIn wsX7_digestMoves (wsV RX7 243 RX3 yX3_countHostages wsX3_countHostages) := goodIn_app (goodIn_of _ (by decide +kernel)) ggX7_digestMoves_X3_countHostages
set_option maxRecDepth 20000 in
theorem ggX7_digestMoves_X3_hostageAt : GoodIn wsX7_digestMoves wsX3_hostageAt := goodIn_r _ [27, 28, 16, 29, 21, 22, 8, 23, 15, 14, 69, 70, 71, 72, 73, 74, 75, 76, 77, 78, 79, 80, 81] (by decide +kernel) (by decide +kernel)
set_option maxRecDepth 20000 in
theorem gX7_digestMoves_X3_hostageAt : GoodIn wsX7_digestMoves (wsV RX7 140 RX3 yX3_hostageAt wsX3_hostageAt) := goodIn_app (goodIn_of _ (by decide +kernel)) ggX7_digestMoves_X3_hostageAt
set_option maxRecDepth 20000 in
theorem ggX7_digestMoves_X5_waitedFor : GoodIn wsX7_digestMoves wsX5_waitedFor := goodIn_r _ [34, 35, 36, 37, 38, 39, 8, 40, 15, 41, 42, 57, 58, 59, 60, 61, 62, 63, 64, 65, 66, 67, 68, 69, 70, 71, 72, 73, 74, 75, 76, 77, 78, 79, 80, 81] (by decide +kernel) (by decide +kernel)
set_option maxRecDepth 20000 in
theorem gX7_digestMoves_X5_waitedFor : GoodIn wsX7_digestMoves (wsV RX7 160 RX5 yX5_waitedFor wsX5_waitedFor) := goodIn_app (goodIn_of _ (by decide +kernel)) ggX7_digestMoves_X5_waitedFor
set_option maxRecDepth 20000 in
theorem ggX7_digestMoves_X5_depthOf : GoodIn wsX7_digestMoves wsX5_depthOf := goodIn_r _ [46, 47, 48, 49, 50, 51, 52, 31, 32, 33, 34, 35, 36, 37, 38, 39, 8, 40, 15, 41, 42, 57, 58, 59, 60, 61, 62, 63, 64, 65, 66, 67, 68, 69, 70, 71, 72, 73, 74, 75, 76, 77, 78, 79, 80, 81] (by decide +kernel) (by decide +kernel)
set_option maxRecDepth 20000 in
theorem gX7_digestMoves_X5_depthOf : GoodIn wsX7_digestMoves (wsV RX7 163 RX5 yX5_depthOf wsX5_depthOf) := goodIn_app (goodIn_of _ (by decide +kernel)) ggX7_digestMoves_X5_depthOf
theorem dX7_digestMoves_0 : decode cX7_digestMoves 0 = .ok (.lload_n 1, 1) := by decide +kernel
theorem dX7_digestMoves_1 : decode cX7_digestMoves 1 = .ok (.lstore_n 3, 1) := by decide +kernel
theorem dX7_digestMoves_2 : decode cX7_digestMoves 2 = .ok (.iconst 0, 1) := by decide +kernel
theorem dX7_digestMoves_3 : decode cX7_digestMoves 3 = .ok (.istore 5, 2) := by decide +kernel
theorem dX7_digestMoves_5 : decode cX7_digestMoves 5 = .ok (.iload 5, 2) := by decide +kernel
theorem dX7_digestMoves_7 : decode cX7_digestMoves 7 = .ok (.aload_n 0, 1) := by decide +kernel
theorem dX7_digestMoves_8 : decode cX7_digestMoves 8 = .ok (.getfield 10, 3) := by decide +kernel
theorem dX7_digestMoves_11 : decode cX7_digestMoves 11 = .ok (.getfield 240, 3) := by decide +kernel
theorem dX7_digestMoves_14 : decode cX7_digestMoves 14 = .ok (.if_icmp .ge 124, 3) := by decide +kernel
theorem dX7_digestMoves_17 : decode cX7_digestMoves 17 = .ok (.aload_n 0, 1) := by decide +kernel
theorem dX7_digestMoves_18 : decode cX7_digestMoves 18 = .ok (.getfield 10, 3) := by decide +kernel
theorem dX7_digestMoves_21 : decode cX7_digestMoves 21 = .ok (.getfield 126, 3) := by decide +kernel
theorem dX7_digestMoves_24 : decode cX7_digestMoves 24 = .ok (.iload 5, 2) := by decide +kernel
theorem dX7_digestMoves_26 : decode cX7_digestMoves 26 = .ok (.aaload, 1) := by decide +kernel
theorem dX7_digestMoves_27 : decode cX7_digestMoves 27 = .ok (.astore 6, 2) := by decide +kernel
theorem dX7_digestMoves_29 : decode cX7_digestMoves 29 = .ok (.iconst 0, 1) := by decide +kernel
theorem dX7_digestMoves_30 : decode cX7_digestMoves 30 = .ok (.istore 7, 2) := by decide +kernel
theorem dX7_digestMoves_32 : decode cX7_digestMoves 32 = .ok (.iload 7, 2) := by decide +kernel
theorem dX7_digestMoves_34 : decode cX7_digestMoves 34 = .ok (.bipush 9, 2) := by decide +kernel
theorem dX7_digestMoves_36 : decode cX7_digestMoves 36 = .ok (.if_icmp .gt 24, 3) := by decide +kernel
theorem dX7_digestMoves_39 : decode cX7_digestMoves 39 = .ok (.ldc2_w 225, 3) := by decide +kernel
theorem dX7_digestMoves_42 : decode cX7_digestMoves 42 = .ok (.lload_n 3, 1) := by decide +kernel
theorem dX7_digestMoves_43 : decode cX7_digestMoves 43 = .ok (.lmul, 1) := by decide +kernel
theorem dX7_digestMoves_44 : decode cX7_digestMoves 44 = .ok (.aload 6, 2) := by decide +kernel
theorem dX7_digestMoves_46 : decode cX7_digestMoves 46 = .ok (.iload 7, 2) := by decide +kernel
theorem dX7_digestMoves_48 : decode cX7_digestMoves 48 = .ok (.invokevirtual 130, 3) := by decide +kernel
theorem dX7_digestMoves_51 : decode cX7_digestMoves 51 = .ok (.i2l, 1) := by decide +kernel
theorem dX7_digestMoves_52 : decode cX7_digestMoves 52 = .ok (.ladd, 1) := by decide +kernel
theorem dX7_digestMoves_53 : decode cX7_digestMoves 53 = .ok (.lstore_n 3, 1) := by decide +kernel
theorem dX7_digestMoves_54 : decode cX7_digestMoves 54 = .ok (.iinc 7 1, 3) := by decide +kernel
theorem dX7_digestMoves_57 : decode cX7_digestMoves 57 = .ok (.goto (-25), 3) := by decide +kernel
theorem dX7_digestMoves_60 : decode cX7_digestMoves 60 = .ok (.aload 6, 2) := by decide +kernel
theorem dX7_digestMoves_62 : decode cX7_digestMoves 62 = .ok (.invokevirtual 243, 3) := by decide +kernel
theorem dX7_digestMoves_65 : decode cX7_digestMoves 65 = .ok (.istore 7, 2) := by decide +kernel
theorem dX7_digestMoves_67 : decode cX7_digestMoves 67 = .ok (.iconst 0, 1) := by decide +kernel
theorem dX7_digestMoves_68 : decode cX7_digestMoves 68 = .ok (.istore 8, 2) := by decide +kernel
theorem dX7_digestMoves_70 : decode cX7_digestMoves 70 = .ok (.iload 8, 2) := by decide +kernel
theorem dX7_digestMoves_72 : decode cX7_digestMoves 72 = .ok (.iload 7, 2) := by decide +kernel
theorem dX7_digestMoves_74 : decode cX7_digestMoves 74 = .ok (.if_icmp .ge 24, 3) := by decide +kernel
theorem dX7_digestMoves_77 : decode cX7_digestMoves 77 = .ok (.ldc2_w 225, 3) := by decide +kernel
theorem dX7_digestMoves_80 : decode cX7_digestMoves 80 = .ok (.lload_n 3, 1) := by decide +kernel
theorem dX7_digestMoves_81 : decode cX7_digestMoves 81 = .ok (.lmul, 1) := by decide +kernel
theorem dX7_digestMoves_82 : decode cX7_digestMoves 82 = .ok (.aload 6, 2) := by decide +kernel
theorem dX7_digestMoves_84 : decode cX7_digestMoves 84 = .ok (.iload 8, 2) := by decide +kernel
theorem dX7_digestMoves_86 : decode cX7_digestMoves 86 = .ok (.invokevirtual 140, 3) := by decide +kernel
theorem dX7_digestMoves_89 : decode cX7_digestMoves 89 = .ok (.i2l, 1) := by decide +kernel
theorem dX7_digestMoves_90 : decode cX7_digestMoves 90 = .ok (.ladd, 1) := by decide +kernel
theorem dX7_digestMoves_91 : decode cX7_digestMoves 91 = .ok (.lstore_n 3, 1) := by decide +kernel
theorem dX7_digestMoves_92 : decode cX7_digestMoves 92 = .ok (.iinc 8 1, 3) := by decide +kernel
theorem dX7_digestMoves_95 : decode cX7_digestMoves 95 = .ok (.goto (-25), 3) := by decide +kernel
theorem dX7_digestMoves_98 : decode cX7_digestMoves 98 = .ok (.ldc2_w 225, 3) := by decide +kernel
theorem dX7_digestMoves_101 : decode cX7_digestMoves 101 = .ok (.lload_n 3, 1) := by decide +kernel
theorem dX7_digestMoves_102 : decode cX7_digestMoves 102 = .ok (.lmul, 1) := by decide +kernel
theorem dX7_digestMoves_103 : decode cX7_digestMoves 103 = .ok (.aload_n 0, 1) := by decide +kernel
theorem dX7_digestMoves_104 : decode cX7_digestMoves 104 = .ok (.getfield 10, 3) := by decide +kernel
theorem dX7_digestMoves_107 : decode cX7_digestMoves 107 = .ok (.iload 5, 2) := by decide +kernel
theorem dX7_digestMoves_109 : decode cX7_digestMoves 109 = .ok (.invokevirtual 160, 3) := by decide +kernel
theorem dX7_digestMoves_112 : decode cX7_digestMoves 112 = .ok (.i2l, 1) := by decide +kernel
theorem dX7_digestMoves_113 : decode cX7_digestMoves 113 = .ok (.ladd, 1) := by decide +kernel
theorem dX7_digestMoves_114 : decode cX7_digestMoves 114 = .ok (.lstore_n 3, 1) := by decide +kernel
theorem dX7_digestMoves_115 : decode cX7_digestMoves 115 = .ok (.ldc2_w 225, 3) := by decide +kernel
theorem dX7_digestMoves_118 : decode cX7_digestMoves 118 = .ok (.lload_n 3, 1) := by decide +kernel
theorem dX7_digestMoves_119 : decode cX7_digestMoves 119 = .ok (.lmul, 1) := by decide +kernel
theorem dX7_digestMoves_120 : decode cX7_digestMoves 120 = .ok (.aload_n 0, 1) := by decide +kernel
theorem dX7_digestMoves_121 : decode cX7_digestMoves 121 = .ok (.getfield 10, 3) := by decide +kernel
theorem dX7_digestMoves_124 : decode cX7_digestMoves 124 = .ok (.iload 5, 2) := by decide +kernel
theorem dX7_digestMoves_126 : decode cX7_digestMoves 126 = .ok (.invokevirtual 163, 3) := by decide +kernel
theorem dX7_digestMoves_129 : decode cX7_digestMoves 129 = .ok (.i2l, 1) := by decide +kernel
theorem dX7_digestMoves_130 : decode cX7_digestMoves 130 = .ok (.ladd, 1) := by decide +kernel
theorem dX7_digestMoves_131 : decode cX7_digestMoves 131 = .ok (.lstore_n 3, 1) := by decide +kernel
theorem dX7_digestMoves_132 : decode cX7_digestMoves 132 = .ok (.iinc 5 1, 3) := by decide +kernel
theorem dX7_digestMoves_135 : decode cX7_digestMoves 135 = .ok (.goto (-130), 3) := by decide +kernel
theorem dX7_digestMoves_138 : decode cX7_digestMoves 138 = .ok (.lload_n 3, 1) := by decide +kernel
theorem dX7_digestMoves_139 : decode cX7_digestMoves 139 = .ok (.lreturn, 1) := by decide +kernel
set_option maxRecDepth 20000 in
theorem ggX7_wholePart_X5_wholePart : GoodIn wsX7_wholePart wsX5_wholePart := goodIn_r _ [8, 9, 10, 11, 12, 13, 14, 15, 16, 17, 18, 19, 7, 20, 21, 22, 23, 24, 25, 26, 27, 28, 29, 30, 31, 32, 33, 34, 35, 36, 37, 38, 39, 40, 41, 42, 43, 44, 45, 56, 57, 58, 59, 60, 61, 62, 63, 64, 65, 66, 67, 68, 69, 70, 71, 72, 73, 74, 75, 76, 77, 78, 79, 80] (by decide +kernel) (by decide +kernel)
set_option maxRecDepth 20000 in
theorem gX7_wholePart_X5_wholePart : GoodIn wsX7_wholePart (wsV RX7 246 RX5 yX5_wholePart wsX5_wholePart) := goodIn_app (goodIn_of _ (by decide +kernel)) ggX7_wholePart_X5_wholePart
theorem dX7_wholePart_0 : decode cX7_wholePart 0 = .ok (.iload_n 1, 1) := by decide +kernel
theorem dX7_wholePart_1 : decode cX7_wholePart 1 = .ok (.bipush 14, 2) := by decide +kernel
theorem dX7_wholePart_3 : decode cX7_wholePart 3 = .ok (.if_icmp .ne 13, 3) := by decide +kernel
theorem dX7_wholePart_6 : decode cX7_wholePart 6 = .ok (.aload_n 0, 1) := by decide +kernel
theorem dX7_wholePart_7 : decode cX7_wholePart 7 = .ok (.getfield 29, 3) := by decide +kernel
theorem dX7_wholePart_10 : decode cX7_wholePart 10 = .ok (.getfield 182, 3) := by decide +kernel
theorem dX7_wholePart_13 : decode cX7_wholePart 13 = .ok (.goto 11, 3) := by decide +kernel
theorem dX7_wholePart_16 : decode cX7_wholePart 16 = .ok (.aload_n 0, 1) := by decide +kernel
theorem dX7_wholePart_17 : decode cX7_wholePart 17 = .ok (.getfield 10, 3) := by decide +kernel
theorem dX7_wholePart_20 : decode cX7_wholePart 20 = .ok (.iload_n 1, 1) := by decide +kernel
theorem dX7_wholePart_21 : decode cX7_wholePart 21 = .ok (.invokevirtual 246, 3) := by decide +kernel
theorem dX7_wholePart_24 : decode cX7_wholePart 24 = .ok (.ireturn, 1) := by decide +kernel
set_option maxRecDepth 20000 in
theorem ggX7_tryFinish_X5_copyFrom : GoodIn wsX7_tryFinish wsX5_copyFrom := goodIn_r _ [7, 8, 9, 10, 11, 12, 13, 14, 15, 16, 17, 18, 19, 20, 21, 22, 23, 24, 25, 26, 27, 28, 29, 30, 31, 32, 33, 34, 35, 36, 37, 38, 39, 40, 41, 42, 43, 44, 45, 46, 47, 48, 49, 50, 85, 86, 87, 88, 89, 90, 91, 92, 93, 94, 95, 96, 97, 98, 99, 100, 101, 102, 103, 104, 105, 106, 107, 108, 109, 110, 111, 112, 113] (by decide +kernel) (by decide +kernel)
set_option maxRecDepth 20000 in
theorem gX7_tryFinish_X5_copyFrom : GoodIn wsX7_tryFinish (wsV RX7 173 RX5 yX5_copyFrom wsX5_copyFrom) := goodIn_app (goodIn_of _ (by decide +kernel)) ggX7_tryFinish_X5_copyFrom
set_option maxRecDepth 20000 in
theorem ggX7_tryFinish_X5_finishMoves : GoodIn wsX7_tryFinish wsX5_finishMoves := goodIn_r _ [54, 15, 16, 55, 56, 57, 58, 59, 6, 60, 14, 61, 62, 8, 63, 19, 64, 65, 66, 67, 26, 68, 29, 28, 69, 70, 71, 72, 73, 74, 75, 76, 77, 78, 79, 80, 20, 85, 86, 87, 88, 89, 90, 91, 92, 93, 94, 95, 96, 101, 102, 103, 104, 105, 106, 107, 108, 109, 110, 111, 112, 113, 97, 98, 99, 100] (by decide +kernel) (by decide +kernel)
set_option maxRecDepth 20000 in
theorem gX7_tryFinish_X5_finishMoves : GoodIn wsX7_tryFinish (wsV RX7 247 RX5 yX5_finishMoves wsX5_finishMoves) := goodIn_app (goodIn_of _ (by decide +kernel)) ggX7_tryFinish_X5_finishMoves
theorem dX7_tryFinish_0 : decode cX7_tryFinish 0 = .ok (.aload_n 0, 1) := by decide +kernel
theorem dX7_tryFinish_1 : decode cX7_tryFinish 1 = .ok (.getfield 16, 3) := by decide +kernel
theorem dX7_tryFinish_4 : decode cX7_tryFinish 4 = .ok (.aload_n 0, 1) := by decide +kernel
theorem dX7_tryFinish_5 : decode cX7_tryFinish 5 = .ok (.getfield 10, 3) := by decide +kernel
theorem dX7_tryFinish_8 : decode cX7_tryFinish 8 = .ok (.invokevirtual 173, 3) := by decide +kernel
theorem dX7_tryFinish_11 : decode cX7_tryFinish 11 = .ok (.aload_n 0, 1) := by decide +kernel
theorem dX7_tryFinish_12 : decode cX7_tryFinish 12 = .ok (.getfield 16, 3) := by decide +kernel
theorem dX7_tryFinish_15 : decode cX7_tryFinish 15 = .ok (.invokevirtual 247, 3) := by decide +kernel
theorem dX7_tryFinish_18 : decode cX7_tryFinish 18 = .ok (.return_, 1) := by decide +kernel
set_option maxRecDepth 20000 in
theorem ggX7_carryOut_X7_commandRefusal : GoodIn wsX7_carryOut wsX7_commandRefusal := goodIn_r _ [7, 1, 2, 8, 9, 10, 11, 12, 13, 14, 15, 16, 17, 18, 19, 20, 21, 6, 22, 23, 24, 25, 26, 27, 28, 29, 30, 31, 32, 33, 34, 35, 36, 37, 38, 39, 40, 41, 42, 43, 44, 45, 46, 47, 48, 49, 50, 51, 52, 53, 54, 55, 56, 57, 58, 59, 60, 61, 62, 63, 64, 65, 66, 67, 68, 69, 70, 71, 72, 73, 74, 75, 76, 77, 78, 79, 80, 81, 82, 83, 84, 85, 86, 87, 88, 89, 90, 91, 92, 186, 187, 188, 189, 190, 191, 192, 193, 194, 195, 196, 197, 198, 199, 200, 201, 202, 203, 204, 205, 206, 207, 208, 209, 210, 211, 212, 213, 214, 215, 216, 217, 218] (by decide +kernel) (by decide +kernel)
set_option maxRecDepth 20000 in
theorem gX7_carryOut_X7_commandRefusal : GoodIn wsX7_carryOut (wsV RX7 250 RX7 yX7_commandRefusal wsX7_commandRefusal) := goodIn_app (goodIn_of _ (by decide +kernel)) ggX7_carryOut_X7_commandRefusal
set_option maxRecDepth 20000 in
theorem ggX7_carryOut_Jx29ce0_ordinal_8abf5 : GoodIn wsX7_carryOut wsJx29ce0_ordinal_8abf5 := goodIn_r _ [13, 14] (by decide +kernel) (by decide +kernel)
set_option maxRecDepth 20000 in
theorem gX7_carryOut_Jx29ce0_ordinal_8abf5_u259X6 : GoodIn wsX7_carryOut (va_wsU RX7 259 RX6 "java/lang/Enum" ⟨"HostageRings$Word", "ordinal", "()I"⟩ yJx29ce0_ordinal_8abf5 wsJx29ce0_ordinal_8abf5) := goodIn_app (goodIn_of _ (by decide +kernel)) ggX7_carryOut_Jx29ce0_ordinal_8abf5
set_option maxRecDepth 20000 in
theorem ggX7_carryOut_X5_putRing : GoodIn wsX7_carryOut wsX5_putRing := goodIn_r _ [96, 30, 20, 31, 32, 97, 50, 190, 191, 192, 193, 194, 195, 196, 197, 198, 199, 200, 201, 202, 203, 204, 205] (by decide +kernel) (by decide +kernel)
set_option maxRecDepth 20000 in
theorem gX7_carryOut_X5_putRing : GoodIn wsX7_carryOut (wsV RX7 45 RX5 yX5_putRing wsX5_putRing) := goodIn_app (goodIn_of _ (by decide +kernel)) ggX7_carryOut_X5_putRing
set_option maxRecDepth 20000 in
theorem ggX7_carryOut_X5_putMove : GoodIn wsX7_carryOut wsX5_putMove := goodIn_r _ [101, 55, 41, 102, 103, 60, 104, 105, 30, 73, 74, 59, 106, 107, 108, 109, 110, 111, 112, 113, 114, 115, 116, 117, 118, 119, 120, 190, 191, 192, 193, 194, 195, 196, 197, 198, 199, 200, 201, 206, 207, 208, 209, 210, 211, 212, 213, 214, 215, 216, 217, 218, 202, 203, 204, 205] (by decide +kernel) (by decide +kernel)
set_option maxRecDepth 20000 in
theorem gX7_carryOut_X5_putMove : GoodIn wsX7_carryOut (wsV RX7 71 RX5 yX5_putMove wsX5_putMove) := goodIn_app (goodIn_of _ (by decide +kernel)) ggX7_carryOut_X5_putMove
set_option maxRecDepth 20000 in
theorem ggX7_carryOut_X5_signFirst : GoodIn wsX7_carryOut wsX5_signFirst := goodIn_r _ [124, 41, 55, 56, 57, 18, 58, 59, 60, 125, 126, 127, 128, 92, 109, 129, 190, 191, 192, 193, 194, 195, 196, 197, 198, 199, 200, 201, 206, 207, 208, 209, 210, 211, 212, 213, 214, 215, 216, 217, 218] (by decide +kernel) (by decide +kernel)
set_option maxRecDepth 20000 in
theorem gX7_carryOut_X5_signFirst : GoodIn wsX7_carryOut (wsV RX7 78 RX5 yX5_signFirst wsX5_signFirst) := goodIn_app (goodIn_of _ (by decide +kernel)) ggX7_carryOut_X5_signFirst
set_option maxRecDepth 20000 in
theorem ggX7_carryOut_X5_putStrike : GoodIn wsX7_carryOut wsX5_putStrike := goodIn_r _ [133, 30, 50, 51, 52, 53, 18, 54, 41, 55, 56, 57, 58, 59, 60, 190, 191, 192, 193, 194, 195, 196, 197, 198, 199, 200, 201, 202, 203, 204, 205, 206, 207, 208, 209, 210, 211, 212, 213, 214, 215, 216, 217, 218] (by decide +kernel) (by decide +kernel)
set_option maxRecDepth 20000 in
theorem gX7_carryOut_X5_putStrike : GoodIn wsX7_carryOut (wsV RX7 85 RX5 yX5_putStrike wsX5_putStrike) := goodIn_app (goodIn_of _ (by decide +kernel)) ggX7_carryOut_X5_putStrike
set_option maxRecDepth 20000 in
theorem ggX7_carryOut_X5_putValue : GoodIn wsX7_carryOut wsX5_putValue := goodIn_r _ [137, 138, 190, 191, 192, 193, 194, 195, 196, 197, 198, 199, 200, 201] (by decide +kernel) (by decide +kernel)
set_option maxRecDepth 20000 in
theorem gX7_carryOut_X5_putValue : GoodIn wsX7_carryOut (wsV RX7 64 RX5 yX5_putValue wsX5_putValue) := goodIn_app (goodIn_of _ (by decide +kernel)) ggX7_carryOut_X5_putValue
set_option maxRecDepth 20000 in
theorem ggX7_carryOut_X5_putSetting : GoodIn wsX7_carryOut wsX5_putSetting := goodIn_r _ [142, 143, 144, 190, 191, 192, 193, 194, 195, 196, 197, 198, 199, 200, 201] (by decide +kernel) (by decide +kernel)
set_option maxRecDepth 20000 in
theorem gX7_carryOut_X5_putSetting : GoodIn wsX7_carryOut (wsV RX7 58 RX5 yX5_putSetting wsX5_putSetting) := goodIn_app (goodIn_of _ (by decide +kernel)) ggX7_carryOut_X5_putSetting
set_option maxRecDepth 20000 in
theorem ggX7_carryOut_X5_letPass : GoodIn wsX7_carryOut wsX5_letPass := goodIn_r _ [148, 149, 150, 151, 152, 18, 153, 20, 30, 50, 97, 41, 55, 143, 92, 154, 155, 156, 157, 108, 56, 57, 58, 59, 60, 125, 126, 127, 128, 109, 129, 158, 159, 160, 161, 144, 162, 163, 164, 165, 166, 167, 168, 169, 170, 171, 172, 82, 173, 84, 174, 175, 176, 177, 178, 179, 102, 105, 180, 138, 103, 107, 181, 116, 117, 113, 118, 119, 120, 182, 183, 184, 185, 106, 37, 38, 39, 40, 104, 190, 191, 192, 193, 194, 195, 196, 197, 198, 199, 200, 201, 202, 203, 204, 205, 206, 207, 208, 209, 210, 211, 212, 213, 214, 215, 216, 217, 218] (by decide +kernel) (by decide +kernel)
set_option maxRecDepth 20000 in
theorem gX7_carryOut_X5_letPass : GoodIn wsX7_carryOut (wsV RX7 91 RX5 yX5_letPass wsX5_letPass) := goodIn_app (goodIn_of _ (by decide +kernel)) ggX7_carryOut_X5_letPass
theorem dX7_carryOut_0 : decode cX7_carryOut 0 = .ok (.aload_n 0, 1) := by decide +kernel
theorem dX7_carryOut_1 : decode cX7_carryOut 1 = .ok (.aload_n 1, 1) := by decide +kernel
theorem dX7_carryOut_2 : decode cX7_carryOut 2 = .ok (.aload_n 2, 1) := by decide +kernel
theorem dX7_carryOut_3 : decode cX7_carryOut 3 = .ok (.invokevirtual 250, 3) := by decide +kernel
theorem dX7_carryOut_6 : decode cX7_carryOut 6 = .ok (.ifCond .eq 5, 3) := by decide +kernel
theorem dX7_carryOut_9 : decode cX7_carryOut 9 = .ok (.iconst 0, 1) := by decide +kernel
theorem dX7_carryOut_10 : decode cX7_carryOut 10 = .ok (.ireturn, 1) := by decide +kernel
theorem dX7_carryOut_11 : decode cX7_carryOut 11 = .ok (.getstatic 254, 3) := by decide +kernel
theorem dX7_carryOut_14 : decode cX7_carryOut 14 = .ok (.aload_n 1, 1) := by decide +kernel
theorem dX7_carryOut_15 : decode cX7_carryOut 15 = .ok (.invokevirtual 259, 3) := by decide +kernel
theorem dX7_carryOut_18 : decode cX7_carryOut 18 = .ok (.iaload, 1) := by decide +kernel
theorem dX7_carryOut_19 : decode cX7_carryOut 19 = .ok (.tableswitch 180 1 8 #[45, 65, 91, 105, 120, 135, 152, 169], 45) := by decide +kernel
theorem dX7_carryOut_64 : decode cX7_carryOut 64 = .ok (.aload_n 0, 1) := by decide +kernel
theorem dX7_carryOut_65 : decode cX7_carryOut 65 = .ok (.getfield 10, 3) := by decide +kernel
theorem dX7_carryOut_68 : decode cX7_carryOut 68 = .ok (.aload_n 2, 1) := by decide +kernel
theorem dX7_carryOut_69 : decode cX7_carryOut 69 = .ok (.iconst 0, 1) := by decide +kernel
theorem dX7_carryOut_70 : decode cX7_carryOut 70 = .ok (.iaload, 1) := by decide +kernel
theorem dX7_carryOut_71 : decode cX7_carryOut 71 = .ok (.aload_n 2, 1) := by decide +kernel
theorem dX7_carryOut_72 : decode cX7_carryOut 72 = .ok (.iconst 1, 1) := by decide +kernel
theorem dX7_carryOut_73 : decode cX7_carryOut 73 = .ok (.iaload, 1) := by decide +kernel
theorem dX7_carryOut_74 : decode cX7_carryOut 74 = .ok (.aload_n 2, 1) := by decide +kernel
theorem dX7_carryOut_75 : decode cX7_carryOut 75 = .ok (.iconst 2, 1) := by decide +kernel
theorem dX7_carryOut_76 : decode cX7_carryOut 76 = .ok (.iaload, 1) := by decide +kernel
theorem dX7_carryOut_77 : decode cX7_carryOut 77 = .ok (.invokevirtual 45, 3) := by decide +kernel
theorem dX7_carryOut_80 : decode cX7_carryOut 80 = .ok (.pop, 1) := by decide +kernel
theorem dX7_carryOut_81 : decode cX7_carryOut 81 = .ok (.goto 118, 3) := by decide +kernel
theorem dX7_carryOut_84 : decode cX7_carryOut 84 = .ok (.aload_n 0, 1) := by decide +kernel
theorem dX7_carryOut_85 : decode cX7_carryOut 85 = .ok (.getfield 10, 3) := by decide +kernel
theorem dX7_carryOut_88 : decode cX7_carryOut 88 = .ok (.aload_n 2, 1) := by decide +kernel
theorem dX7_carryOut_89 : decode cX7_carryOut 89 = .ok (.iconst 0, 1) := by decide +kernel
theorem dX7_carryOut_90 : decode cX7_carryOut 90 = .ok (.iaload, 1) := by decide +kernel
theorem dX7_carryOut_91 : decode cX7_carryOut 91 = .ok (.aload_n 2, 1) := by decide +kernel
theorem dX7_carryOut_92 : decode cX7_carryOut 92 = .ok (.iconst 1, 1) := by decide +kernel
theorem dX7_carryOut_93 : decode cX7_carryOut 93 = .ok (.iaload, 1) := by decide +kernel
theorem dX7_carryOut_94 : decode cX7_carryOut 94 = .ok (.aload_n 2, 1) := by decide +kernel
theorem dX7_carryOut_95 : decode cX7_carryOut 95 = .ok (.iconst 2, 1) := by decide +kernel
theorem dX7_carryOut_96 : decode cX7_carryOut 96 = .ok (.iaload, 1) := by decide +kernel
theorem dX7_carryOut_97 : decode cX7_carryOut 97 = .ok (.aload_n 2, 1) := by decide +kernel
theorem dX7_carryOut_98 : decode cX7_carryOut 98 = .ok (.iconst 3, 1) := by decide +kernel
theorem dX7_carryOut_99 : decode cX7_carryOut 99 = .ok (.iaload, 1) := by decide +kernel
theorem dX7_carryOut_100 : decode cX7_carryOut 100 = .ok (.aload_n 2, 1) := by decide +kernel
theorem dX7_carryOut_101 : decode cX7_carryOut 101 = .ok (.iconst 4, 1) := by decide +kernel
theorem dX7_carryOut_102 : decode cX7_carryOut 102 = .ok (.iaload, 1) := by decide +kernel
theorem dX7_carryOut_103 : decode cX7_carryOut 103 = .ok (.invokevirtual 71, 3) := by decide +kernel
theorem dX7_carryOut_106 : decode cX7_carryOut 106 = .ok (.pop, 1) := by decide +kernel
theorem dX7_carryOut_107 : decode cX7_carryOut 107 = .ok (.goto 92, 3) := by decide +kernel
theorem dX7_carryOut_110 : decode cX7_carryOut 110 = .ok (.aload_n 0, 1) := by decide +kernel
theorem dX7_carryOut_111 : decode cX7_carryOut 111 = .ok (.getfield 10, 3) := by decide +kernel
theorem dX7_carryOut_114 : decode cX7_carryOut 114 = .ok (.aload_n 2, 1) := by decide +kernel
theorem dX7_carryOut_115 : decode cX7_carryOut 115 = .ok (.iconst 0, 1) := by decide +kernel
theorem dX7_carryOut_116 : decode cX7_carryOut 116 = .ok (.iaload, 1) := by decide +kernel
theorem dX7_carryOut_117 : decode cX7_carryOut 117 = .ok (.invokevirtual 78, 3) := by decide +kernel
theorem dX7_carryOut_120 : decode cX7_carryOut 120 = .ok (.pop, 1) := by decide +kernel
theorem dX7_carryOut_121 : decode cX7_carryOut 121 = .ok (.goto 78, 3) := by decide +kernel
theorem dX7_carryOut_124 : decode cX7_carryOut 124 = .ok (.aload_n 0, 1) := by decide +kernel
theorem dX7_carryOut_125 : decode cX7_carryOut 125 = .ok (.getfield 10, 3) := by decide +kernel
theorem dX7_carryOut_128 : decode cX7_carryOut 128 = .ok (.aload_n 2, 1) := by decide +kernel
theorem dX7_carryOut_129 : decode cX7_carryOut 129 = .ok (.iconst 0, 1) := by decide +kernel
theorem dX7_carryOut_130 : decode cX7_carryOut 130 = .ok (.iaload, 1) := by decide +kernel
theorem dX7_carryOut_131 : decode cX7_carryOut 131 = .ok (.iconst 1, 1) := by decide +kernel
theorem dX7_carryOut_132 : decode cX7_carryOut 132 = .ok (.invokevirtual 85, 3) := by decide +kernel
theorem dX7_carryOut_135 : decode cX7_carryOut 135 = .ok (.pop, 1) := by decide +kernel
theorem dX7_carryOut_136 : decode cX7_carryOut 136 = .ok (.goto 63, 3) := by decide +kernel
theorem dX7_carryOut_139 : decode cX7_carryOut 139 = .ok (.aload_n 0, 1) := by decide +kernel
theorem dX7_carryOut_140 : decode cX7_carryOut 140 = .ok (.getfield 10, 3) := by decide +kernel
theorem dX7_carryOut_143 : decode cX7_carryOut 143 = .ok (.aload_n 2, 1) := by decide +kernel
theorem dX7_carryOut_144 : decode cX7_carryOut 144 = .ok (.iconst 0, 1) := by decide +kernel
theorem dX7_carryOut_145 : decode cX7_carryOut 145 = .ok (.iaload, 1) := by decide +kernel
theorem dX7_carryOut_146 : decode cX7_carryOut 146 = .ok (.iconst 0, 1) := by decide +kernel
theorem dX7_carryOut_147 : decode cX7_carryOut 147 = .ok (.invokevirtual 85, 3) := by decide +kernel
theorem dX7_carryOut_150 : decode cX7_carryOut 150 = .ok (.pop, 1) := by decide +kernel
theorem dX7_carryOut_151 : decode cX7_carryOut 151 = .ok (.goto 48, 3) := by decide +kernel
theorem dX7_carryOut_154 : decode cX7_carryOut 154 = .ok (.aload_n 0, 1) := by decide +kernel
theorem dX7_carryOut_155 : decode cX7_carryOut 155 = .ok (.getfield 10, 3) := by decide +kernel
theorem dX7_carryOut_158 : decode cX7_carryOut 158 = .ok (.aload_n 2, 1) := by decide +kernel
theorem dX7_carryOut_159 : decode cX7_carryOut 159 = .ok (.iconst 0, 1) := by decide +kernel
theorem dX7_carryOut_160 : decode cX7_carryOut 160 = .ok (.iaload, 1) := by decide +kernel
theorem dX7_carryOut_161 : decode cX7_carryOut 161 = .ok (.aload_n 2, 1) := by decide +kernel
theorem dX7_carryOut_162 : decode cX7_carryOut 162 = .ok (.iconst 1, 1) := by decide +kernel
theorem dX7_carryOut_163 : decode cX7_carryOut 163 = .ok (.iaload, 1) := by decide +kernel
theorem dX7_carryOut_164 : decode cX7_carryOut 164 = .ok (.invokevirtual 64, 3) := by decide +kernel
theorem dX7_carryOut_167 : decode cX7_carryOut 167 = .ok (.pop, 1) := by decide +kernel
theorem dX7_carryOut_168 : decode cX7_carryOut 168 = .ok (.goto 31, 3) := by decide +kernel
theorem dX7_carryOut_171 : decode cX7_carryOut 171 = .ok (.aload_n 0, 1) := by decide +kernel
theorem dX7_carryOut_172 : decode cX7_carryOut 172 = .ok (.getfield 10, 3) := by decide +kernel
theorem dX7_carryOut_175 : decode cX7_carryOut 175 = .ok (.aload_n 2, 1) := by decide +kernel
theorem dX7_carryOut_176 : decode cX7_carryOut 176 = .ok (.iconst 0, 1) := by decide +kernel
theorem dX7_carryOut_177 : decode cX7_carryOut 177 = .ok (.iaload, 1) := by decide +kernel
theorem dX7_carryOut_178 : decode cX7_carryOut 178 = .ok (.aload_n 2, 1) := by decide +kernel
theorem dX7_carryOut_179 : decode cX7_carryOut 179 = .ok (.iconst 1, 1) := by decide +kernel
theorem dX7_carryOut_180 : decode cX7_carryOut 180 = .ok (.iaload, 1) := by decide +kernel
theorem dX7_carryOut_181 : decode cX7_carryOut 181 = .ok (.invokevirtual 58, 3) := by decide +kernel
theorem dX7_carryOut_184 : decode cX7_carryOut 184 = .ok (.pop, 1) := by decide +kernel
theorem dX7_carryOut_185 : decode cX7_carryOut 185 = .ok (.goto 14, 3) := by decide +kernel
theorem dX7_carryOut_188 : decode cX7_carryOut 188 = .ok (.aload_n 0, 1) := by decide +kernel
theorem dX7_carryOut_189 : decode cX7_carryOut 189 = .ok (.getfield 10, 3) := by decide +kernel
theorem dX7_carryOut_192 : decode cX7_carryOut 192 = .ok (.aload_n 2, 1) := by decide +kernel
theorem dX7_carryOut_193 : decode cX7_carryOut 193 = .ok (.iconst 0, 1) := by decide +kernel
theorem dX7_carryOut_194 : decode cX7_carryOut 194 = .ok (.iaload, 1) := by decide +kernel
theorem dX7_carryOut_195 : decode cX7_carryOut 195 = .ok (.invokevirtual 91, 3) := by decide +kernel
theorem dX7_carryOut_198 : decode cX7_carryOut 198 = .ok (.pop, 1) := by decide +kernel
theorem dX7_carryOut_199 : decode cX7_carryOut 199 = .ok (.iconst 1, 1) := by decide +kernel
theorem dX7_carryOut_200 : decode cX7_carryOut 200 = .ok (.ireturn, 1) := by decide +kernel
set_option maxRecDepth 20000 in
theorem ggX7_commandRefusal_Jx29ce0_ordinal_8abf5 : GoodIn wsX7_commandRefusal wsJx29ce0_ordinal_8abf5 := goodIn_r _ [8, 9] (by decide +kernel) (by decide +kernel)
set_option maxRecDepth 20000 in
theorem gX7_commandRefusal_Jx29ce0_ordinal_8abf5_u259X6 : GoodIn wsX7_commandRefusal (va_wsU RX7 259 RX6 "java/lang/Enum" ⟨"HostageRings$Word", "ordinal", "()I"⟩ yJx29ce0_ordinal_8abf5 wsJx29ce0_ordinal_8abf5) := goodIn_app (goodIn_of _ (by decide +kernel)) ggX7_commandRefusal_Jx29ce0_ordinal_8abf5
set_option maxRecDepth 20000 in
theorem ggX7_commandRefusal_X5_ringRefusal : GoodIn wsX7_commandRefusal wsX5_ringRefusal := goodIn_r _ [14, 15, 16, 17, 18, 19, 20, 21, 22, 23, 24, 13, 25, 26, 27, 28, 93, 94, 95, 96, 97, 98, 99, 100, 101, 102, 103, 104, 105, 106, 107, 108] (by decide +kernel) (by decide +kernel)
set_option maxRecDepth 20000 in
theorem gX7_commandRefusal_X5_ringRefusal : GoodIn wsX7_commandRefusal (wsV RX7 33 RX5 yX5_ringRefusal wsX5_ringRefusal) := goodIn_app (goodIn_of _ (by decide +kernel)) ggX7_commandRefusal_X5_ringRefusal
set_option maxRecDepth 20000 in
theorem ggX7_commandRefusal_X5_moveRefusal : GoodIn wsX7_commandRefusal wsX5_moveRefusal := goodIn_r _ [32, 26, 28, 33, 34, 35, 36, 37, 38, 39, 40, 13, 41, 15, 20, 17, 21, 93, 94, 95, 96, 97, 98, 99, 100, 101, 102, 103, 104, 105, 106, 107, 108] (by decide +kernel) (by decide +kernel)
set_option maxRecDepth 20000 in
theorem gX7_commandRefusal_X5_moveRefusal : GoodIn wsX7_commandRefusal (wsV RX7 67 RX5 yX5_moveRefusal wsX5_moveRefusal) := goodIn_app (goodIn_of _ (by decide +kernel)) ggX7_commandRefusal_X5_moveRefusal
set_option maxRecDepth 20000 in
theorem ggX7_commandRefusal_X5_signRefusal : GoodIn wsX7_commandRefusal wsX5_signRefusal := goodIn_r _ [45, 26, 46, 38, 39, 40, 13, 41, 15, 47, 48, 49, 50, 37, 51, 52, 53, 54, 55, 56, 93, 94, 95, 96, 97, 98, 99, 100, 101, 102, 103, 104, 105, 106, 107, 108, 109, 110, 111, 112, 113, 114, 115, 116, 117, 118, 119, 120, 121] (by decide +kernel) (by decide +kernel)
set_option maxRecDepth 20000 in
theorem gX7_commandRefusal_X5_signRefusal : GoodIn wsX7_commandRefusal (wsV RX7 74 RX5 yX5_signRefusal wsX5_signRefusal) := goodIn_app (goodIn_of _ (by decide +kernel)) ggX7_commandRefusal_X5_signRefusal
set_option maxRecDepth 20000 in
theorem ggX7_commandRefusal_X5_strikeRefusal : GoodIn wsX7_commandRefusal wsX5_strikeRefusal := goodIn_r _ [60, 26, 46, 38, 39, 40, 13, 41, 15, 93, 94, 95, 96, 97, 98, 99, 100, 101, 102, 103, 104, 105, 106, 107, 108] (by decide +kernel) (by decide +kernel)
set_option maxRecDepth 20000 in
theorem gX7_commandRefusal_X5_strikeRefusal : GoodIn wsX7_commandRefusal (wsV RX7 81 RX5 yX5_strikeRefusal wsX5_strikeRefusal) := goodIn_app (goodIn_of _ (by decide +kernel)) ggX7_commandRefusal_X5_strikeRefusal
set_option maxRecDepth 20000 in
theorem ggX7_commandRefusal_X5_valueRefusal : GoodIn wsX7_commandRefusal wsX5_valueRefusal := goodIn_r _ [64, 16, 17, 18, 19, 20, 21, 65, 66, 67, 13, 68, 37, 51, 55, 69, 70, 71, 72, 73, 74, 75, 76, 77, 78, 79, 80, 93, 94, 95, 96, 97, 98, 99, 100, 101, 102, 103, 104, 109, 110, 111, 112, 113, 114, 115, 116, 117, 118, 119, 120, 121] (by decide +kernel) (by decide +kernel)
set_option maxRecDepth 20000 in
theorem gX7_commandRefusal_X5_valueRefusal : GoodIn wsX7_commandRefusal (wsV RX7 61 RX5 yX5_valueRefusal wsX5_valueRefusal) := goodIn_app (goodIn_of _ (by decide +kernel)) ggX7_commandRefusal_X5_valueRefusal
set_option maxRecDepth 20000 in
theorem ggX7_commandRefusal_X5_settingRefusal : GoodIn wsX7_commandRefusal wsX5_settingRefusal := goodIn_r _ [83, 20, 17, 21] (by decide +kernel) (by decide +kernel)
set_option maxRecDepth 20000 in
theorem gX7_commandRefusal_X5_settingRefusal : GoodIn wsX7_commandRefusal (va_wsS RX7 55 yX5_settingRefusal wsX5_settingRefusal) := goodIn_app (goodIn_of _ (by decide +kernel)) ggX7_commandRefusal_X5_settingRefusal
set_option maxRecDepth 20000 in
theorem ggX7_commandRefusal_X5_passRefusal : GoodIn wsX7_commandRefusal wsX5_passRefusal := goodIn_r _ [87, 88, 20, 17, 21, 93, 94, 95, 96, 97, 98, 99, 100, 101, 102, 103, 104] (by decide +kernel) (by decide +kernel)
set_option maxRecDepth 20000 in
theorem gX7_commandRefusal_X5_passRefusal : GoodIn wsX7_commandRefusal (wsV RX7 88 RX5 yX5_passRefusal wsX5_passRefusal) := goodIn_app (goodIn_of _ (by decide +kernel)) ggX7_commandRefusal_X5_passRefusal
theorem dX7_commandRefusal_0 : decode cX7_commandRefusal 0 = .ok (.getstatic 254, 3) := by decide +kernel
theorem dX7_commandRefusal_3 : decode cX7_commandRefusal 3 = .ok (.aload_n 1, 1) := by decide +kernel
theorem dX7_commandRefusal_4 : decode cX7_commandRefusal 4 = .ok (.invokevirtual 259, 3) := by decide +kernel
theorem dX7_commandRefusal_7 : decode cX7_commandRefusal 7 = .ok (.iaload, 1) := by decide +kernel
theorem dX7_commandRefusal_8 : decode cX7_commandRefusal 8 = .ok (.tableswitch 158 1 8 #[48, 65, 88, 99, 111, 123, 137, 147], 48) := by decide +kernel
theorem dX7_commandRefusal_56 : decode cX7_commandRefusal 56 = .ok (.aload_n 0, 1) := by decide +kernel
theorem dX7_commandRefusal_57 : decode cX7_commandRefusal 57 = .ok (.getfield 10, 3) := by decide +kernel
theorem dX7_commandRefusal_60 : decode cX7_commandRefusal 60 = .ok (.aload_n 2, 1) := by decide +kernel
theorem dX7_commandRefusal_61 : decode cX7_commandRefusal 61 = .ok (.iconst 0, 1) := by decide +kernel
theorem dX7_commandRefusal_62 : decode cX7_commandRefusal 62 = .ok (.iaload, 1) := by decide +kernel
theorem dX7_commandRefusal_63 : decode cX7_commandRefusal 63 = .ok (.aload_n 2, 1) := by decide +kernel
theorem dX7_commandRefusal_64 : decode cX7_commandRefusal 64 = .ok (.iconst 1, 1) := by decide +kernel
theorem dX7_commandRefusal_65 : decode cX7_commandRefusal 65 = .ok (.iaload, 1) := by decide +kernel
theorem dX7_commandRefusal_66 : decode cX7_commandRefusal 66 = .ok (.aload_n 2, 1) := by decide +kernel
theorem dX7_commandRefusal_67 : decode cX7_commandRefusal 67 = .ok (.iconst 2, 1) := by decide +kernel
theorem dX7_commandRefusal_68 : decode cX7_commandRefusal 68 = .ok (.iaload, 1) := by decide +kernel
theorem dX7_commandRefusal_69 : decode cX7_commandRefusal 69 = .ok (.invokevirtual 33, 3) := by decide +kernel
theorem dX7_commandRefusal_72 : decode cX7_commandRefusal 72 = .ok (.ireturn, 1) := by decide +kernel
theorem dX7_commandRefusal_73 : decode cX7_commandRefusal 73 = .ok (.aload_n 0, 1) := by decide +kernel
theorem dX7_commandRefusal_74 : decode cX7_commandRefusal 74 = .ok (.getfield 10, 3) := by decide +kernel
theorem dX7_commandRefusal_77 : decode cX7_commandRefusal 77 = .ok (.aload_n 2, 1) := by decide +kernel
theorem dX7_commandRefusal_78 : decode cX7_commandRefusal 78 = .ok (.iconst 0, 1) := by decide +kernel
theorem dX7_commandRefusal_79 : decode cX7_commandRefusal 79 = .ok (.iaload, 1) := by decide +kernel
theorem dX7_commandRefusal_80 : decode cX7_commandRefusal 80 = .ok (.aload_n 2, 1) := by decide +kernel
theorem dX7_commandRefusal_81 : decode cX7_commandRefusal 81 = .ok (.iconst 1, 1) := by decide +kernel
theorem dX7_commandRefusal_82 : decode cX7_commandRefusal 82 = .ok (.iaload, 1) := by decide +kernel
theorem dX7_commandRefusal_83 : decode cX7_commandRefusal 83 = .ok (.aload_n 2, 1) := by decide +kernel
theorem dX7_commandRefusal_84 : decode cX7_commandRefusal 84 = .ok (.iconst 2, 1) := by decide +kernel
theorem dX7_commandRefusal_85 : decode cX7_commandRefusal 85 = .ok (.iaload, 1) := by decide +kernel
theorem dX7_commandRefusal_86 : decode cX7_commandRefusal 86 = .ok (.aload_n 2, 1) := by decide +kernel
theorem dX7_commandRefusal_87 : decode cX7_commandRefusal 87 = .ok (.iconst 3, 1) := by decide +kernel
theorem dX7_commandRefusal_88 : decode cX7_commandRefusal 88 = .ok (.iaload, 1) := by decide +kernel
theorem dX7_commandRefusal_89 : decode cX7_commandRefusal 89 = .ok (.aload_n 2, 1) := by decide +kernel
theorem dX7_commandRefusal_90 : decode cX7_commandRefusal 90 = .ok (.iconst 4, 1) := by decide +kernel
theorem dX7_commandRefusal_91 : decode cX7_commandRefusal 91 = .ok (.iaload, 1) := by decide +kernel
theorem dX7_commandRefusal_92 : decode cX7_commandRefusal 92 = .ok (.invokevirtual 67, 3) := by decide +kernel
theorem dX7_commandRefusal_95 : decode cX7_commandRefusal 95 = .ok (.ireturn, 1) := by decide +kernel
theorem dX7_commandRefusal_96 : decode cX7_commandRefusal 96 = .ok (.aload_n 0, 1) := by decide +kernel
theorem dX7_commandRefusal_97 : decode cX7_commandRefusal 97 = .ok (.getfield 10, 3) := by decide +kernel
theorem dX7_commandRefusal_100 : decode cX7_commandRefusal 100 = .ok (.aload_n 2, 1) := by decide +kernel
theorem dX7_commandRefusal_101 : decode cX7_commandRefusal 101 = .ok (.iconst 0, 1) := by decide +kernel
theorem dX7_commandRefusal_102 : decode cX7_commandRefusal 102 = .ok (.iaload, 1) := by decide +kernel
theorem dX7_commandRefusal_103 : decode cX7_commandRefusal 103 = .ok (.invokevirtual 74, 3) := by decide +kernel
theorem dX7_commandRefusal_106 : decode cX7_commandRefusal 106 = .ok (.ireturn, 1) := by decide +kernel
theorem dX7_commandRefusal_107 : decode cX7_commandRefusal 107 = .ok (.aload_n 0, 1) := by decide +kernel
theorem dX7_commandRefusal_108 : decode cX7_commandRefusal 108 = .ok (.getfield 10, 3) := by decide +kernel
theorem dX7_commandRefusal_111 : decode cX7_commandRefusal 111 = .ok (.aload_n 2, 1) := by decide +kernel
theorem dX7_commandRefusal_112 : decode cX7_commandRefusal 112 = .ok (.iconst 0, 1) := by decide +kernel
theorem dX7_commandRefusal_113 : decode cX7_commandRefusal 113 = .ok (.iaload, 1) := by decide +kernel
theorem dX7_commandRefusal_114 : decode cX7_commandRefusal 114 = .ok (.iconst 1, 1) := by decide +kernel
theorem dX7_commandRefusal_115 : decode cX7_commandRefusal 115 = .ok (.invokevirtual 81, 3) := by decide +kernel
theorem dX7_commandRefusal_118 : decode cX7_commandRefusal 118 = .ok (.ireturn, 1) := by decide +kernel
theorem dX7_commandRefusal_119 : decode cX7_commandRefusal 119 = .ok (.aload_n 0, 1) := by decide +kernel
theorem dX7_commandRefusal_120 : decode cX7_commandRefusal 120 = .ok (.getfield 10, 3) := by decide +kernel
theorem dX7_commandRefusal_123 : decode cX7_commandRefusal 123 = .ok (.aload_n 2, 1) := by decide +kernel
theorem dX7_commandRefusal_124 : decode cX7_commandRefusal 124 = .ok (.iconst 0, 1) := by decide +kernel
theorem dX7_commandRefusal_125 : decode cX7_commandRefusal 125 = .ok (.iaload, 1) := by decide +kernel
theorem dX7_commandRefusal_126 : decode cX7_commandRefusal 126 = .ok (.iconst 0, 1) := by decide +kernel
theorem dX7_commandRefusal_127 : decode cX7_commandRefusal 127 = .ok (.invokevirtual 81, 3) := by decide +kernel
theorem dX7_commandRefusal_130 : decode cX7_commandRefusal 130 = .ok (.ireturn, 1) := by decide +kernel
theorem dX7_commandRefusal_131 : decode cX7_commandRefusal 131 = .ok (.aload_n 0, 1) := by decide +kernel
theorem dX7_commandRefusal_132 : decode cX7_commandRefusal 132 = .ok (.getfield 10, 3) := by decide +kernel
theorem dX7_commandRefusal_135 : decode cX7_commandRefusal 135 = .ok (.aload_n 2, 1) := by decide +kernel
theorem dX7_commandRefusal_136 : decode cX7_commandRefusal 136 = .ok (.iconst 0, 1) := by decide +kernel
theorem dX7_commandRefusal_137 : decode cX7_commandRefusal 137 = .ok (.iaload, 1) := by decide +kernel
theorem dX7_commandRefusal_138 : decode cX7_commandRefusal 138 = .ok (.aload_n 2, 1) := by decide +kernel
theorem dX7_commandRefusal_139 : decode cX7_commandRefusal 139 = .ok (.iconst 1, 1) := by decide +kernel
theorem dX7_commandRefusal_140 : decode cX7_commandRefusal 140 = .ok (.iaload, 1) := by decide +kernel
theorem dX7_commandRefusal_141 : decode cX7_commandRefusal 141 = .ok (.invokevirtual 61, 3) := by decide +kernel
theorem dX7_commandRefusal_144 : decode cX7_commandRefusal 144 = .ok (.ireturn, 1) := by decide +kernel
theorem dX7_commandRefusal_145 : decode cX7_commandRefusal 145 = .ok (.aload_n 2, 1) := by decide +kernel
theorem dX7_commandRefusal_146 : decode cX7_commandRefusal 146 = .ok (.iconst 0, 1) := by decide +kernel
theorem dX7_commandRefusal_147 : decode cX7_commandRefusal 147 = .ok (.iaload, 1) := by decide +kernel
theorem dX7_commandRefusal_148 : decode cX7_commandRefusal 148 = .ok (.aload_n 2, 1) := by decide +kernel
theorem dX7_commandRefusal_149 : decode cX7_commandRefusal 149 = .ok (.iconst 1, 1) := by decide +kernel
theorem dX7_commandRefusal_150 : decode cX7_commandRefusal 150 = .ok (.iaload, 1) := by decide +kernel
theorem dX7_commandRefusal_151 : decode cX7_commandRefusal 151 = .ok (.invokestatic 55, 3) := by decide +kernel
theorem dX7_commandRefusal_154 : decode cX7_commandRefusal 154 = .ok (.ireturn, 1) := by decide +kernel
theorem dX7_commandRefusal_155 : decode cX7_commandRefusal 155 = .ok (.aload_n 0, 1) := by decide +kernel
theorem dX7_commandRefusal_156 : decode cX7_commandRefusal 156 = .ok (.getfield 10, 3) := by decide +kernel
theorem dX7_commandRefusal_159 : decode cX7_commandRefusal 159 = .ok (.aload_n 2, 1) := by decide +kernel
theorem dX7_commandRefusal_160 : decode cX7_commandRefusal 160 = .ok (.iconst 0, 1) := by decide +kernel
theorem dX7_commandRefusal_161 : decode cX7_commandRefusal 161 = .ok (.iaload, 1) := by decide +kernel
theorem dX7_commandRefusal_162 : decode cX7_commandRefusal 162 = .ok (.invokevirtual 88, 3) := by decide +kernel
theorem dX7_commandRefusal_165 : decode cX7_commandRefusal 165 = .ok (.ireturn, 1) := by decide +kernel
theorem dX7_commandRefusal_166 : decode cX7_commandRefusal 166 = .ok (.iconst 1, 1) := by decide +kernel
theorem dX7_commandRefusal_167 : decode cX7_commandRefusal 167 = .ok (.ireturn, 1) := by decide +kernel
theorem dX7_refuse_0 : decode cX7_refuse 0 = .ok (.iload_n 0, 1) := by decide +kernel
theorem dX7_refuse_1 : decode cX7_refuse 1 = .ok (.iconst 1, 1) := by decide +kernel
theorem dX7_refuse_2 : decode cX7_refuse 2 = .ok (.if_icmp .ne 14, 3) := by decide +kernel
theorem dX7_refuse_5 : decode cX7_refuse 5 = .ok (.new 109, 3) := by decide +kernel
theorem dX7_refuse_8 : decode cX7_refuse 8 = .ok (.dup, 1) := by decide +kernel
theorem dX7_refuse_9 : decode cX7_refuse 9 = .ok (.ldc_w 264, 3) := by decide +kernel
theorem dX7_refuse_12 : decode cX7_refuse 12 = .ok (.invokespecial 113, 3) := by decide +kernel
theorem dX7_refuse_15 : decode cX7_refuse 15 = .ok (.athrow, 1) := by decide +kernel
theorem dX7_refuse_16 : decode cX7_refuse 16 = .ok (.iload_n 0, 1) := by decide +kernel
theorem dX7_refuse_17 : decode cX7_refuse 17 = .ok (.iconst 2, 1) := by decide +kernel
theorem dX7_refuse_18 : decode cX7_refuse 18 = .ok (.if_icmp .ne 14, 3) := by decide +kernel
theorem dX7_refuse_21 : decode cX7_refuse 21 = .ok (.new 135, 3) := by decide +kernel
theorem dX7_refuse_24 : decode cX7_refuse 24 = .ok (.dup, 1) := by decide +kernel
theorem dX7_refuse_25 : decode cX7_refuse 25 = .ok (.ldc_w 266, 3) := by decide +kernel
theorem dX7_refuse_28 : decode cX7_refuse 28 = .ok (.invokespecial 139, 3) := by decide +kernel
theorem dX7_refuse_31 : decode cX7_refuse 31 = .ok (.athrow, 1) := by decide +kernel
theorem dX7_refuse_32 : decode cX7_refuse 32 = .ok (.iload_n 0, 1) := by decide +kernel
theorem dX7_refuse_33 : decode cX7_refuse 33 = .ok (.iconst 3, 1) := by decide +kernel
theorem dX7_refuse_34 : decode cX7_refuse 34 = .ok (.if_icmp .ne 14, 3) := by decide +kernel
theorem dX7_refuse_37 : decode cX7_refuse 37 = .ok (.new 185, 3) := by decide +kernel
theorem dX7_refuse_40 : decode cX7_refuse 40 = .ok (.dup, 1) := by decide +kernel
theorem dX7_refuse_41 : decode cX7_refuse 41 = .ok (.ldc_w 268, 3) := by decide +kernel
theorem dX7_refuse_44 : decode cX7_refuse 44 = .ok (.invokespecial 189, 3) := by decide +kernel
theorem dX7_refuse_47 : decode cX7_refuse 47 = .ok (.athrow, 1) := by decide +kernel
theorem dX7_refuse_48 : decode cX7_refuse 48 = .ok (.return_, 1) := by decide +kernel
set_option maxRecDepth 20000 in
theorem ggX7_requireCell_X7_isCell : GoodIn wsX7_requireCell wsX7_isCell := goodIn_r _ [6, 7, 8, 5, 9] (by decide +kernel) (by decide +kernel)
set_option maxRecDepth 20000 in
theorem gX7_requireCell_X7_isCell : GoodIn wsX7_requireCell (va_wsS RX7 270 yX7_isCell wsX7_isCell) := goodIn_app (goodIn_of _ (by decide +kernel)) ggX7_requireCell_X7_isCell
theorem dX7_requireCell_0 : decode cX7_requireCell 0 = .ok (.iload_n 0, 1) := by decide +kernel
theorem dX7_requireCell_1 : decode cX7_requireCell 1 = .ok (.invokestatic 270, 3) := by decide +kernel
theorem dX7_requireCell_4 : decode cX7_requireCell 4 = .ok (.ifCond .ne 14, 3) := by decide +kernel
theorem dX7_requireCell_7 : decode cX7_requireCell 7 = .ok (.new 109, 3) := by decide +kernel
theorem dX7_requireCell_10 : decode cX7_requireCell 10 = .ok (.dup, 1) := by decide +kernel
theorem dX7_requireCell_11 : decode cX7_requireCell 11 = .ok (.ldc_w 273, 3) := by decide +kernel
theorem dX7_requireCell_14 : decode cX7_requireCell 14 = .ok (.invokespecial 113, 3) := by decide +kernel
theorem dX7_requireCell_17 : decode cX7_requireCell 17 = .ok (.athrow, 1) := by decide +kernel
theorem dX7_requireCell_18 : decode cX7_requireCell 18 = .ok (.return_, 1) := by decide +kernel
theorem dX7_requireMove_0 : decode cX7_requireMove 0 = .ok (.iload_n 1, 1) := by decide +kernel
theorem dX7_requireMove_1 : decode cX7_requireMove 1 = .ok (.ifCond .lt 14, 3) := by decide +kernel
theorem dX7_requireMove_4 : decode cX7_requireMove 4 = .ok (.iload_n 1, 1) := by decide +kernel
theorem dX7_requireMove_5 : decode cX7_requireMove 5 = .ok (.aload_n 0, 1) := by decide +kernel
theorem dX7_requireMove_6 : decode cX7_requireMove 6 = .ok (.getfield 10, 3) := by decide +kernel
theorem dX7_requireMove_9 : decode cX7_requireMove 9 = .ok (.getfield 240, 3) := by decide +kernel
theorem dX7_requireMove_12 : decode cX7_requireMove 12 = .ok (.if_icmp .lt 14, 3) := by decide +kernel
theorem dX7_requireMove_15 : decode cX7_requireMove 15 = .ok (.new 109, 3) := by decide +kernel
theorem dX7_requireMove_18 : decode cX7_requireMove 18 = .ok (.dup, 1) := by decide +kernel
theorem dX7_requireMove_19 : decode cX7_requireMove 19 = .ok (.ldc_w 275, 3) := by decide +kernel
theorem dX7_requireMove_22 : decode cX7_requireMove 22 = .ok (.invokespecial 113, 3) := by decide +kernel
theorem dX7_requireMove_25 : decode cX7_requireMove 25 = .ok (.athrow, 1) := by decide +kernel
theorem dX7_requireMove_26 : decode cX7_requireMove 26 = .ok (.return_, 1) := by decide +kernel
set_option maxRecDepth 20000 in
theorem ggX7_requireRange_X7_isWithin : GoodIn wsX7_requireRange wsX7_isWithin := goodIn_r _ [6] (by decide +kernel) (by decide +kernel)
set_option maxRecDepth 20000 in
theorem gX7_requireRange_X7_isWithin : GoodIn wsX7_requireRange (va_wsS RX7 277 yX7_isWithin wsX7_isWithin) := goodIn_app (goodIn_of _ (by decide +kernel)) ggX7_requireRange_X7_isWithin
theorem dX7_requireRange_0 : decode cX7_requireRange 0 = .ok (.iload_n 0, 1) := by decide +kernel
theorem dX7_requireRange_1 : decode cX7_requireRange 1 = .ok (.iconst 0, 1) := by decide +kernel
theorem dX7_requireRange_2 : decode cX7_requireRange 2 = .ok (.iload_n 1, 1) := by decide +kernel
theorem dX7_requireRange_3 : decode cX7_requireRange 3 = .ok (.invokestatic 277, 3) := by decide +kernel
theorem dX7_requireRange_6 : decode cX7_requireRange 6 = .ok (.ifCond .ne 14, 3) := by decide +kernel
theorem dX7_requireRange_9 : decode cX7_requireRange 9 = .ok (.new 135, 3) := by decide +kernel
theorem dX7_requireRange_12 : decode cX7_requireRange 12 = .ok (.dup, 1) := by decide +kernel
theorem dX7_requireRange_13 : decode cX7_requireRange 13 = .ok (.ldc_w 266, 3) := by decide +kernel
theorem dX7_requireRange_16 : decode cX7_requireRange 16 = .ok (.invokespecial 139, 3) := by decide +kernel
theorem dX7_requireRange_19 : decode cX7_requireRange 19 = .ok (.athrow, 1) := by decide +kernel
theorem dX7_requireRange_20 : decode cX7_requireRange 20 = .ok (.return_, 1) := by decide +kernel
set_option maxRecDepth 20000 in
theorem ggX7_isCell_X7_isWithin : GoodIn wsX7_isCell wsX7_isWithin := goodIn_r _ [4] (by decide +kernel) (by decide +kernel)
set_option maxRecDepth 20000 in
theorem gX7_isCell_X7_isWithin : GoodIn wsX7_isCell (va_wsS RX7 277 yX7_isWithin wsX7_isWithin) := goodIn_app (goodIn_of _ (by decide +kernel)) ggX7_isCell_X7_isWithin
theorem dX7_isCell_0 : decode cX7_isCell 0 = .ok (.iload_n 0, 1) := by decide +kernel
theorem dX7_isCell_1 : decode cX7_isCell 1 = .ok (.iconst 0, 1) := by decide +kernel
theorem dX7_isCell_2 : decode cX7_isCell 2 = .ok (.bipush 47, 2) := by decide +kernel
theorem dX7_isCell_4 : decode cX7_isCell 4 = .ok (.invokestatic 277, 3) := by decide +kernel
theorem dX7_isCell_7 : decode cX7_isCell 7 = .ok (.ireturn, 1) := by decide +kernel
theorem dX7_isWithin_0 : decode cX7_isWithin 0 = .ok (.iload_n 0, 1) := by decide +kernel
theorem dX7_isWithin_1 : decode cX7_isWithin 1 = .ok (.iload_n 1, 1) := by decide +kernel
theorem dX7_isWithin_2 : decode cX7_isWithin 2 = .ok (.if_icmp .lt 12, 3) := by decide +kernel
theorem dX7_isWithin_5 : decode cX7_isWithin 5 = .ok (.iload_n 0, 1) := by decide +kernel
theorem dX7_isWithin_6 : decode cX7_isWithin 6 = .ok (.iload_n 2, 1) := by decide +kernel
theorem dX7_isWithin_7 : decode cX7_isWithin 7 = .ok (.if_icmp .gt 7, 3) := by decide +kernel
theorem dX7_isWithin_10 : decode cX7_isWithin 10 = .ok (.iconst 1, 1) := by decide +kernel
theorem dX7_isWithin_11 : decode cX7_isWithin 11 = .ok (.goto 4, 3) := by decide +kernel
theorem dX7_isWithin_14 : decode cX7_isWithin 14 = .ok (.iconst 0, 1) := by decide +kernel
theorem dX7_isWithin_15 : decode cX7_isWithin 15 = .ok (.ireturn, 1) := by decide +kernel
