set_option maxRecDepth 20000 in
theorem ggX5_mass_X5_carOf : GoodIn wsX5_mass wsX5_carOf := goodIn_ca (goodIn_r _ [7, 8, 9, 10, 6, 11, 12, 13, 14, 15, 16, 17, 18, 19, 20, 36, 37, 38, 39, 40, 41, 42, 43, 44, 45, 46, 47, 48, 49] (by decide +kernel) (by decide +kernel)) (goodIn_sub (fun _ h => List.mem_cons_of_mem _ (List.mem_append_left _ (List.mem_append_right _ h))) (by decide +kernel))
set_option maxRecDepth 20000 in
theorem gX5_mass_X5_carOf : GoodIn wsX5_mass (wsV RX5 47 RX5 yX5_carOf wsX5_carOf) := goodIn_app (goodIn_of _ (by decide +kernel)) ggX5_mass_X5_carOf
set_option maxRecDepth 20000 in
theorem ggX5_mass_X5_testNumber : GoodIn wsX5_mass wsX5_testNumber := goodIn_ca (goodIn_r _ [23, 24, 25] (by decide +kernel) (by decide +kernel)) (goodIn_sub (fun _ h => List.mem_cons_of_mem _ (List.mem_append_right _ h)) (by decide +kernel))
set_option maxRecDepth 20000 in
theorem gX5_mass_X5_testNumber : GoodIn wsX5_mass (va_wsS RX5 51 yX5_testNumber wsX5_testNumber) := goodIn_app (goodIn_of _ (by decide +kernel)) ggX5_mass_X5_testNumber
theorem dX5_mass_0 : decode cX5_mass 0 = .ok (.aload_n 0, 1) := by decide +kernel
theorem dX5_mass_1 : decode cX5_mass 1 = .ok (.iload_n 1, 1) := by decide +kernel
theorem dX5_mass_2 : decode cX5_mass 2 = .ok (.invokevirtual 47, 3) := by decide +kernel
theorem dX5_mass_5 : decode cX5_mass 5 = .ok (.astore_n 3, 1) := by decide +kernel
theorem dX5_mass_6 : decode cX5_mass 6 = .ok (.iload_n 2, 1) := by decide +kernel
theorem dX5_mass_7 : decode cX5_mass 7 = .ok (.iconst 1, 1) := by decide +kernel
theorem dX5_mass_8 : decode cX5_mass 8 = .ok (.bipush 100, 2) := by decide +kernel
theorem dX5_mass_10 : decode cX5_mass 10 = .ok (.invokestatic 51, 3) := by decide +kernel
theorem dX5_mass_13 : decode cX5_mass 13 = .ok (.aload_n 3, 1) := by decide +kernel
theorem dX5_mass_14 : decode cX5_mass 14 = .ok (.iload_n 2, 1) := by decide +kernel
theorem dX5_mass_15 : decode cX5_mass 15 = .ok (.putfield 55, 3) := by decide +kernel
theorem dX5_mass_18 : decode cX5_mass 18 = .ok (.aload_n 0, 1) := by decide +kernel
theorem dX5_mass_19 : decode cX5_mass 19 = .ok (.iconst 0, 1) := by decide +kernel
theorem dX5_mass_20 : decode cX5_mass 20 = .ok (.putfield 35, 3) := by decide +kernel
theorem dX5_mass_23 : decode cX5_mass 23 = .ok (.return_, 1) := by decide +kernel
set_option maxRecDepth 20000 in
theorem ggX5_skid_X5_testCar : GoodIn wsX5_skid wsX5_testCar := goodIn_ca (goodIn_r _ [14, 15, 16] (by decide +kernel) (by decide +kernel)) (goodIn_sub (fun _ h => List.mem_cons_of_mem _ (List.mem_append_left _ (List.mem_append_right _ h))) (by decide +kernel))
set_option maxRecDepth 20000 in
theorem gX5_skid_X5_testCar : GoodIn wsX5_skid (va_wsS RX5 60 yX5_testCar wsX5_testCar) := goodIn_app (goodIn_of _ (by decide +kernel)) ggX5_skid_X5_testCar
set_option maxRecDepth 20000 in
theorem ggX5_skid_X5_testSpan : GoodIn wsX5_skid wsX5_testSpan := goodIn_ca (goodIn_r _ [19, 20, 21] (by decide +kernel) (by decide +kernel)) (goodIn_sub (fun _ h => List.mem_cons_of_mem _ (List.mem_append_right _ h)) (by decide +kernel))
set_option maxRecDepth 20000 in
theorem gX5_skid_X5_testSpan : GoodIn wsX5_skid (va_wsS RX5 64 yX5_testSpan wsX5_testSpan) := goodIn_app (goodIn_of _ (by decide +kernel)) ggX5_skid_X5_testSpan
theorem dX5_skid_0 : decode cX5_skid 0 = .ok (.iload_n 1, 1) := by decide +kernel
theorem dX5_skid_1 : decode cX5_skid 1 = .ok (.invokestatic 60, 3) := by decide +kernel
theorem dX5_skid_4 : decode cX5_skid 4 = .ok (.iload_n 3, 1) := by decide +kernel
theorem dX5_skid_5 : decode cX5_skid 5 = .ok (.iload 4, 2) := by decide +kernel
theorem dX5_skid_7 : decode cX5_skid 7 = .ok (.iconst 0, 1) := by decide +kernel
theorem dX5_skid_8 : decode cX5_skid 8 = .ok (.sipush 2000, 3) := by decide +kernel
theorem dX5_skid_11 : decode cX5_skid 11 = .ok (.invokestatic 64, 3) := by decide +kernel
theorem dX5_skid_14 : decode cX5_skid 14 = .ok (.iload 5, 2) := by decide +kernel
theorem dX5_skid_16 : decode cX5_skid 16 = .ok (.iload 6, 2) := by decide +kernel
theorem dX5_skid_18 : decode cX5_skid 18 = .ok (.iconst 0, 1) := by decide +kernel
theorem dX5_skid_19 : decode cX5_skid 19 = .ok (.sipush 150, 3) := by decide +kernel
theorem dX5_skid_22 : decode cX5_skid 22 = .ok (.invokestatic 64, 3) := by decide +kernel
theorem dX5_skid_25 : decode cX5_skid 25 = .ok (.aload_n 0, 1) := by decide +kernel
theorem dX5_skid_26 : decode cX5_skid 26 = .ok (.getfield 21, 3) := by decide +kernel
theorem dX5_skid_29 : decode cX5_skid 29 = .ok (.bipush 12, 2) := by decide +kernel
theorem dX5_skid_31 : decode cX5_skid 31 = .ok (.if_icmp .lt 13, 3) := by decide +kernel
theorem dX5_skid_34 : decode cX5_skid 34 = .ok (.new 68, 3) := by decide +kernel
theorem dX5_skid_37 : decode cX5_skid 37 = .ok (.dup, 1) := by decide +kernel
theorem dX5_skid_38 : decode cX5_skid 38 = .ok (.ldc 70, 2) := by decide +kernel
theorem dX5_skid_40 : decode cX5_skid 40 = .ok (.invokespecial 72, 3) := by decide +kernel
theorem dX5_skid_43 : decode cX5_skid 43 = .ok (.athrow, 1) := by decide +kernel
theorem dX5_skid_44 : decode cX5_skid 44 = .ok (.aload_n 0, 1) := by decide +kernel
theorem dX5_skid_45 : decode cX5_skid 45 = .ok (.getfield 11, 3) := by decide +kernel
theorem dX5_skid_48 : decode cX5_skid 48 = .ok (.aload_n 0, 1) := by decide +kernel
theorem dX5_skid_49 : decode cX5_skid 49 = .ok (.getfield 21, 3) := by decide +kernel
theorem dX5_skid_52 : decode cX5_skid 52 = .ok (.aaload, 1) := by decide +kernel
theorem dX5_skid_53 : decode cX5_skid 53 = .ok (.astore 7, 2) := by decide +kernel
theorem dX5_skid_55 : decode cX5_skid 55 = .ok (.aload 7, 2) := by decide +kernel
theorem dX5_skid_57 : decode cX5_skid 57 = .ok (.iload_n 1, 1) := by decide +kernel
theorem dX5_skid_58 : decode cX5_skid 58 = .ok (.putfield 75, 3) := by decide +kernel
theorem dX5_skid_61 : decode cX5_skid 61 = .ok (.aload 7, 2) := by decide +kernel
theorem dX5_skid_63 : decode cX5_skid 63 = .ok (.iload_n 2, 1) := by decide +kernel
theorem dX5_skid_64 : decode cX5_skid 64 = .ok (.putfield 78, 3) := by decide +kernel
theorem dX5_skid_67 : decode cX5_skid 67 = .ok (.aload 7, 2) := by decide +kernel
theorem dX5_skid_69 : decode cX5_skid 69 = .ok (.iload_n 3, 1) := by decide +kernel
theorem dX5_skid_70 : decode cX5_skid 70 = .ok (.iload 5, 2) := by decide +kernel
theorem dX5_skid_72 : decode cX5_skid 72 = .ok (.imul, 1) := by decide +kernel
theorem dX5_skid_73 : decode cX5_skid 73 = .ok (.putfield 81, 3) := by decide +kernel
theorem dX5_skid_76 : decode cX5_skid 76 = .ok (.aload 7, 2) := by decide +kernel
theorem dX5_skid_78 : decode cX5_skid 78 = .ok (.iload 4, 2) := by decide +kernel
theorem dX5_skid_80 : decode cX5_skid 80 = .ok (.iload 6, 2) := by decide +kernel
theorem dX5_skid_82 : decode cX5_skid 82 = .ok (.imul, 1) := by decide +kernel
theorem dX5_skid_83 : decode cX5_skid 83 = .ok (.putfield 84, 3) := by decide +kernel
theorem dX5_skid_86 : decode cX5_skid 86 = .ok (.aload 7, 2) := by decide +kernel
theorem dX5_skid_88 : decode cX5_skid 88 = .ok (.iconst 1, 1) := by decide +kernel
theorem dX5_skid_89 : decode cX5_skid 89 = .ok (.putfield 87, 3) := by decide +kernel
theorem dX5_skid_92 : decode cX5_skid 92 = .ok (.aload_n 0, 1) := by decide +kernel
theorem dX5_skid_93 : decode cX5_skid 93 = .ok (.dup, 1) := by decide +kernel
theorem dX5_skid_94 : decode cX5_skid 94 = .ok (.getfield 21, 3) := by decide +kernel
theorem dX5_skid_97 : decode cX5_skid 97 = .ok (.iconst 1, 1) := by decide +kernel
theorem dX5_skid_98 : decode cX5_skid 98 = .ok (.iadd, 1) := by decide +kernel
theorem dX5_skid_99 : decode cX5_skid 99 = .ok (.putfield 21, 3) := by decide +kernel
theorem dX5_skid_102 : decode cX5_skid 102 = .ok (.aload_n 0, 1) := by decide +kernel
theorem dX5_skid_103 : decode cX5_skid 103 = .ok (.iconst 0, 1) := by decide +kernel
theorem dX5_skid_104 : decode cX5_skid 104 = .ok (.putfield 35, 3) := by decide +kernel
theorem dX5_skid_107 : decode cX5_skid 107 = .ok (.aload_n 0, 1) := by decide +kernel
theorem dX5_skid_108 : decode cX5_skid 108 = .ok (.getfield 21, 3) := by decide +kernel
theorem dX5_skid_111 : decode cX5_skid 111 = .ok (.iconst 1, 1) := by decide +kernel
theorem dX5_skid_112 : decode cX5_skid 112 = .ok (.isub, 1) := by decide +kernel
theorem dX5_skid_113 : decode cX5_skid 113 = .ok (.ireturn, 1) := by decide +kernel
set_option maxRecDepth 20000 in
theorem ggX5_drop_X5_skidOf : GoodIn wsX5_drop wsX5_skidOf := goodIn_ca (goodIn_r _ [7, 8, 9, 10, 11, 17, 18, 19, 20, 21, 22, 23, 24] (by decide +kernel) (by decide +kernel)) (goodIn_sub (fun _ h => List.mem_cons_of_mem _ (List.mem_append_right _ h)) (by decide +kernel))
set_option maxRecDepth 20000 in
theorem gX5_drop_X5_skidOf : GoodIn wsX5_drop (wsV RX5 90 RX5 yX5_skidOf wsX5_skidOf) := goodIn_app (goodIn_of _ (by decide +kernel)) ggX5_drop_X5_skidOf
theorem dX5_drop_0 : decode cX5_drop 0 = .ok (.aload_n 0, 1) := by decide +kernel
theorem dX5_drop_1 : decode cX5_drop 1 = .ok (.iload_n 1, 1) := by decide +kernel
theorem dX5_drop_2 : decode cX5_drop 2 = .ok (.invokevirtual 90, 3) := by decide +kernel
theorem dX5_drop_5 : decode cX5_drop 5 = .ok (.astore_n 3, 1) := by decide +kernel
theorem dX5_drop_6 : decode cX5_drop 6 = .ok (.aload_n 3, 1) := by decide +kernel
theorem dX5_drop_7 : decode cX5_drop 7 = .ok (.getfield 87, 3) := by decide +kernel
theorem dX5_drop_10 : decode cX5_drop 10 = .ok (.iload_n 2, 1) := by decide +kernel
theorem dX5_drop_11 : decode cX5_drop 11 = .ok (.if_icmp .eq 5, 3) := by decide +kernel
theorem dX5_drop_14 : decode cX5_drop 14 = .ok (.iconst 0, 1) := by decide +kernel
theorem dX5_drop_15 : decode cX5_drop 15 = .ok (.ireturn, 1) := by decide +kernel
theorem dX5_drop_16 : decode cX5_drop 16 = .ok (.aload_n 3, 1) := by decide +kernel
theorem dX5_drop_17 : decode cX5_drop 17 = .ok (.iload_n 2, 1) := by decide +kernel
theorem dX5_drop_18 : decode cX5_drop 18 = .ok (.ifCond .ne 7, 3) := by decide +kernel
theorem dX5_drop_21 : decode cX5_drop 21 = .ok (.iconst 1, 1) := by decide +kernel
theorem dX5_drop_22 : decode cX5_drop 22 = .ok (.goto 4, 3) := by decide +kernel
theorem dX5_drop_25 : decode cX5_drop 25 = .ok (.iconst 0, 1) := by decide +kernel
theorem dX5_drop_26 : decode cX5_drop 26 = .ok (.putfield 87, 3) := by decide +kernel
theorem dX5_drop_29 : decode cX5_drop 29 = .ok (.aload_n 0, 1) := by decide +kernel
theorem dX5_drop_30 : decode cX5_drop 30 = .ok (.iconst 0, 1) := by decide +kernel
theorem dX5_drop_31 : decode cX5_drop 31 = .ok (.putfield 35, 3) := by decide +kernel
theorem dX5_drop_34 : decode cX5_drop 34 = .ok (.iconst 1, 1) := by decide +kernel
theorem dX5_drop_35 : decode cX5_drop 35 = .ok (.ireturn, 1) := by decide +kernel
set_option maxRecDepth 20000 in
theorem ggX5_sure_X5_speedOf : GoodIn wsX5_sure wsX5_speedOf := goodIn_ca (goodIn_r _ [8, 9, 10, 7, 11, 12, 13, 14, 15, 16, 17, 18, 19, 20, 21, 22, 23, 24, 25, 26, 27, 28, 29, 30, 31, 32, 33, 34, 35, 36, 48, 49, 50, 51, 52, 53, 54, 55, 56, 57, 58, 59, 60, 61, 62, 63, 64, 65, 66, 67, 68, 69, 70, 71] (by decide +kernel) (by decide +kernel)) (goodIn_sub (fun _ h => List.mem_cons_of_mem _ (List.mem_append_left _ (List.mem_append_right _ h))) (by decide +kernel))
set_option maxRecDepth 20000 in
theorem gX5_sure_X5_speedOf : GoodIn wsX5_sure (wsV RX5 94 RX5 yX5_speedOf wsX5_speedOf) := goodIn_app (goodIn_of _ (by decide +kernel)) ggX5_sure_X5_speedOf
set_option maxRecDepth 20000 in
theorem ggX5_sure_X5_testSpan : GoodIn wsX5_sure wsX5_testSpan := goodIn_ca (goodIn_r _ [39, 40, 41] (by decide +kernel) (by decide +kernel)) (goodIn_sub (fun _ h => List.mem_cons_of_mem _ (List.mem_append_right _ h)) (by decide +kernel))
set_option maxRecDepth 20000 in
theorem gX5_sure_X5_testSpan : GoodIn wsX5_sure (va_wsS RX5 64 yX5_testSpan wsX5_testSpan) := goodIn_app (goodIn_of _ (by decide +kernel)) ggX5_sure_X5_testSpan
theorem dX5_sure_0 : decode cX5_sure 0 = .ok (.aload_n 0, 1) := by decide +kernel
theorem dX5_sure_1 : decode cX5_sure 1 = .ok (.iload_n 1, 1) := by decide +kernel
theorem dX5_sure_2 : decode cX5_sure 2 = .ok (.iload_n 2, 1) := by decide +kernel
theorem dX5_sure_3 : decode cX5_sure 3 = .ok (.invokevirtual 94, 3) := by decide +kernel
theorem dX5_sure_6 : decode cX5_sure 6 = .ok (.astore 5, 2) := by decide +kernel
theorem dX5_sure_8 : decode cX5_sure 8 = .ok (.iload_n 3, 1) := by decide +kernel
theorem dX5_sure_9 : decode cX5_sure 9 = .ok (.iload 4, 2) := by decide +kernel
theorem dX5_sure_11 : decode cX5_sure 11 = .ok (.bipush (-50), 2) := by decide +kernel
theorem dX5_sure_13 : decode cX5_sure 13 = .ok (.bipush 50, 2) := by decide +kernel
theorem dX5_sure_15 : decode cX5_sure 15 = .ok (.invokestatic 64, 3) := by decide +kernel
theorem dX5_sure_18 : decode cX5_sure 18 = .ok (.aload 5, 2) := by decide +kernel
theorem dX5_sure_20 : decode cX5_sure 20 = .ok (.iload_n 3, 1) := by decide +kernel
theorem dX5_sure_21 : decode cX5_sure 21 = .ok (.putfield 98, 3) := by decide +kernel
theorem dX5_sure_24 : decode cX5_sure 24 = .ok (.aload 5, 2) := by decide +kernel
theorem dX5_sure_26 : decode cX5_sure 26 = .ok (.iload 4, 2) := by decide +kernel
theorem dX5_sure_28 : decode cX5_sure 28 = .ok (.putfield 103, 3) := by decide +kernel
theorem dX5_sure_31 : decode cX5_sure 31 = .ok (.aload_n 0, 1) := by decide +kernel
theorem dX5_sure_32 : decode cX5_sure 32 = .ok (.iconst 0, 1) := by decide +kernel
theorem dX5_sure_33 : decode cX5_sure 33 = .ok (.putfield 35, 3) := by decide +kernel
theorem dX5_sure_36 : decode cX5_sure 36 = .ok (.return_, 1) := by decide +kernel
set_option maxRecDepth 20000 in
theorem ggX5_tale_X5_testSpeed : GoodIn wsX5_tale wsX5_testSpeed := goodIn_ca (goodIn_r _ [13, 14, 15, 16, 17, 12, 18] (by decide +kernel) (by decide +kernel)) (goodIn_sub (fun _ h => List.mem_cons_of_mem _ (List.mem_append_left _ (List.mem_append_right _ h))) (by decide +kernel))
set_option maxRecDepth 20000 in
theorem gX5_tale_X5_testSpeed : GoodIn wsX5_tale (va_wsS RX5 106 yX5_testSpeed wsX5_testSpeed) := goodIn_app (goodIn_of _ (by decide +kernel)) ggX5_tale_X5_testSpeed
set_option maxRecDepth 20000 in
theorem ggX5_tale_X5_testSpan : GoodIn wsX5_tale wsX5_testSpan := goodIn_ca (goodIn_r _ [21, 22, 23] (by decide +kernel) (by decide +kernel)) (goodIn_sub (fun _ h => List.mem_cons_of_mem _ (List.mem_append_right _ h)) (by decide +kernel))
set_option maxRecDepth 20000 in
theorem gX5_tale_X5_testSpan : GoodIn wsX5_tale (va_wsS RX5 64 yX5_testSpan wsX5_testSpan) := goodIn_app (goodIn_of _ (by decide +kernel)) ggX5_tale_X5_testSpan
theorem dX5_tale_0 : decode cX5_tale 0 = .ok (.iload_n 1, 1) := by decide +kernel
theorem dX5_tale_1 : decode cX5_tale 1 = .ok (.iload_n 2, 1) := by decide +kernel
theorem dX5_tale_2 : decode cX5_tale 2 = .ok (.invokestatic 106, 3) := by decide +kernel
theorem dX5_tale_5 : decode cX5_tale 5 = .ok (.iload_n 3, 1) := by decide +kernel
theorem dX5_tale_6 : decode cX5_tale 6 = .ok (.iload 4, 2) := by decide +kernel
theorem dX5_tale_8 : decode cX5_tale 8 = .ok (.bipush (-50), 2) := by decide +kernel
theorem dX5_tale_10 : decode cX5_tale 10 = .ok (.bipush 50, 2) := by decide +kernel
theorem dX5_tale_12 : decode cX5_tale 12 = .ok (.invokestatic 64, 3) := by decide +kernel
theorem dX5_tale_15 : decode cX5_tale 15 = .ok (.aload_n 0, 1) := by decide +kernel
theorem dX5_tale_16 : decode cX5_tale 16 = .ok (.getfield 25, 3) := by decide +kernel
theorem dX5_tale_19 : decode cX5_tale 19 = .ok (.bipush 10, 2) := by decide +kernel
theorem dX5_tale_21 : decode cX5_tale 21 = .ok (.if_icmp .lt 13, 3) := by decide +kernel
theorem dX5_tale_24 : decode cX5_tale 24 = .ok (.new 68, 3) := by decide +kernel
theorem dX5_tale_27 : decode cX5_tale 27 = .ok (.dup, 1) := by decide +kernel
theorem dX5_tale_28 : decode cX5_tale 28 = .ok (.ldc 110, 2) := by decide +kernel
theorem dX5_tale_30 : decode cX5_tale 30 = .ok (.invokespecial 72, 3) := by decide +kernel
theorem dX5_tale_33 : decode cX5_tale 33 = .ok (.athrow, 1) := by decide +kernel
theorem dX5_tale_34 : decode cX5_tale 34 = .ok (.aload_n 0, 1) := by decide +kernel
theorem dX5_tale_35 : decode cX5_tale 35 = .ok (.getfield 17, 3) := by decide +kernel
theorem dX5_tale_38 : decode cX5_tale 38 = .ok (.aload_n 0, 1) := by decide +kernel
theorem dX5_tale_39 : decode cX5_tale 39 = .ok (.getfield 25, 3) := by decide +kernel
theorem dX5_tale_42 : decode cX5_tale 42 = .ok (.aaload, 1) := by decide +kernel
theorem dX5_tale_43 : decode cX5_tale 43 = .ok (.astore 5, 2) := by decide +kernel
theorem dX5_tale_45 : decode cX5_tale 45 = .ok (.aload 5, 2) := by decide +kernel
theorem dX5_tale_47 : decode cX5_tale 47 = .ok (.iload_n 1, 1) := by decide +kernel
theorem dX5_tale_48 : decode cX5_tale 48 = .ok (.putfield 112, 3) := by decide +kernel
theorem dX5_tale_51 : decode cX5_tale 51 = .ok (.aload 5, 2) := by decide +kernel
theorem dX5_tale_53 : decode cX5_tale 53 = .ok (.iload_n 2, 1) := by decide +kernel
theorem dX5_tale_54 : decode cX5_tale 54 = .ok (.putfield 113, 3) := by decide +kernel
theorem dX5_tale_57 : decode cX5_tale 57 = .ok (.aload 5, 2) := by decide +kernel
theorem dX5_tale_59 : decode cX5_tale 59 = .ok (.iload_n 3, 1) := by decide +kernel
theorem dX5_tale_60 : decode cX5_tale 60 = .ok (.putfield 116, 3) := by decide +kernel
theorem dX5_tale_63 : decode cX5_tale 63 = .ok (.aload 5, 2) := by decide +kernel
theorem dX5_tale_65 : decode cX5_tale 65 = .ok (.iload 4, 2) := by decide +kernel
theorem dX5_tale_67 : decode cX5_tale 67 = .ok (.putfield 117, 3) := by decide +kernel
theorem dX5_tale_70 : decode cX5_tale 70 = .ok (.aload_n 0, 1) := by decide +kernel
theorem dX5_tale_71 : decode cX5_tale 71 = .ok (.dup, 1) := by decide +kernel
theorem dX5_tale_72 : decode cX5_tale 72 = .ok (.getfield 25, 3) := by decide +kernel
theorem dX5_tale_75 : decode cX5_tale 75 = .ok (.iconst 1, 1) := by decide +kernel
theorem dX5_tale_76 : decode cX5_tale 76 = .ok (.iadd, 1) := by decide +kernel
theorem dX5_tale_77 : decode cX5_tale 77 = .ok (.putfield 25, 3) := by decide +kernel
theorem dX5_tale_80 : decode cX5_tale 80 = .ok (.aload_n 0, 1) := by decide +kernel
theorem dX5_tale_81 : decode cX5_tale 81 = .ok (.iconst 0, 1) := by decide +kernel
theorem dX5_tale_82 : decode cX5_tale 82 = .ok (.putfield 35, 3) := by decide +kernel
theorem dX5_tale_85 : decode cX5_tale 85 = .ok (.aload_n 0, 1) := by decide +kernel
theorem dX5_tale_86 : decode cX5_tale 86 = .ok (.getfield 25, 3) := by decide +kernel
theorem dX5_tale_89 : decode cX5_tale 89 = .ok (.iconst 1, 1) := by decide +kernel
theorem dX5_tale_90 : decode cX5_tale 90 = .ok (.isub, 1) := by decide +kernel
theorem dX5_tale_91 : decode cX5_tale 91 = .ok (.ireturn, 1) := by decide +kernel
theorem dX5_hush_0 : decode cX5_hush 0 = .ok (.aload_n 0, 1) := by decide +kernel
theorem dX5_hush_1 : decode cX5_hush 1 = .ok (.getfield 25, 3) := by decide +kernel
theorem dX5_hush_4 : decode cX5_hush 4 = .ok (.istore_n 1, 1) := by decide +kernel
theorem dX5_hush_5 : decode cX5_hush 5 = .ok (.aload_n 0, 1) := by decide +kernel
theorem dX5_hush_6 : decode cX5_hush 6 = .ok (.iconst 0, 1) := by decide +kernel
theorem dX5_hush_7 : decode cX5_hush 7 = .ok (.putfield 25, 3) := by decide +kernel
theorem dX5_hush_10 : decode cX5_hush 10 = .ok (.aload_n 0, 1) := by decide +kernel
theorem dX5_hush_11 : decode cX5_hush 11 = .ok (.iconst 0, 1) := by decide +kernel
theorem dX5_hush_12 : decode cX5_hush 12 = .ok (.putfield 35, 3) := by decide +kernel
theorem dX5_hush_15 : decode cX5_hush 15 = .ok (.iload_n 1, 1) := by decide +kernel
theorem dX5_hush_16 : decode cX5_hush 16 = .ok (.ireturn, 1) := by decide +kernel
set_option maxRecDepth 20000 in
theorem ggX5_ways_X5_reckon : GoodIn wsX5_ways wsX5_reckon := goodIn_r _ [7, 8, 9, 10, 1, 11, 12, 13, 14, 15, 16, 17, 18, 19, 20, 21, 22, 23, 24, 25, 26, 27, 28, 29, 30, 31, 32, 33, 34, 35, 36, 37, 38, 39, 40, 41, 42, 43, 44, 45, 46, 47, 48, 49, 50, 51, 52, 53, 54, 55, 56, 57, 58, 59, 60, 61, 62, 63, 64, 65, 66, 67, 68, 69, 70, 71, 72, 73, 74, 75, 76, 77, 78, 79, 80, 81, 82, 83, 84, 85, 86, 87, 88, 89, 90, 91, 92, 93, 94, 95, 96, 97, 98, 99, 100, 101, 102, 103, 104, 105, 106, 107, 108, 109, 110, 111, 112, 113, 114, 115, 116, 117, 118, 119, 120, 121, 6, 122, 123, 124, 125, 126, 127, 128, 129, 130, 131, 132, 133, 134, 135, 136, 137, 138, 139, 140, 141, 142, 143, 144, 145, 146, 147, 148, 149, 150, 151, 152, 153, 154, 155, 156, 157, 158, 159, 160, 161, 162, 163, 164, 165, 166, 167, 168, 169, 170, 171, 172, 173, 174, 175, 176, 177, 178, 179, 180, 181, 182, 183, 184, 185, 186, 187, 188, 189, 190, 191, 192, 193, 194, 195, 196, 197, 198, 199, 200, 201, 202, 203, 204] (by decide +kernel) (by decide +kernel)
set_option maxRecDepth 20000 in
theorem gX5_ways_X5_reckon : GoodIn wsX5_ways (wsV RX5 118 RX5 yX5_reckon wsX5_reckon) := goodIn_app (goodIn_of _ (by decide +kernel)) ggX5_ways_X5_reckon
theorem dX5_ways_0 : decode cX5_ways 0 = .ok (.aload_n 0, 1) := by decide +kernel
theorem dX5_ways_1 : decode cX5_ways 1 = .ok (.iconst 0, 1) := by decide +kernel
theorem dX5_ways_2 : decode cX5_ways 2 = .ok (.iconst (-1), 1) := by decide +kernel
theorem dX5_ways_3 : decode cX5_ways 3 = .ok (.invokevirtual 118, 3) := by decide +kernel
theorem dX5_ways_6 : decode cX5_ways 6 = .ok (.aload_n 0, 1) := by decide +kernel
theorem dX5_ways_7 : decode cX5_ways 7 = .ok (.getfield 31, 3) := by decide +kernel
theorem dX5_ways_10 : decode cX5_ways 10 = .ok (.getfield 121, 3) := by decide +kernel
theorem dX5_ways_13 : decode cX5_ways 13 = .ok (.lreturn, 1) := by decide +kernel
set_option maxRecDepth 20000 in
theorem ggX5_span_X5_speedOf : GoodIn wzX5_span wsX5_speedOf := goodIn_ca (goodIn_r _ [5, 6, 7, 4, 8, 9, 10, 11, 12, 13, 14, 15, 16, 17, 18, 19, 20, 21, 22, 23, 24, 25, 26, 27, 28, 29, 30, 31, 32, 33, 201, 202, 203, 204, 205, 206, 207, 208, 209, 210, 211, 212, 213, 214, 215, 216, 217, 218, 219, 220, 221, 222, 223, 224] (by decide +kernel) (by decide +kernel)) (goodIn_sub (fun _ h => List.mem_cons_of_mem _ (List.mem_append_left _ (List.mem_append_right _ h))) (by decide +kernel))
set_option maxRecDepth 20000 in
theorem gX5_span_X5_speedOf : GoodIn wzX5_span (wsV RX5 94 RX5 yX5_speedOf wsX5_speedOf) := goodIn_app (goodIn_of _ (by decide +kernel)) ggX5_span_X5_speedOf
set_option maxRecDepth 20000 in
theorem ggX5_span_X5_allTales : GoodIn wzX5_span wsX5_allTales := goodIn_r _ [37, 38, 201, 202, 203, 204, 205, 206, 207, 208] (by decide +kernel) (by decide +kernel)
set_option maxRecDepth 20000 in
theorem gX5_span_X5_allTales : GoodIn wzX5_span (wsV RX5 125 RX5 yX5_allTales wsX5_allTales) := goodIn_app (goodIn_of _ (by decide +kernel)) ggX5_span_X5_allTales
set_option maxRecDepth 20000 in
theorem ggX5_span_X5_reckon : GoodIn wzX5_span wsX5_reckon := goodIn_r _ [42, 43, 44, 45, 18, 46, 47, 38, 48, 49, 50, 51, 52, 53, 54, 55, 56, 57, 29, 58, 31, 32, 33, 59, 60, 61, 62, 63, 64, 65, 66, 67, 68, 69, 70, 71, 72, 73, 74, 75, 76, 19, 20, 21, 22, 23, 24, 25, 26, 27, 28, 30, 77, 78, 79, 80, 81, 82, 83, 84, 85, 86, 87, 88, 89, 90, 91, 92, 93, 94, 95, 96, 97, 98, 99, 100, 101, 102, 103, 104, 105, 106, 107, 108, 109, 110, 111, 112, 113, 114, 115, 116, 117, 118, 119, 120, 121, 122, 123, 124, 125, 126, 127, 128, 129, 130, 131, 132, 133, 134, 135, 136, 137, 138, 139, 140, 4, 141, 142, 143, 144, 145, 146, 147, 148, 149, 150, 151, 152, 153, 154, 155, 156, 157, 158, 159, 160, 161, 162, 163, 164, 165, 166, 167, 168, 169, 170, 171, 172, 173, 174, 175, 176, 177, 178, 179, 180, 181, 182, 183, 184, 201, 202, 203, 204, 205, 206, 207, 208, 209, 210, 211, 212, 213, 214, 225, 226, 227, 228, 229, 230, 231, 232, 233, 215, 216, 217, 218, 219, 220, 221, 222, 223, 224, 234, 235, 236, 237, 238, 239] (by decide +kernel) (by decide +kernel)
set_option maxRecDepth 20000 in
theorem gX5_span_X5_reckon : GoodIn wzX5_span (wsV RX5 118 RX5 yX5_reckon wsX5_reckon) := goodIn_app (goodIn_of _ (by decide +kernel)) ggX5_span_X5_reckon
set_option maxRecDepth 20000 in
theorem ggX5_span_X5_testWay : GoodIn wzX5_span wzX5_testWay := goodIn_ca (goodIn_r _ [188, 189, 190, 18, 191, 201, 202, 203, 204, 205, 206, 207, 208, 209, 210, 211, 212, 213, 214] (by decide +kernel) (by decide +kernel)) (goodIn_sub (fun _ h => List.mem_cons_of_mem _ (List.mem_append_right _ h)) (by decide +kernel))
set_option maxRecDepth 20000 in
theorem gX5_span_X5_testWay : GoodIn wzX5_span (wsV RX5 129 RX5 yX5_testWay wzX5_testWay) := goodIn_app (goodIn_of _ (by decide +kernel)) ggX5_span_X5_testWay
set_option maxRecDepth 20000 in
theorem ggX5_span_X3_greatestSeen : GoodIn wzX5_span wsX3_greatestSeen := goodIn_r _ [195, 196, 181, 182, 67, 183, 71, 234, 235, 236, 237, 238, 239] (by decide +kernel) (by decide +kernel)
set_option maxRecDepth 20000 in
theorem gX5_span_X3_greatestSeen : GoodIn wzX5_span (wsV RX5 132 RX3 yX3_greatestSeen wsX3_greatestSeen) := goodIn_app (goodIn_of _ (by decide +kernel)) ggX5_span_X3_greatestSeen
set_option maxRecDepth 20000 in
theorem ggX5_span_X3_leastSeen : GoodIn wzX5_span wsX3_leastSeen := goodIn_r _ [200, 196, 181, 182, 67, 183, 71, 234, 235, 236, 237, 238, 239] (by decide +kernel) (by decide +kernel)
set_option maxRecDepth 20000 in
theorem gX5_span_X3_leastSeen : GoodIn wzX5_span (wsV RX5 135 RX3 yX3_leastSeen wsX3_leastSeen) := goodIn_app (goodIn_of _ (by decide +kernel)) ggX5_span_X3_leastSeen
theorem dX5_span_0 : decode cX5_span 0 = .ok (.aload_n 0, 1) := by decide +kernel
theorem dX5_span_1 : decode cX5_span 1 = .ok (.iload_n 1, 1) := by decide +kernel
theorem dX5_span_2 : decode cX5_span 2 = .ok (.iload_n 2, 1) := by decide +kernel
theorem dX5_span_3 : decode cX5_span 3 = .ok (.invokevirtual 94, 3) := by decide +kernel
theorem dX5_span_6 : decode cX5_span 6 = .ok (.astore 5, 2) := by decide +kernel
theorem dX5_span_8 : decode cX5_span 8 = .ok (.aload_n 0, 1) := by decide +kernel
theorem dX5_span_9 : decode cX5_span 9 = .ok (.iload 4, 2) := by decide +kernel
theorem dX5_span_11 : decode cX5_span 11 = .ok (.ifCond .eq 10, 3) := by decide +kernel
theorem dX5_span_14 : decode cX5_span 14 = .ok (.aload_n 0, 1) := by decide +kernel
theorem dX5_span_15 : decode cX5_span 15 = .ok (.invokevirtual 125, 3) := by decide +kernel
theorem dX5_span_18 : decode cX5_span 18 = .ok (.goto 4, 3) := by decide +kernel
theorem dX5_span_21 : decode cX5_span 21 = .ok (.iconst 0, 1) := by decide +kernel
theorem dX5_span_22 : decode cX5_span 22 = .ok (.iconst (-1), 1) := by decide +kernel
theorem dX5_span_23 : decode cX5_span 23 = .ok (.invokevirtual 118, 3) := by decide +kernel
theorem dX5_span_26 : decode cX5_span 26 = .ok (.aload_n 0, 1) := by decide +kernel
theorem dX5_span_27 : decode cX5_span 27 = .ok (.invokevirtual 129, 3) := by decide +kernel
theorem dX5_span_30 : decode cX5_span 30 = .ok (.iload_n 3, 1) := by decide +kernel
theorem dX5_span_31 : decode cX5_span 31 = .ok (.ifCond .eq 11, 3) := by decide +kernel
theorem dX5_span_34 : decode cX5_span 34 = .ok (.aload 5, 2) := by decide +kernel
theorem dX5_span_36 : decode cX5_span 36 = .ok (.invokevirtual 132, 3) := by decide +kernel
theorem dX5_span_39 : decode cX5_span 39 = .ok (.goto 8, 3) := by decide +kernel
theorem dX5_span_42 : decode cX5_span 42 = .ok (.aload 5, 2) := by decide +kernel
theorem dX5_span_44 : decode cX5_span 44 = .ok (.invokevirtual 135, 3) := by decide +kernel
theorem dX5_span_47 : decode cX5_span 47 = .ok (.ireturn, 1) := by decide +kernel
set_option maxRecDepth 20000 in
theorem ggX5_fit_X5_allTales : GoodIn wsX5_fit wsX5_allTales := goodIn_r _ [7, 8, 170, 171, 172, 173, 174, 175, 176, 177] (by decide +kernel) (by decide +kernel)
set_option maxRecDepth 20000 in
theorem gX5_fit_X5_allTales : GoodIn wsX5_fit (wsV RX5 125 RX5 yX5_allTales wsX5_allTales) := goodIn_app (goodIn_of _ (by decide +kernel)) ggX5_fit_X5_allTales
set_option maxRecDepth 20000 in
theorem ggX5_fit_X5_reckon : GoodIn wsX5_fit wsX5_reckon := goodIn_r _ [12, 13, 14, 15, 1, 16, 17, 8, 18, 19, 20, 21, 22, 23, 24, 25, 26, 27, 28, 29, 30, 31, 32, 33, 34, 35, 36, 37, 38, 39, 40, 41, 42, 43, 44, 45, 46, 47, 48, 49, 50, 51, 52, 53, 54, 55, 56, 57, 58, 59, 60, 61, 62, 63, 64, 65, 66, 67, 68, 69, 70, 71, 72, 73, 74, 75, 76, 77, 78, 79, 80, 81, 82, 83, 84, 85, 86, 87, 88, 89, 90, 91, 92, 93, 94, 95, 96, 97, 98, 99, 100, 101, 102, 103, 104, 105, 106, 107, 108, 109, 110, 111, 112, 113, 114, 115, 116, 117, 118, 119, 120, 121, 122, 123, 124, 125, 6, 126, 127, 128, 129, 130, 131, 132, 133, 134, 135, 136, 137, 138, 139, 140, 141, 142, 143, 144, 145, 146, 147, 148, 149, 150, 151, 152, 153, 154, 155, 156, 157, 158, 159, 160, 161, 162, 163, 164, 165, 166, 167, 168, 169, 170, 171, 172, 173, 174, 175, 176, 177, 178, 179, 180, 181, 182, 183, 184, 185, 186, 187, 188, 189, 190, 191, 192, 193, 194, 195, 196, 197, 198, 199, 200, 201, 202, 203, 204, 205, 206, 207, 208] (by decide +kernel) (by decide +kernel)
set_option maxRecDepth 20000 in
theorem gX5_fit_X5_reckon : GoodIn wsX5_fit (wsV RX5 118 RX5 yX5_reckon wsX5_reckon) := goodIn_app (goodIn_of _ (by decide +kernel)) ggX5_fit_X5_reckon
theorem dX5_fit_0 : decode cX5_fit 0 = .ok (.aload_n 0, 1) := by decide +kernel
theorem dX5_fit_1 : decode cX5_fit 1 = .ok (.iload_n 1, 1) := by decide +kernel
theorem dX5_fit_2 : decode cX5_fit 2 = .ok (.aload_n 0, 1) := by decide +kernel
theorem dX5_fit_3 : decode cX5_fit 3 = .ok (.invokevirtual 125, 3) := by decide +kernel
theorem dX5_fit_6 : decode cX5_fit 6 = .ok (.iand, 1) := by decide +kernel
theorem dX5_fit_7 : decode cX5_fit 7 = .ok (.iconst (-1), 1) := by decide +kernel
theorem dX5_fit_8 : decode cX5_fit 8 = .ok (.invokevirtual 118, 3) := by decide +kernel
theorem dX5_fit_11 : decode cX5_fit 11 = .ok (.aload_n 0, 1) := by decide +kernel
theorem dX5_fit_12 : decode cX5_fit 12 = .ok (.getfield 31, 3) := by decide +kernel
theorem dX5_fit_15 : decode cX5_fit 15 = .ok (.getfield 121, 3) := by decide +kernel
theorem dX5_fit_18 : decode cX5_fit 18 = .ok (.lconst 0, 1) := by decide +kernel
theorem dX5_fit_19 : decode cX5_fit 19 = .ok (.lcmp, 1) := by decide +kernel
theorem dX5_fit_20 : decode cX5_fit 20 = .ok (.ifCond .le 7, 3) := by decide +kernel
theorem dX5_fit_23 : decode cX5_fit 23 = .ok (.iconst 1, 1) := by decide +kernel
theorem dX5_fit_24 : decode cX5_fit 24 = .ok (.goto 4, 3) := by decide +kernel
theorem dX5_fit_27 : decode cX5_fit 27 = .ok (.iconst 0, 1) := by decide +kernel
theorem dX5_fit_28 : decode cX5_fit 28 = .ok (.ireturn, 1) := by decide +kernel
set_option maxRecDepth 20000 in
theorem ggX5_wrong_X5_reckon : GoodIn wsX5_wrong wsX5_reckon := goodIn_r _ [7, 8, 9, 10, 1, 11, 12, 13, 14, 15, 16, 17, 18, 19, 20, 21, 22, 23, 24, 25, 26, 27, 28, 29, 30, 31, 32, 33, 34, 35, 36, 37, 38, 39, 40, 41, 42, 43, 44, 45, 46, 47, 48, 49, 50, 51, 52, 53, 54, 55, 56, 57, 58, 59, 60, 61, 62, 63, 64, 65, 66, 67, 68, 69, 70, 71, 72, 73, 74, 75, 76, 77, 78, 79, 80, 81, 82, 83, 84, 85, 86, 87, 88, 89, 90, 91, 92, 93, 94, 95, 96, 97, 98, 99, 100, 101, 102, 103, 104, 105, 106, 107, 108, 109, 110, 111, 112, 113, 114, 115, 116, 117, 118, 119, 120, 121, 6, 122, 123, 124, 125, 126, 127, 128, 129, 130, 131, 132, 133, 134, 135, 136, 137, 138, 139, 140, 141, 142, 143, 144, 145, 146, 147, 148, 149, 150, 151, 152, 153, 154, 155, 156, 157, 158, 159, 160, 161, 162, 163, 164, 165, 166, 167, 168, 169, 170, 171, 172, 173, 174, 175, 176, 177, 178, 179, 180, 181, 182, 183, 184, 185, 186, 187, 188, 189, 190, 191, 192, 193, 194, 195, 196, 197, 198, 199, 200, 201, 202, 203, 204] (by decide +kernel) (by decide +kernel)
set_option maxRecDepth 20000 in
theorem gX5_wrong_X5_reckon : GoodIn wsX5_wrong (wsV RX5 118 RX5 yX5_reckon wsX5_reckon) := goodIn_app (goodIn_of _ (by decide +kernel)) ggX5_wrong_X5_reckon
theorem dX5_wrong_0 : decode cX5_wrong 0 = .ok (.aload_n 0, 1) := by decide +kernel
theorem dX5_wrong_1 : decode cX5_wrong 1 = .ok (.iconst 0, 1) := by decide +kernel
theorem dX5_wrong_2 : decode cX5_wrong 2 = .ok (.iconst (-1), 1) := by decide +kernel
theorem dX5_wrong_3 : decode cX5_wrong 3 = .ok (.invokevirtual 118, 3) := by decide +kernel
theorem dX5_wrong_6 : decode cX5_wrong 6 = .ok (.aload_n 0, 1) := by decide +kernel
theorem dX5_wrong_7 : decode cX5_wrong 7 = .ok (.getfield 31, 3) := by decide +kernel
theorem dX5_wrong_10 : decode cX5_wrong 10 = .ok (.getfield 138, 3) := by decide +kernel
theorem dX5_wrong_13 : decode cX5_wrong 13 = .ok (.iconst (-1), 1) := by decide +kernel
theorem dX5_wrong_14 : decode cX5_wrong 14 = .ok (.if_icmp .ne 7, 3) := by decide +kernel
theorem dX5_wrong_17 : decode cX5_wrong 17 = .ok (.iconst (-1), 1) := by decide +kernel
theorem dX5_wrong_18 : decode cX5_wrong 18 = .ok (.goto 14, 3) := by decide +kernel
theorem dX5_wrong_21 : decode cX5_wrong 21 = .ok (.aload_n 0, 1) := by decide +kernel
theorem dX5_wrong_22 : decode cX5_wrong 22 = .ok (.getfield 31, 3) := by decide +kernel
theorem dX5_wrong_25 : decode cX5_wrong 25 = .ok (.getfield 138, 3) := by decide +kernel
theorem dX5_wrong_28 : decode cX5_wrong 28 = .ok (.sipush 1024, 3) := by decide +kernel
theorem dX5_wrong_31 : decode cX5_wrong 31 = .ok (.idiv, 1) := by decide +kernel
theorem dX5_wrong_32 : decode cX5_wrong 32 = .ok (.ireturn, 1) := by decide +kernel
set_option maxRecDepth 20000 in
theorem ggX5_which_X5_reckon : GoodIn wsX5_which wsX5_reckon := goodIn_r _ [7, 8, 9, 10, 1, 11, 12, 13, 14, 15, 16, 17, 18, 19, 20, 21, 22, 23, 24, 25, 26, 27, 28, 29, 30, 31, 32, 33, 34, 35, 36, 37, 38, 39, 40, 41, 42, 43, 44, 45, 46, 47, 48, 49, 50, 51, 52, 53, 54, 55, 56, 57, 58, 59, 60, 61, 62, 63, 64, 65, 66, 67, 68, 69, 70, 71, 72, 73, 74, 75, 76, 77, 78, 79, 80, 81, 82, 83, 84, 85, 86, 87, 88, 89, 90, 91, 92, 93, 94, 95, 96, 97, 98, 99, 100, 101, 102, 103, 104, 105, 106, 107, 108, 109, 110, 111, 112, 113, 114, 115, 116, 117, 118, 119, 120, 121, 6, 122, 123, 124, 125, 126, 127, 128, 129, 130, 131, 132, 133, 134, 135, 136, 137, 138, 139, 140, 141, 142, 143, 144, 145, 146, 147, 148, 149, 150, 151, 152, 153, 154, 155, 156, 157, 158, 159, 160, 161, 162, 163, 164, 165, 166, 167, 168, 169, 170, 171, 172, 173, 174, 175, 176, 177, 178, 179, 180, 181, 182, 183, 184, 185, 186, 187, 188, 189, 190, 191, 192, 193, 194, 195, 196, 197, 198, 199, 200, 201, 202, 203, 204] (by decide +kernel) (by decide +kernel)
set_option maxRecDepth 20000 in
theorem gX5_which_X5_reckon : GoodIn wsX5_which (wsV RX5 118 RX5 yX5_reckon wsX5_reckon) := goodIn_app (goodIn_of _ (by decide +kernel)) ggX5_which_X5_reckon
theorem dX5_which_0 : decode cX5_which 0 = .ok (.aload_n 0, 1) := by decide +kernel
theorem dX5_which_1 : decode cX5_which 1 = .ok (.iconst 0, 1) := by decide +kernel
theorem dX5_which_2 : decode cX5_which 2 = .ok (.iconst (-1), 1) := by decide +kernel
theorem dX5_which_3 : decode cX5_which 3 = .ok (.invokevirtual 118, 3) := by decide +kernel
theorem dX5_which_6 : decode cX5_which 6 = .ok (.aload_n 0, 1) := by decide +kernel
theorem dX5_which_7 : decode cX5_which 7 = .ok (.getfield 31, 3) := by decide +kernel
theorem dX5_which_10 : decode cX5_which 10 = .ok (.getfield 138, 3) := by decide +kernel
theorem dX5_which_13 : decode cX5_which 13 = .ok (.iconst (-1), 1) := by decide +kernel
theorem dX5_which_14 : decode cX5_which 14 = .ok (.if_icmp .ne 7, 3) := by decide +kernel
theorem dX5_which_17 : decode cX5_which 17 = .ok (.iconst (-1), 1) := by decide +kernel
theorem dX5_which_18 : decode cX5_which 18 = .ok (.goto 14, 3) := by decide +kernel
theorem dX5_which_21 : decode cX5_which 21 = .ok (.aload_n 0, 1) := by decide +kernel
theorem dX5_which_22 : decode cX5_which 22 = .ok (.getfield 31, 3) := by decide +kernel
theorem dX5_which_25 : decode cX5_which 25 = .ok (.getfield 138, 3) := by decide +kernel
theorem dX5_which_28 : decode cX5_which 28 = .ok (.sipush 1024, 3) := by decide +kernel
theorem dX5_which_31 : decode cX5_which 31 = .ok (.irem, 1) := by decide +kernel
theorem dX5_which_32 : decode cX5_which 32 = .ok (.ireturn, 1) := by decide +kernel
set_option maxRecDepth 20000 in
theorem ggX5_odds_X5_reckon : GoodIn wsX5_odds wsX5_reckon := goodIn_r _ [10, 11, 12, 13, 1, 14, 15, 16, 17, 18, 19, 3, 4, 5, 20, 21, 22, 23, 24, 25, 26, 27, 28, 29, 30, 31, 32, 33, 34, 35, 36, 37, 38, 39, 40, 41, 42, 43, 44, 45, 46, 47, 48, 49, 50, 51, 52, 53, 54, 55, 56, 57, 58, 59, 60, 61, 62, 63, 64, 65, 66, 67, 68, 69, 70, 71, 72, 73, 74, 75, 76, 77, 78, 79, 80, 81, 82, 83, 84, 85, 86, 87, 88, 89, 90, 91, 92, 93, 94, 95, 96, 97, 98, 99, 100, 101, 102, 103, 104, 105, 106, 107, 108, 109, 110, 111, 112, 113, 114, 115, 116, 117, 118, 119, 120, 121, 9, 122, 123, 124, 125, 126, 127, 128, 129, 130, 131, 132, 133, 134, 135, 136, 137, 138, 139, 140, 141, 142, 143, 144, 145, 146, 147, 148, 149, 150, 151, 152, 153, 154, 155, 156, 157, 158, 159, 160, 161, 162, 163, 164, 165, 166, 167, 168, 169, 170, 171, 172, 173, 174, 175, 176, 177, 178, 179, 185, 186, 187, 188, 180, 181, 182, 183, 184, 189, 190, 191, 192, 193, 194, 195, 196, 197, 198, 199, 200, 201, 202, 203, 204] (by decide +kernel) (by decide +kernel)
set_option maxRecDepth 20000 in
theorem gX5_odds_X5_reckon : GoodIn wsX5_odds (wsV RX5 118 RX5 yX5_reckon wsX5_reckon) := goodIn_app (goodIn_of _ (by decide +kernel)) ggX5_odds_X5_reckon
theorem dX5_odds_0 : decode cX5_odds 0 = .ok (.aload_n 0, 1) := by decide +kernel
theorem dX5_odds_1 : decode cX5_odds 1 = .ok (.iconst 0, 1) := by decide +kernel
theorem dX5_odds_2 : decode cX5_odds 2 = .ok (.iconst (-1), 1) := by decide +kernel
theorem dX5_odds_3 : decode cX5_odds 3 = .ok (.invokevirtual 118, 3) := by decide +kernel
theorem dX5_odds_6 : decode cX5_odds 6 = .ok (.aload_n 0, 1) := by decide +kernel
theorem dX5_odds_7 : decode cX5_odds 7 = .ok (.getfield 31, 3) := by decide +kernel
theorem dX5_odds_10 : decode cX5_odds 10 = .ok (.getfield 121, 3) := by decide +kernel
theorem dX5_odds_13 : decode cX5_odds 13 = .ok (.lconst 0, 1) := by decide +kernel
theorem dX5_odds_14 : decode cX5_odds 14 = .ok (.lcmp, 1) := by decide +kernel
theorem dX5_odds_15 : decode cX5_odds 15 = .ok (.ifCond .le 5, 3) := by decide +kernel
theorem dX5_odds_18 : decode cX5_odds 18 = .ok (.iconst 0, 1) := by decide +kernel
theorem dX5_odds_19 : decode cX5_odds 19 = .ok (.ireturn, 1) := by decide +kernel
theorem dX5_odds_20 : decode cX5_odds 20 = .ok (.iconst 0, 1) := by decide +kernel
theorem dX5_odds_21 : decode cX5_odds 21 = .ok (.istore_n 1, 1) := by decide +kernel
theorem dX5_odds_22 : decode cX5_odds 22 = .ok (.iconst 0, 1) := by decide +kernel
theorem dX5_odds_23 : decode cX5_odds 23 = .ok (.istore_n 2, 1) := by decide +kernel
theorem dX5_odds_24 : decode cX5_odds 24 = .ok (.iload_n 2, 1) := by decide +kernel
theorem dX5_odds_25 : decode cX5_odds 25 = .ok (.aload_n 0, 1) := by decide +kernel
theorem dX5_odds_26 : decode cX5_odds 26 = .ok (.getfield 21, 3) := by decide +kernel
theorem dX5_odds_29 : decode cX5_odds 29 = .ok (.if_icmp .ge 49, 3) := by decide +kernel
theorem dX5_odds_32 : decode cX5_odds 32 = .ok (.aload_n 0, 1) := by decide +kernel
theorem dX5_odds_33 : decode cX5_odds 33 = .ok (.getfield 11, 3) := by decide +kernel
theorem dX5_odds_36 : decode cX5_odds 36 = .ok (.iload_n 2, 1) := by decide +kernel
theorem dX5_odds_37 : decode cX5_odds 37 = .ok (.aaload, 1) := by decide +kernel
theorem dX5_odds_38 : decode cX5_odds 38 = .ok (.getfield 87, 3) := by decide +kernel
theorem dX5_odds_41 : decode cX5_odds 41 = .ok (.ifCond .eq 31, 3) := by decide +kernel
theorem dX5_odds_44 : decode cX5_odds 44 = .ok (.aload_n 0, 1) := by decide +kernel
theorem dX5_odds_45 : decode cX5_odds 45 = .ok (.iconst 0, 1) := by decide +kernel
theorem dX5_odds_46 : decode cX5_odds 46 = .ok (.iload_n 2, 1) := by decide +kernel
theorem dX5_odds_47 : decode cX5_odds 47 = .ok (.invokevirtual 118, 3) := by decide +kernel
theorem dX5_odds_50 : decode cX5_odds 50 = .ok (.iload_n 1, 1) := by decide +kernel
theorem dX5_odds_51 : decode cX5_odds 51 = .ok (.aload_n 0, 1) := by decide +kernel
theorem dX5_odds_52 : decode cX5_odds 52 = .ok (.getfield 31, 3) := by decide +kernel
theorem dX5_odds_55 : decode cX5_odds 55 = .ok (.getfield 121, 3) := by decide +kernel
theorem dX5_odds_58 : decode cX5_odds 58 = .ok (.lconst 0, 1) := by decide +kernel
theorem dX5_odds_59 : decode cX5_odds 59 = .ok (.lcmp, 1) := by decide +kernel
theorem dX5_odds_60 : decode cX5_odds 60 = .ok (.ifCond .le 9, 3) := by decide +kernel
theorem dX5_odds_63 : decode cX5_odds 63 = .ok (.iconst 1, 1) := by decide +kernel
theorem dX5_odds_64 : decode cX5_odds 64 = .ok (.iload_n 2, 1) := by decide +kernel
theorem dX5_odds_65 : decode cX5_odds 65 = .ok (.ishl, 1) := by decide +kernel
theorem dX5_odds_66 : decode cX5_odds 66 = .ok (.goto 4, 3) := by decide +kernel
theorem dX5_odds_69 : decode cX5_odds 69 = .ok (.iconst 0, 1) := by decide +kernel
theorem dX5_odds_70 : decode cX5_odds 70 = .ok (.ior, 1) := by decide +kernel
theorem dX5_odds_71 : decode cX5_odds 71 = .ok (.istore_n 1, 1) := by decide +kernel
theorem dX5_odds_72 : decode cX5_odds 72 = .ok (.iinc 2 1, 3) := by decide +kernel
theorem dX5_odds_75 : decode cX5_odds 75 = .ok (.goto (-51), 3) := by decide +kernel
theorem dX5_odds_78 : decode cX5_odds 78 = .ok (.iload_n 1, 1) := by decide +kernel
theorem dX5_odds_79 : decode cX5_odds 79 = .ok (.ireturn, 1) := by decide +kernel
set_option maxRecDepth 20000 in
theorem ggX5_avoided_X5_carOf : GoodIn wzX5_avoided wsX5_carOf := goodIn_ca (goodIn_r _ [6, 7, 8, 9, 5, 10, 11, 12, 13, 14, 15, 16, 17, 18, 19, 198, 199, 200, 201, 202, 203, 204, 205, 206, 207, 208, 209, 210, 211] (by decide +kernel) (by decide +kernel)) (goodIn_sub (fun _ h => List.mem_cons_of_mem _ (List.mem_append_left _ (List.mem_append_left _ (List.mem_append_right _ h)))) (by decide +kernel))
set_option maxRecDepth 20000 in
theorem gX5_avoided_X5_carOf : GoodIn wzX5_avoided (wsV RX5 47 RX5 yX5_carOf wsX5_carOf) := goodIn_app (goodIn_of _ (by decide +kernel)) ggX5_avoided_X5_carOf
set_option maxRecDepth 20000 in
theorem ggX5_avoided_X5_testNumber : GoodIn wzX5_avoided wsX5_testNumber := goodIn_ca (goodIn_r _ [22, 23, 24] (by decide +kernel) (by decide +kernel)) (goodIn_sub (fun _ h => List.mem_cons_of_mem _ (List.mem_append_left _ (List.mem_append_right _ h))) (by decide +kernel))
set_option maxRecDepth 20000 in
theorem gX5_avoided_X5_testNumber : GoodIn wzX5_avoided (va_wsS RX5 51 yX5_testNumber wsX5_testNumber) := goodIn_app (goodIn_of _ (by decide +kernel)) ggX5_avoided_X5_testNumber
set_option maxRecDepth 20000 in
theorem ggX5_avoided_X5_reckon : GoodIn wzX5_avoided wsX5_reckon := goodIn_r _ [28, 29, 30, 31, 7, 32, 33, 34, 35, 36, 37, 38, 39, 40, 41, 42, 43, 44, 45, 46, 47, 48, 49, 50, 51, 52, 53, 54, 55, 56, 57, 58, 59, 60, 61, 62, 63, 64, 65, 66, 67, 13, 14, 15, 16, 17, 18, 19, 68, 69, 70, 71, 72, 73, 74, 75, 76, 77, 78, 79, 80, 81, 82, 83, 84, 85, 86, 87, 88, 89, 90, 91, 92, 93, 94, 95, 96, 97, 98, 99, 100, 101, 102, 103, 104, 105, 106, 107, 108, 109, 110, 111, 112, 113, 114, 115, 116, 117, 118, 119, 120, 121, 122, 123, 124, 125, 126, 127, 128, 129, 130, 131, 132, 133, 134, 135, 5, 136, 137, 138, 139, 140, 141, 142, 143, 144, 145, 146, 147, 148, 149, 150, 151, 152, 153, 154, 155, 156, 157, 158, 159, 160, 161, 162, 163, 164, 165, 166, 167, 168, 169, 170, 171, 172, 173, 174, 175, 176, 177, 178, 179, 198, 199, 200, 201, 202, 203, 204, 205, 206, 207, 208, 209, 210, 211, 212, 213, 214, 215, 216, 217, 218, 219, 220, 188, 189, 190, 191, 192, 193, 194, 195, 196, 197, 221, 222, 223, 224, 225, 226] (by decide +kernel) (by decide +kernel)
set_option maxRecDepth 20000 in
theorem gX5_avoided_X5_reckon : GoodIn wzX5_avoided (wsV RX5 118 RX5 yX5_reckon wsX5_reckon) := goodIn_app (goodIn_of _ (by decide +kernel)) ggX5_avoided_X5_reckon
set_option maxRecDepth 20000 in
theorem ggX5_avoided_X5_testWay : GoodIn wzX5_avoided wzX5_testWay := goodIn_ca (goodIn_r _ [183, 184, 185, 7, 186, 198, 199, 200, 201, 202, 203, 204, 205, 206, 207, 208, 209, 210, 211] (by decide +kernel) (by decide +kernel)) (goodIn_sub (fun _ h => List.mem_cons_of_mem _ (List.mem_append_right _ h)) (by decide +kernel))
set_option maxRecDepth 20000 in
theorem gX5_avoided_X5_testWay : GoodIn wzX5_avoided (wsV RX5 129 RX5 yX5_testWay wzX5_testWay) := goodIn_app (goodIn_of _ (by decide +kernel)) ggX5_avoided_X5_testWay
set_option maxRecDepth 20000 in
theorem ggX5_avoided_X3_isSeen : GoodIn wzX5_avoided wsX3_isSeen := goodIn_r _ [178, 62, 221, 222, 223, 224, 225, 226] (by decide +kernel) (by decide +kernel)
set_option maxRecDepth 20000 in
theorem gX5_avoided_X3_isSeen : GoodIn wzX5_avoided (wsV RX5 145 RX3 yX3_isSeen wsX3_isSeen) := goodIn_app (goodIn_of _ (by decide +kernel)) ggX5_avoided_X3_isSeen
theorem dX5_avoided_0 : decode cX5_avoided 0 = .ok (.aload_n 0, 1) := by decide +kernel
theorem dX5_avoided_1 : decode cX5_avoided 1 = .ok (.iload_n 1, 1) := by decide +kernel
theorem dX5_avoided_2 : decode cX5_avoided 2 = .ok (.invokevirtual 47, 3) := by decide +kernel
theorem dX5_avoided_5 : decode cX5_avoided 5 = .ok (.getfield 141, 3) := by decide +kernel
theorem dX5_avoided_8 : decode cX5_avoided 8 = .ok (.astore 4, 2) := by decide +kernel
theorem dX5_avoided_10 : decode cX5_avoided 10 = .ok (.iload_n 2, 1) := by decide +kernel
theorem dX5_avoided_11 : decode cX5_avoided 11 = .ok (.iconst 0, 1) := by decide +kernel
theorem dX5_avoided_12 : decode cX5_avoided 12 = .ok (.sipush 2000, 3) := by decide +kernel
theorem dX5_avoided_15 : decode cX5_avoided 15 = .ok (.invokestatic 51, 3) := by decide +kernel
theorem dX5_avoided_18 : decode cX5_avoided 18 = .ok (.iload_n 3, 1) := by decide +kernel
theorem dX5_avoided_19 : decode cX5_avoided 19 = .ok (.iconst 0, 1) := by decide +kernel
theorem dX5_avoided_20 : decode cX5_avoided 20 = .ok (.sipush 150, 3) := by decide +kernel
theorem dX5_avoided_23 : decode cX5_avoided 23 = .ok (.invokestatic 51, 3) := by decide +kernel
theorem dX5_avoided_26 : decode cX5_avoided 26 = .ok (.aload_n 0, 1) := by decide +kernel
theorem dX5_avoided_27 : decode cX5_avoided 27 = .ok (.iconst 0, 1) := by decide +kernel
theorem dX5_avoided_28 : decode cX5_avoided 28 = .ok (.iconst (-1), 1) := by decide +kernel
theorem dX5_avoided_29 : decode cX5_avoided 29 = .ok (.invokevirtual 118, 3) := by decide +kernel
theorem dX5_avoided_32 : decode cX5_avoided 32 = .ok (.aload_n 0, 1) := by decide +kernel
theorem dX5_avoided_33 : decode cX5_avoided 33 = .ok (.invokevirtual 129, 3) := by decide +kernel
theorem dX5_avoided_36 : decode cX5_avoided 36 = .ok (.iconst 1, 1) := by decide +kernel
theorem dX5_avoided_37 : decode cX5_avoided 37 = .ok (.istore 5, 2) := by decide +kernel
theorem dX5_avoided_39 : decode cX5_avoided 39 = .ok (.iconst 0, 1) := by decide +kernel
theorem dX5_avoided_40 : decode cX5_avoided 40 = .ok (.istore 6, 2) := by decide +kernel
theorem dX5_avoided_42 : decode cX5_avoided 42 = .ok (.bipush (-50), 2) := by decide +kernel
theorem dX5_avoided_44 : decode cX5_avoided 44 = .ok (.istore 7, 2) := by decide +kernel
theorem dX5_avoided_46 : decode cX5_avoided 46 = .ok (.iload 7, 2) := by decide +kernel
theorem dX5_avoided_48 : decode cX5_avoided 48 = .ok (.bipush 50, 2) := by decide +kernel
theorem dX5_avoided_50 : decode cX5_avoided 50 = .ok (.if_icmp .gt 74, 3) := by decide +kernel
theorem dX5_avoided_53 : decode cX5_avoided 53 = .ok (.aload 4, 2) := by decide +kernel
theorem dX5_avoided_55 : decode cX5_avoided 55 = .ok (.iload 7, 2) := by decide +kernel
theorem dX5_avoided_57 : decode cX5_avoided 57 = .ok (.invokevirtual 145, 3) := by decide +kernel
theorem dX5_avoided_60 : decode cX5_avoided 60 = .ok (.ifCond .eq 58, 3) := by decide +kernel
theorem dX5_avoided_63 : decode cX5_avoided 63 = .ok (.bipush 51, 2) := by decide +kernel
theorem dX5_avoided_65 : decode cX5_avoided 65 = .ok (.iload 7, 2) := by decide +kernel
theorem dX5_avoided_67 : decode cX5_avoided 67 = .ok (.imul, 1) := by decide +kernel
theorem dX5_avoided_68 : decode cX5_avoided 68 = .ok (.iload 7, 2) := by decide +kernel
theorem dX5_avoided_70 : decode cX5_avoided 70 = .ok (.imul, 1) := by decide +kernel
theorem dX5_avoided_71 : decode cX5_avoided 71 = .ok (.iload_n 2, 1) := by decide +kernel
theorem dX5_avoided_72 : decode cX5_avoided 72 = .ok (.iload_n 3, 1) := by decide +kernel
theorem dX5_avoided_73 : decode cX5_avoided 73 = .ok (.imul, 1) := by decide +kernel
theorem dX5_avoided_74 : decode cX5_avoided 74 = .ok (.if_icmp .gt 7, 3) := by decide +kernel
theorem dX5_avoided_77 : decode cX5_avoided 77 = .ok (.iconst 1, 1) := by decide +kernel
theorem dX5_avoided_78 : decode cX5_avoided 78 = .ok (.goto 4, 3) := by decide +kernel
theorem dX5_avoided_81 : decode cX5_avoided 81 = .ok (.iconst 0, 1) := by decide +kernel
theorem dX5_avoided_82 : decode cX5_avoided 82 = .ok (.istore 8, 2) := by decide +kernel
theorem dX5_avoided_84 : decode cX5_avoided 84 = .ok (.iload 5, 2) := by decide +kernel
theorem dX5_avoided_86 : decode cX5_avoided 86 = .ok (.ifCond .eq 12, 3) := by decide +kernel
theorem dX5_avoided_89 : decode cX5_avoided 89 = .ok (.iload 8, 2) := by decide +kernel
theorem dX5_avoided_91 : decode cX5_avoided 91 = .ok (.ifCond .eq 7, 3) := by decide +kernel
theorem dX5_avoided_94 : decode cX5_avoided 94 = .ok (.iconst 1, 1) := by decide +kernel
theorem dX5_avoided_95 : decode cX5_avoided 95 = .ok (.goto 4, 3) := by decide +kernel
theorem dX5_avoided_98 : decode cX5_avoided 98 = .ok (.iconst 0, 1) := by decide +kernel
theorem dX5_avoided_99 : decode cX5_avoided 99 = .ok (.istore 5, 2) := by decide +kernel
theorem dX5_avoided_101 : decode cX5_avoided 101 = .ok (.iload 6, 2) := by decide +kernel
theorem dX5_avoided_103 : decode cX5_avoided 103 = .ok (.ifCond .ne 8, 3) := by decide +kernel
theorem dX5_avoided_106 : decode cX5_avoided 106 = .ok (.iload 8, 2) := by decide +kernel
theorem dX5_avoided_108 : decode cX5_avoided 108 = .ok (.ifCond .eq 7, 3) := by decide +kernel
theorem dX5_avoided_111 : decode cX5_avoided 111 = .ok (.iconst 1, 1) := by decide +kernel
theorem dX5_avoided_112 : decode cX5_avoided 112 = .ok (.goto 4, 3) := by decide +kernel
theorem dX5_avoided_115 : decode cX5_avoided 115 = .ok (.iconst 0, 1) := by decide +kernel
theorem dX5_avoided_116 : decode cX5_avoided 116 = .ok (.istore 6, 2) := by decide +kernel
theorem dX5_avoided_118 : decode cX5_avoided 118 = .ok (.iinc 7 1, 3) := by decide +kernel
theorem dX5_avoided_121 : decode cX5_avoided 121 = .ok (.goto (-75), 3) := by decide +kernel
theorem dX5_avoided_124 : decode cX5_avoided 124 = .ok (.iload 5, 2) := by decide +kernel
theorem dX5_avoided_126 : decode cX5_avoided 126 = .ok (.ifCond .eq 7, 3) := by decide +kernel
theorem dX5_avoided_129 : decode cX5_avoided 129 = .ok (.iconst 2, 1) := by decide +kernel
theorem dX5_avoided_130 : decode cX5_avoided 130 = .ok (.goto 13, 3) := by decide +kernel
theorem dX5_avoided_133 : decode cX5_avoided 133 = .ok (.iload 6, 2) := by decide +kernel
theorem dX5_avoided_135 : decode cX5_avoided 135 = .ok (.ifCond .eq 7, 3) := by decide +kernel
theorem dX5_avoided_138 : decode cX5_avoided 138 = .ok (.iconst 1, 1) := by decide +kernel
theorem dX5_avoided_139 : decode cX5_avoided 139 = .ok (.goto 4, 3) := by decide +kernel
theorem dX5_avoided_142 : decode cX5_avoided 142 = .ok (.iconst 0, 1) := by decide +kernel
theorem dX5_avoided_143 : decode cX5_avoided 143 = .ok (.ireturn, 1) := by decide +kernel
set_option maxRecDepth 20000 in
theorem ggX5_look_X5_skidOf : GoodIn wzX5_look wsX5_skidOf := goodIn_ca (goodIn_r _ [12, 13, 14, 15, 16, 22, 23, 24, 25, 26, 27, 28, 29] (by decide +kernel) (by decide +kernel)) (goodIn_sub (fun _ h => List.mem_cons_of_mem _ (List.mem_append_right _ h)) (by decide +kernel))
set_option maxRecDepth 20000 in
theorem gX5_look_X5_skidOf : GoodIn wzX5_look (wsV RX5 90 RX5 yX5_skidOf wsX5_skidOf) := goodIn_app (goodIn_of _ (by decide +kernel)) ggX5_look_X5_skidOf
theorem dX5_look_0 : decode cX5_look 0 = .ok (.aload_n 0, 1) := by decide +kernel
theorem dX5_look_1 : decode cX5_look 1 = .ok (.iload_n 1, 1) := by decide +kernel
theorem dX5_look_2 : decode cX5_look 2 = .ok (.invokevirtual 90, 3) := by decide +kernel
theorem dX5_look_5 : decode cX5_look 5 = .ok (.astore_n 3, 1) := by decide +kernel
theorem dX5_look_6 : decode cX5_look 6 = .ok (.iload_n 2, 1) := by decide +kernel
theorem dX5_look_7 : decode cX5_look 7 = .ok (.tableswitch 74 0 4 #[33, 38, 51, 56, 61], 33) := by decide +kernel
theorem dX5_look_40 : decode cX5_look 40 = .ok (.aload_n 3, 1) := by decide +kernel
theorem dX5_look_41 : decode cX5_look 41 = .ok (.getfield 75, 3) := by decide +kernel
theorem dX5_look_44 : decode cX5_look 44 = .ok (.ireturn, 1) := by decide +kernel
theorem dX5_look_45 : decode cX5_look 45 = .ok (.aload_n 3, 1) := by decide +kernel
theorem dX5_look_46 : decode cX5_look 46 = .ok (.getfield 78, 3) := by decide +kernel
theorem dX5_look_49 : decode cX5_look 49 = .ok (.ifCond .eq 7, 3) := by decide +kernel
theorem dX5_look_52 : decode cX5_look 52 = .ok (.iconst 1, 1) := by decide +kernel
theorem dX5_look_53 : decode cX5_look 53 = .ok (.goto 4, 3) := by decide +kernel
theorem dX5_look_56 : decode cX5_look 56 = .ok (.iconst 0, 1) := by decide +kernel
theorem dX5_look_57 : decode cX5_look 57 = .ok (.ireturn, 1) := by decide +kernel
theorem dX5_look_58 : decode cX5_look 58 = .ok (.aload_n 3, 1) := by decide +kernel
theorem dX5_look_59 : decode cX5_look 59 = .ok (.getfield 81, 3) := by decide +kernel
theorem dX5_look_62 : decode cX5_look 62 = .ok (.ireturn, 1) := by decide +kernel
theorem dX5_look_63 : decode cX5_look 63 = .ok (.aload_n 3, 1) := by decide +kernel
theorem dX5_look_64 : decode cX5_look 64 = .ok (.getfield 84, 3) := by decide +kernel
theorem dX5_look_67 : decode cX5_look 67 = .ok (.ireturn, 1) := by decide +kernel
theorem dX5_look_68 : decode cX5_look 68 = .ok (.aload_n 3, 1) := by decide +kernel
theorem dX5_look_69 : decode cX5_look 69 = .ok (.getfield 87, 3) := by decide +kernel
theorem dX5_look_72 : decode cX5_look 72 = .ok (.ifCond .eq 7, 3) := by decide +kernel
theorem dX5_look_75 : decode cX5_look 75 = .ok (.iconst 1, 1) := by decide +kernel
theorem dX5_look_76 : decode cX5_look 76 = .ok (.goto 4, 3) := by decide +kernel
theorem dX5_look_79 : decode cX5_look 79 = .ok (.iconst 0, 1) := by decide +kernel
theorem dX5_look_80 : decode cX5_look 80 = .ok (.ireturn, 1) := by decide +kernel
theorem dX5_look_81 : decode cX5_look 81 = .ok (.new 149, 3) := by decide +kernel
theorem dX5_look_84 : decode cX5_look 84 = .ok (.dup, 1) := by decide +kernel
theorem dX5_look_85 : decode cX5_look 85 = .ok (.ldc 151, 2) := by decide +kernel
theorem dX5_look_87 : decode cX5_look 87 = .ok (.invokespecial 153, 3) := by decide +kernel
theorem dX5_look_90 : decode cX5_look 90 = .ok (.athrow, 1) := by decide +kernel
set_option maxRecDepth 20000 in
theorem ggX5_can_X5_speedOf : GoodIn wsX5_can wsX5_speedOf := goodIn_ca (goodIn_r _ [5, 6, 7, 4, 8, 9, 10, 11, 12, 13, 14, 15, 16, 17, 18, 19, 20, 21, 22, 23, 24, 25, 26, 27, 28, 29, 30, 31, 32, 33, 182, 183, 184, 185, 186, 187, 188, 189, 190, 191, 192, 193, 194, 195, 196, 197, 198, 199, 200, 201, 202, 203, 204, 205] (by decide +kernel) (by decide +kernel)) (goodIn_sub (fun _ h => List.mem_cons_of_mem _ (List.mem_append_right _ h)) (by decide +kernel))
set_option maxRecDepth 20000 in
theorem gX5_can_X5_speedOf : GoodIn wsX5_can (wsV RX5 94 RX5 yX5_speedOf wsX5_speedOf) := goodIn_app (goodIn_of _ (by decide +kernel)) ggX5_can_X5_speedOf
set_option maxRecDepth 20000 in
theorem ggX5_can_X5_reckon : GoodIn wsX5_can wsX5_reckon := goodIn_r _ [37, 38, 39, 40, 18, 41, 42, 43, 44, 45, 46, 47, 48, 49, 50, 51, 52, 53, 29, 54, 31, 32, 33, 55, 56, 57, 58, 59, 60, 61, 62, 63, 64, 65, 66, 67, 68, 69, 70, 71, 72, 19, 20, 21, 22, 23, 24, 25, 26, 27, 28, 30, 73, 74, 75, 76, 77, 78, 79, 80, 81, 82, 83, 84, 85, 86, 87, 88, 89, 90, 91, 92, 93, 94, 95, 96, 97, 98, 99, 100, 101, 102, 103, 104, 105, 106, 107, 108, 109, 110, 111, 112, 113, 114, 115, 116, 117, 118, 119, 120, 121, 122, 123, 124, 125, 126, 127, 128, 129, 130, 131, 132, 133, 134, 135, 136, 4, 137, 138, 139, 140, 141, 142, 143, 144, 145, 146, 147, 148, 149, 150, 151, 152, 153, 154, 155, 156, 157, 158, 159, 160, 161, 162, 163, 164, 165, 166, 167, 168, 169, 170, 171, 172, 173, 174, 175, 176, 177, 178, 179, 180, 182, 183, 184, 185, 186, 187, 188, 189, 190, 191, 192, 193, 194, 195, 206, 207, 208, 209, 210, 211, 212, 213, 214, 196, 197, 198, 199, 200, 201, 202, 203, 204, 205, 215, 216, 217, 218, 219, 220] (by decide +kernel) (by decide +kernel)
set_option maxRecDepth 20000 in
theorem gX5_can_X5_reckon : GoodIn wsX5_can (wsV RX5 118 RX5 yX5_reckon wsX5_reckon) := goodIn_app (goodIn_of _ (by decide +kernel)) ggX5_can_X5_reckon
set_option maxRecDepth 20000 in
theorem ggX5_can_X3_isSeen : GoodIn wsX5_can wsX3_isSeen := goodIn_r _ [179, 67, 215, 216, 217, 218, 219, 220] (by decide +kernel) (by decide +kernel)
set_option maxRecDepth 20000 in
theorem gX5_can_X3_isSeen : GoodIn wsX5_can (wsV RX5 145 RX3 yX3_isSeen wsX3_isSeen) := goodIn_app (goodIn_of _ (by decide +kernel)) ggX5_can_X3_isSeen
theorem dX5_can_0 : decode cX5_can 0 = .ok (.aload_n 0, 1) := by decide +kernel
theorem dX5_can_1 : decode cX5_can 1 = .ok (.iload_n 1, 1) := by decide +kernel
theorem dX5_can_2 : decode cX5_can 2 = .ok (.iload_n 2, 1) := by decide +kernel
theorem dX5_can_3 : decode cX5_can 3 = .ok (.invokevirtual 94, 3) := by decide +kernel
theorem dX5_can_6 : decode cX5_can 6 = .ok (.astore 4, 2) := by decide +kernel
theorem dX5_can_8 : decode cX5_can 8 = .ok (.aload_n 0, 1) := by decide +kernel
theorem dX5_can_9 : decode cX5_can 9 = .ok (.iconst 0, 1) := by decide +kernel
theorem dX5_can_10 : decode cX5_can 10 = .ok (.iconst (-1), 1) := by decide +kernel
theorem dX5_can_11 : decode cX5_can 11 = .ok (.invokevirtual 118, 3) := by decide +kernel
theorem dX5_can_14 : decode cX5_can 14 = .ok (.aload 4, 2) := by decide +kernel
theorem dX5_can_16 : decode cX5_can 16 = .ok (.iload_n 3, 1) := by decide +kernel
theorem dX5_can_17 : decode cX5_can 17 = .ok (.invokevirtual 145, 3) := by decide +kernel
theorem dX5_can_20 : decode cX5_can 20 = .ok (.ireturn, 1) := by decide +kernel
set_option maxRecDepth 20000 in
theorem ggX5_count_X5_countingSkids : GoodIn wsX5_count wsX5_countingSkids := goodIn_r _ [11, 1, 12, 13, 14, 15, 16, 17, 18, 19, 20, 21, 38, 39, 40, 41, 42] (by decide +kernel) (by decide +kernel)
set_option maxRecDepth 20000 in
theorem gX5_count_X5_countingSkids : GoodIn wsX5_count (wsV RX5 154 RX5 yX5_countingSkids wsX5_countingSkids) := goodIn_app (goodIn_of _ (by decide +kernel)) ggX5_count_X5_countingSkids
theorem dX5_count_0 : decode cX5_count 0 = .ok (.iload_n 1, 1) := by decide +kernel
theorem dX5_count_1 : decode cX5_count 1 = .ok (.tableswitch 72 0 4 #[35, 40, 45, 50, 61], 35) := by decide +kernel
theorem dX5_count_36 : decode cX5_count 36 = .ok (.aload_n 0, 1) := by decide +kernel
theorem dX5_count_37 : decode cX5_count 37 = .ok (.getfield 21, 3) := by decide +kernel
theorem dX5_count_40 : decode cX5_count 40 = .ok (.ireturn, 1) := by decide +kernel
theorem dX5_count_41 : decode cX5_count 41 = .ok (.aload_n 0, 1) := by decide +kernel
theorem dX5_count_42 : decode cX5_count 42 = .ok (.invokevirtual 154, 3) := by decide +kernel
theorem dX5_count_45 : decode cX5_count 45 = .ok (.ireturn, 1) := by decide +kernel
theorem dX5_count_46 : decode cX5_count 46 = .ok (.aload_n 0, 1) := by decide +kernel
theorem dX5_count_47 : decode cX5_count 47 = .ok (.getfield 25, 3) := by decide +kernel
theorem dX5_count_50 : decode cX5_count 50 = .ok (.ireturn, 1) := by decide +kernel
theorem dX5_count_51 : decode cX5_count 51 = .ok (.aload_n 0, 1) := by decide +kernel
theorem dX5_count_52 : decode cX5_count 52 = .ok (.getfield 31, 3) := by decide +kernel
theorem dX5_count_55 : decode cX5_count 55 = .ok (.getfield 157, 3) := by decide +kernel
theorem dX5_count_58 : decode cX5_count 58 = .ok (.getfield 55, 3) := by decide +kernel
theorem dX5_count_61 : decode cX5_count 61 = .ok (.ireturn, 1) := by decide +kernel
theorem dX5_count_62 : decode cX5_count 62 = .ok (.aload_n 0, 1) := by decide +kernel
theorem dX5_count_63 : decode cX5_count 63 = .ok (.getfield 31, 3) := by decide +kernel
theorem dX5_count_66 : decode cX5_count 66 = .ok (.getfield 161, 3) := by decide +kernel
theorem dX5_count_69 : decode cX5_count 69 = .ok (.getfield 55, 3) := by decide +kernel
theorem dX5_count_72 : decode cX5_count 72 = .ok (.ireturn, 1) := by decide +kernel
theorem dX5_count_73 : decode cX5_count 73 = .ok (.iconst (-1), 1) := by decide +kernel
theorem dX5_count_74 : decode cX5_count 74 = .ok (.ireturn, 1) := by decide +kernel
theorem dX5_countingSkids_0 : decode cX5_countingSkids 0 = .ok (.iconst 0, 1) := by decide +kernel
theorem dX5_countingSkids_1 : decode cX5_countingSkids 1 = .ok (.istore_n 1, 1) := by decide +kernel
theorem dX5_countingSkids_2 : decode cX5_countingSkids 2 = .ok (.iconst 0, 1) := by decide +kernel
theorem dX5_countingSkids_3 : decode cX5_countingSkids 3 = .ok (.istore_n 2, 1) := by decide +kernel
theorem dX5_countingSkids_4 : decode cX5_countingSkids 4 = .ok (.iload_n 2, 1) := by decide +kernel
theorem dX5_countingSkids_5 : decode cX5_countingSkids 5 = .ok (.aload_n 0, 1) := by decide +kernel
theorem dX5_countingSkids_6 : decode cX5_countingSkids 6 = .ok (.getfield 21, 3) := by decide +kernel
theorem dX5_countingSkids_9 : decode cX5_countingSkids 9 = .ok (.if_icmp .ge 29, 3) := by decide +kernel
theorem dX5_countingSkids_12 : decode cX5_countingSkids 12 = .ok (.iload_n 1, 1) := by decide +kernel
theorem dX5_countingSkids_13 : decode cX5_countingSkids 13 = .ok (.aload_n 0, 1) := by decide +kernel
theorem dX5_countingSkids_14 : decode cX5_countingSkids 14 = .ok (.getfield 11, 3) := by decide +kernel
theorem dX5_countingSkids_17 : decode cX5_countingSkids 17 = .ok (.iload_n 2, 1) := by decide +kernel
theorem dX5_countingSkids_18 : decode cX5_countingSkids 18 = .ok (.aaload, 1) := by decide +kernel
theorem dX5_countingSkids_19 : decode cX5_countingSkids 19 = .ok (.getfield 87, 3) := by decide +kernel
theorem dX5_countingSkids_22 : decode cX5_countingSkids 22 = .ok (.ifCond .eq 7, 3) := by decide +kernel
theorem dX5_countingSkids_25 : decode cX5_countingSkids 25 = .ok (.iconst 1, 1) := by decide +kernel
theorem dX5_countingSkids_26 : decode cX5_countingSkids 26 = .ok (.goto 4, 3) := by decide +kernel
theorem dX5_countingSkids_29 : decode cX5_countingSkids 29 = .ok (.iconst 0, 1) := by decide +kernel
theorem dX5_countingSkids_30 : decode cX5_countingSkids 30 = .ok (.iadd, 1) := by decide +kernel
theorem dX5_countingSkids_31 : decode cX5_countingSkids 31 = .ok (.istore_n 1, 1) := by decide +kernel
theorem dX5_countingSkids_32 : decode cX5_countingSkids 32 = .ok (.iinc 2 1, 3) := by decide +kernel
theorem dX5_countingSkids_35 : decode cX5_countingSkids 35 = .ok (.goto (-31), 3) := by decide +kernel
theorem dX5_countingSkids_38 : decode cX5_countingSkids 38 = .ok (.iload_n 1, 1) := by decide +kernel
theorem dX5_countingSkids_39 : decode cX5_countingSkids 39 = .ok (.ireturn, 1) := by decide +kernel
theorem dX5_allTales_0 : decode cX5_allTales 0 = .ok (.iconst 1, 1) := by decide +kernel
theorem dX5_allTales_1 : decode cX5_allTales 1 = .ok (.aload_n 0, 1) := by decide +kernel
theorem dX5_allTales_2 : decode cX5_allTales 2 = .ok (.getfield 25, 3) := by decide +kernel
theorem dX5_allTales_5 : decode cX5_allTales 5 = .ok (.ishl, 1) := by decide +kernel
theorem dX5_allTales_6 : decode cX5_allTales 6 = .ok (.iconst 1, 1) := by decide +kernel
theorem dX5_allTales_7 : decode cX5_allTales 7 = .ok (.isub, 1) := by decide +kernel
theorem dX5_allTales_8 : decode cX5_allTales 8 = .ok (.ireturn, 1) := by decide +kernel
theorem dX5_testCar_0 : decode cX5_testCar 0 = .ok (.iload_n 0, 1) := by decide +kernel
theorem dX5_testCar_1 : decode cX5_testCar 1 = .ok (.ifCond .lt 8, 3) := by decide +kernel
theorem dX5_testCar_4 : decode cX5_testCar 4 = .ok (.iload_n 0, 1) := by decide +kernel
theorem dX5_testCar_5 : decode cX5_testCar 5 = .ok (.iconst 2, 1) := by decide +kernel
theorem dX5_testCar_6 : decode cX5_testCar 6 = .ok (.if_icmp .lt 13, 3) := by decide +kernel
theorem dX5_testCar_9 : decode cX5_testCar 9 = .ok (.new 164, 3) := by decide +kernel
theorem dX5_testCar_12 : decode cX5_testCar 12 = .ok (.dup, 1) := by decide +kernel
theorem dX5_testCar_13 : decode cX5_testCar 13 = .ok (.ldc 166, 2) := by decide +kernel
theorem dX5_testCar_15 : decode cX5_testCar 15 = .ok (.invokespecial 168, 3) := by decide +kernel
theorem dX5_testCar_18 : decode cX5_testCar 18 = .ok (.athrow, 1) := by decide +kernel
theorem dX5_testCar_19 : decode cX5_testCar 19 = .ok (.return_, 1) := by decide +kernel
set_option maxRecDepth 20000 in
theorem ggX5_testSpeed_X5_testCar : GoodIn wsX5_testSpeed wsX5_testCar := goodIn_ca (goodIn_r _ [6, 1, 2] (by decide +kernel) (by decide +kernel)) (goodIn_sub (fun _ h => List.mem_cons_of_mem _ (List.mem_append_right _ h)) (by decide +kernel))
set_option maxRecDepth 20000 in
theorem gX5_testSpeed_X5_testCar : GoodIn wsX5_testSpeed (va_wsS RX5 60 yX5_testCar wsX5_testCar) := goodIn_app (goodIn_of _ (by decide +kernel)) ggX5_testSpeed_X5_testCar
theorem dX5_testSpeed_0 : decode cX5_testSpeed 0 = .ok (.iload_n 0, 1) := by decide +kernel
theorem dX5_testSpeed_1 : decode cX5_testSpeed 1 = .ok (.invokestatic 60, 3) := by decide +kernel
theorem dX5_testSpeed_4 : decode cX5_testSpeed 4 = .ok (.iload_n 1, 1) := by decide +kernel
theorem dX5_testSpeed_5 : decode cX5_testSpeed 5 = .ok (.ifCond .lt 8, 3) := by decide +kernel
theorem dX5_testSpeed_8 : decode cX5_testSpeed 8 = .ok (.iload_n 1, 1) := by decide +kernel
theorem dX5_testSpeed_9 : decode cX5_testSpeed 9 = .ok (.iconst 2, 1) := by decide +kernel
theorem dX5_testSpeed_10 : decode cX5_testSpeed 10 = .ok (.if_icmp .le 13, 3) := by decide +kernel
theorem dX5_testSpeed_13 : decode cX5_testSpeed 13 = .ok (.new 164, 3) := by decide +kernel
theorem dX5_testSpeed_16 : decode cX5_testSpeed 16 = .ok (.dup, 1) := by decide +kernel
theorem dX5_testSpeed_17 : decode cX5_testSpeed 17 = .ok (.ldc 169, 2) := by decide +kernel
theorem dX5_testSpeed_19 : decode cX5_testSpeed 19 = .ok (.invokespecial 168, 3) := by decide +kernel
theorem dX5_testSpeed_22 : decode cX5_testSpeed 22 = .ok (.athrow, 1) := by decide +kernel
theorem dX5_testSpeed_23 : decode cX5_testSpeed 23 = .ok (.return_, 1) := by decide +kernel
theorem dX5_testNumber_0 : decode cX5_testNumber 0 = .ok (.iload_n 0, 1) := by decide +kernel
theorem dX5_testNumber_1 : decode cX5_testNumber 1 = .ok (.iload_n 1, 1) := by decide +kernel
theorem dX5_testNumber_2 : decode cX5_testNumber 2 = .ok (.if_icmp .lt 8, 3) := by decide +kernel
theorem dX5_testNumber_5 : decode cX5_testNumber 5 = .ok (.iload_n 0, 1) := by decide +kernel
theorem dX5_testNumber_6 : decode cX5_testNumber 6 = .ok (.iload_n 2, 1) := by decide +kernel
theorem dX5_testNumber_7 : decode cX5_testNumber 7 = .ok (.if_icmp .le 13, 3) := by decide +kernel
theorem dX5_testNumber_10 : decode cX5_testNumber 10 = .ok (.new 171, 3) := by decide +kernel
theorem dX5_testNumber_13 : decode cX5_testNumber 13 = .ok (.dup, 1) := by decide +kernel
theorem dX5_testNumber_14 : decode cX5_testNumber 14 = .ok (.ldc 173, 2) := by decide +kernel
theorem dX5_testNumber_16 : decode cX5_testNumber 16 = .ok (.invokespecial 175, 3) := by decide +kernel
theorem dX5_testNumber_19 : decode cX5_testNumber 19 = .ok (.athrow, 1) := by decide +kernel
theorem dX5_testNumber_20 : decode cX5_testNumber 20 = .ok (.return_, 1) := by decide +kernel
theorem dX5_testSpan_0 : decode cX5_testSpan 0 = .ok (.iload_n 0, 1) := by decide +kernel
theorem dX5_testSpan_1 : decode cX5_testSpan 1 = .ok (.iload_n 2, 1) := by decide +kernel
theorem dX5_testSpan_2 : decode cX5_testSpan 2 = .ok (.if_icmp .lt 13, 3) := by decide +kernel
theorem dX5_testSpan_5 : decode cX5_testSpan 5 = .ok (.iload_n 0, 1) := by decide +kernel
theorem dX5_testSpan_6 : decode cX5_testSpan 6 = .ok (.iload_n 1, 1) := by decide +kernel
theorem dX5_testSpan_7 : decode cX5_testSpan 7 = .ok (.if_icmp .gt 8, 3) := by decide +kernel
theorem dX5_testSpan_10 : decode cX5_testSpan 10 = .ok (.iload_n 1, 1) := by decide +kernel
theorem dX5_testSpan_11 : decode cX5_testSpan 11 = .ok (.iload_n 3, 1) := by decide +kernel
theorem dX5_testSpan_12 : decode cX5_testSpan 12 = .ok (.if_icmp .le 13, 3) := by decide +kernel
theorem dX5_testSpan_15 : decode cX5_testSpan 15 = .ok (.new 171, 3) := by decide +kernel
theorem dX5_testSpan_18 : decode cX5_testSpan 18 = .ok (.dup, 1) := by decide +kernel
theorem dX5_testSpan_19 : decode cX5_testSpan 19 = .ok (.ldc 176, 2) := by decide +kernel
theorem dX5_testSpan_21 : decode cX5_testSpan 21 = .ok (.invokespecial 175, 3) := by decide +kernel
theorem dX5_testSpan_24 : decode cX5_testSpan 24 = .ok (.athrow, 1) := by decide +kernel
theorem dX5_testSpan_25 : decode cX5_testSpan 25 = .ok (.return_, 1) := by decide +kernel
theorem dX5_testWay_0 : decode cX5_testWay 0 = .ok (.aload_n 0, 1) := by decide +kernel
theorem dX5_testWay_1 : decode cX5_testWay 1 = .ok (.getfield 31, 3) := by decide +kernel
theorem dX5_testWay_4 : decode cX5_testWay 4 = .ok (.getfield 121, 3) := by decide +kernel
theorem dX5_testWay_7 : decode cX5_testWay 7 = .ok (.lconst 0, 1) := by decide +kernel
theorem dX5_testWay_8 : decode cX5_testWay 8 = .ok (.lcmp, 1) := by decide +kernel
theorem dX5_testWay_9 : decode cX5_testWay 9 = .ok (.ifCond .ne 13, 3) := by decide +kernel
theorem dX5_testWay_12 : decode cX5_testWay 12 = .ok (.new 149, 3) := by decide +kernel
theorem dX5_testWay_15 : decode cX5_testWay 15 = .ok (.dup, 1) := by decide +kernel
theorem dX5_testWay_16 : decode cX5_testWay 16 = .ok (.ldc 178, 2) := by decide +kernel
theorem dX5_testWay_18 : decode cX5_testWay 18 = .ok (.invokespecial 153, 3) := by decide +kernel
theorem dX5_testWay_21 : decode cX5_testWay 21 = .ok (.athrow, 1) := by decide +kernel
theorem dX5_testWay_22 : decode cX5_testWay 22 = .ok (.return_, 1) := by decide +kernel
set_option maxRecDepth 20000 in
theorem ggX5_carOf_X5_testCar : GoodIn wsX5_carOf wsX5_testCar := goodIn_ca (goodIn_r _ [5, 6, 7] (by decide +kernel) (by decide +kernel)) (goodIn_sub (fun _ h => List.mem_cons_of_mem _ (List.mem_append_right _ h)) (by decide +kernel))
set_option maxRecDepth 20000 in
theorem gX5_carOf_X5_testCar : GoodIn wsX5_carOf (va_wsS RX5 60 yX5_testCar wsX5_testCar) := goodIn_app (goodIn_of _ (by decide +kernel)) ggX5_carOf_X5_testCar
set_option maxRecDepth 20000 in
theorem ggX5_carOf_X1_pick : GoodIn wsX5_carOf wsX1_pick := goodIn_r _ [12, 13, 14, 23, 24, 25, 26, 27, 28] (by decide +kernel) (by decide +kernel)
set_option maxRecDepth 20000 in
theorem gX5_carOf_X1_pick : GoodIn wsX5_carOf (wsV RX5 180 RX1 yX1_pick wsX1_pick) := goodIn_app (goodIn_of _ (by decide +kernel)) ggX5_carOf_X1_pick
theorem dX5_carOf_0 : decode cX5_carOf 0 = .ok (.iload_n 1, 1) := by decide +kernel
theorem dX5_carOf_1 : decode cX5_carOf 1 = .ok (.invokestatic 60, 3) := by decide +kernel
theorem dX5_carOf_4 : decode cX5_carOf 4 = .ok (.aload_n 0, 1) := by decide +kernel
theorem dX5_carOf_5 : decode cX5_carOf 5 = .ok (.getfield 31, 3) := by decide +kernel
theorem dX5_carOf_8 : decode cX5_carOf 8 = .ok (.iload_n 1, 1) := by decide +kernel
theorem dX5_carOf_9 : decode cX5_carOf 9 = .ok (.invokevirtual 180, 3) := by decide +kernel
theorem dX5_carOf_12 : decode cX5_carOf 12 = .ok (.areturn, 1) := by decide +kernel
set_option maxRecDepth 20000 in
theorem ggX5_speedOf_X5_testSpeed : GoodIn wsX5_speedOf wsX5_testSpeed := goodIn_ca (goodIn_r _ [4, 5, 6, 7, 8, 3, 9] (by decide +kernel) (by decide +kernel)) (goodIn_sub (fun _ h => List.mem_cons_of_mem _ (List.mem_append_right _ h)) (by decide +kernel))
set_option maxRecDepth 20000 in
theorem gX5_speedOf_X5_testSpeed : GoodIn wsX5_speedOf (va_wsS RX5 106 yX5_testSpeed wsX5_testSpeed) := goodIn_app (goodIn_of _ (by decide +kernel)) ggX5_speedOf_X5_testSpeed
set_option maxRecDepth 20000 in
theorem ggX5_speedOf_X5_carOf : GoodIn wsX5_speedOf wsX5_carOf := goodIn_ca (goodIn_r _ [13, 14, 7, 8, 3, 9, 5, 6, 15, 16, 17, 18, 19, 20, 21, 30, 31, 32, 33, 34, 35, 36, 37, 38, 39, 40, 41, 42, 43] (by decide +kernel) (by decide +kernel)) (goodIn_sub (fun _ h => List.mem_cons_of_mem _ (List.mem_append_right _ h)) (by decide +kernel))
set_option maxRecDepth 20000 in
theorem gX5_speedOf_X5_carOf : GoodIn wsX5_speedOf (wsV RX5 47 RX5 yX5_carOf wsX5_carOf) := goodIn_app (goodIn_of _ (by decide +kernel)) ggX5_speedOf_X5_carOf
set_option maxRecDepth 20000 in
theorem ggX5_speedOf_X0_pick : GoodIn wsX5_speedOf wsX0_pick := goodIn_r _ [26, 27, 28, 29, 44, 45, 46, 47, 48, 49, 50, 51, 52, 53] (by decide +kernel) (by decide +kernel)
set_option maxRecDepth 20000 in
theorem gX5_speedOf_X0_pick : GoodIn wsX5_speedOf (wsV RX5 183 RX0 yX0_pick wsX0_pick) := goodIn_app (goodIn_of _ (by decide +kernel)) ggX5_speedOf_X0_pick
theorem dX5_speedOf_0 : decode cX5_speedOf 0 = .ok (.iload_n 1, 1) := by decide +kernel
theorem dX5_speedOf_1 : decode cX5_speedOf 1 = .ok (.iload_n 2, 1) := by decide +kernel
theorem dX5_speedOf_2 : decode cX5_speedOf 2 = .ok (.invokestatic 106, 3) := by decide +kernel
theorem dX5_speedOf_5 : decode cX5_speedOf 5 = .ok (.aload_n 0, 1) := by decide +kernel
theorem dX5_speedOf_6 : decode cX5_speedOf 6 = .ok (.iload_n 1, 1) := by decide +kernel
theorem dX5_speedOf_7 : decode cX5_speedOf 7 = .ok (.invokevirtual 47, 3) := by decide +kernel
theorem dX5_speedOf_10 : decode cX5_speedOf 10 = .ok (.iload_n 2, 1) := by decide +kernel
theorem dX5_speedOf_11 : decode cX5_speedOf 11 = .ok (.invokevirtual 183, 3) := by decide +kernel
theorem dX5_speedOf_14 : decode cX5_speedOf 14 = .ok (.areturn, 1) := by decide +kernel
theorem dX5_skidOf_0 : decode cX5_skidOf 0 = .ok (.iload_n 1, 1) := by decide +kernel
theorem dX5_skidOf_1 : decode cX5_skidOf 1 = .ok (.ifCond .lt 11, 3) := by decide +kernel
theorem dX5_skidOf_4 : decode cX5_skidOf 4 = .ok (.iload_n 1, 1) := by decide +kernel
theorem dX5_skidOf_5 : decode cX5_skidOf 5 = .ok (.aload_n 0, 1) := by decide +kernel
theorem dX5_skidOf_6 : decode cX5_skidOf 6 = .ok (.getfield 21, 3) := by decide +kernel
theorem dX5_skidOf_9 : decode cX5_skidOf 9 = .ok (.if_icmp .lt 13, 3) := by decide +kernel
theorem dX5_skidOf_12 : decode cX5_skidOf 12 = .ok (.new 164, 3) := by decide +kernel
theorem dX5_skidOf_15 : decode cX5_skidOf 15 = .ok (.dup, 1) := by decide +kernel
theorem dX5_skidOf_16 : decode cX5_skidOf 16 = .ok (.ldc 186, 2) := by decide +kernel
theorem dX5_skidOf_18 : decode cX5_skidOf 18 = .ok (.invokespecial 168, 3) := by decide +kernel
theorem dX5_skidOf_21 : decode cX5_skidOf 21 = .ok (.athrow, 1) := by decide +kernel
theorem dX5_skidOf_22 : decode cX5_skidOf 22 = .ok (.aload_n 0, 1) := by decide +kernel
theorem dX5_skidOf_23 : decode cX5_skidOf 23 = .ok (.getfield 11, 3) := by decide +kernel
theorem dX5_skidOf_26 : decode cX5_skidOf 26 = .ok (.iload_n 1, 1) := by decide +kernel
theorem dX5_skidOf_27 : decode cX5_skidOf 27 = .ok (.aaload, 1) := by decide +kernel
theorem dX5_skidOf_28 : decode cX5_skidOf 28 = .ok (.areturn, 1) := by decide +kernel
set_option maxRecDepth 20000 in
theorem ggX5_reckon_X0_clear : GoodIn wsX5_reckon wsX0_clear := goodIn_r _ [19, 20, 21, 22, 23, 24, 25, 26, 27, 28, 29, 30, 31, 32, 33, 34, 35, 36, 37, 38, 39, 40, 184, 185, 186, 187, 188, 189, 190, 191, 192, 193, 194, 195, 196, 197, 198, 199] (by decide +kernel) (by decide +kernel)
set_option maxRecDepth 20000 in
theorem gX5_reckon_X0_clear : GoodIn wsX5_reckon (wsV RX5 188 RX0 yX0_clear wsX0_clear) := goodIn_app (goodIn_of _ (by decide +kernel)) ggX5_reckon_X0_clear
set_option maxRecDepth 20000 in
theorem ggX5_reckon_X1_pick : GoodIn wsX5_reckon wsX1_pick := goodIn_r _ [45, 46, 47, 169, 170, 171, 172, 173, 174] (by decide +kernel) (by decide +kernel)
set_option maxRecDepth 20000 in
theorem gX5_reckon_X1_pick : GoodIn wsX5_reckon (wsV RX5 180 RX1 yX1_pick wsX1_pick) := goodIn_app (goodIn_of _ (by decide +kernel)) ggX5_reckon_X1_pick
set_option maxRecDepth 20000 in
theorem ggX5_reckon_X0_pick : GoodIn wsX5_reckon wsX0_pick := goodIn_r _ [51, 20, 21, 22, 184, 185, 186, 187, 188, 189, 190, 191, 192, 193] (by decide +kernel) (by decide +kernel)
set_option maxRecDepth 20000 in
theorem gX5_reckon_X0_pick : GoodIn wsX5_reckon (wsV RX5 183 RX0 yX0_pick wsX0_pick) := goodIn_app (goodIn_of _ (by decide +kernel)) ggX5_reckon_X0_pick
set_option maxRecDepth 20000 in
theorem ggX5_reckon_X3_hear : GoodIn wsX5_reckon wsX3_hear := goodIn_r _ [55, 56, 57, 58, 59, 60, 31, 61, 62, 63, 64, 65, 40, 36, 37, 38, 39, 175, 176, 177, 178, 194, 195, 196, 197, 198, 199] (by decide +kernel) (by decide +kernel)
set_option maxRecDepth 20000 in
theorem gX5_reckon_X3_hear : GoodIn wsX5_reckon (wsV RX5 191 RX3 yX3_hear wsX3_hear) := goodIn_app (goodIn_of _ (by decide +kernel)) ggX5_reckon_X3_hear
set_option maxRecDepth 20000 in
theorem ggX5_reckon_X0_add : GoodIn wsX5_reckon wsX0_add := goodIn_r _ [69, 70, 25, 71, 26, 72, 27, 23, 24, 179, 180, 181, 182, 183, 184, 185, 186, 187, 188, 189, 190, 191, 192, 193] (by decide +kernel) (by decide +kernel)
set_option maxRecDepth 20000 in
theorem gX5_reckon_X0_add : GoodIn wsX5_reckon (wsV RX5 195 RX0 yX0_add wsX0_add) := goodIn_app (goodIn_of _ (by decide +kernel)) ggX5_reckon_X0_add
set_option maxRecDepth 20000 in
theorem ggX5_reckon_X1_reckon : GoodIn wsX5_reckon wsX1_reckon := goodIn_r _ [76, 77, 78, 47, 79, 46, 80, 81, 82, 83, 84, 85, 86, 44, 87, 88, 89, 90, 18, 91, 27, 22, 21, 92, 93, 94, 95, 25, 26, 96, 37, 38, 31, 39, 40, 97, 59, 60, 61, 62, 63, 64, 65, 98, 99, 100, 101, 102, 103, 104, 105, 20, 106, 107, 108, 109, 110, 23, 24, 111, 112, 113, 114, 115, 116, 117, 118, 119, 120, 121, 122, 123, 124, 125, 126, 58, 127, 128, 129, 130, 131, 132, 133, 134, 135, 136, 137, 138, 139, 140, 141, 142, 143, 144, 35, 145, 146, 147, 148, 149, 150, 151, 152, 153, 154, 155, 156, 157, 158, 159, 160, 169, 170, 171, 172, 173, 174, 184, 185, 186, 187, 188, 189, 190, 191, 192, 193, 194, 195, 196, 197, 198, 199] (by decide +kernel) (by decide +kernel)
set_option maxRecDepth 20000 in
theorem gX5_reckon_X1_reckon : GoodIn wsX5_reckon (wsV RX5 199 RX1 yX1_reckon wsX1_reckon) := goodIn_app (goodIn_of _ (by decide +kernel)) ggX5_reckon_X1_reckon
theorem dX5_reckon_0 : decode cX5_reckon 0 = .ok (.aload_n 0, 1) := by decide +kernel
theorem dX5_reckon_1 : decode cX5_reckon 1 = .ok (.getfield 35, 3) := by decide +kernel
theorem dX5_reckon_4 : decode cX5_reckon 4 = .ok (.ifCond .eq 20, 3) := by decide +kernel
theorem dX5_reckon_7 : decode cX5_reckon 7 = .ok (.iload_n 1, 1) := by decide +kernel
theorem dX5_reckon_8 : decode cX5_reckon 8 = .ok (.aload_n 0, 1) := by decide +kernel
theorem dX5_reckon_9 : decode cX5_reckon 9 = .ok (.getfield 39, 3) := by decide +kernel
theorem dX5_reckon_12 : decode cX5_reckon 12 = .ok (.if_icmp .ne 12, 3) := by decide +kernel
theorem dX5_reckon_15 : decode cX5_reckon 15 = .ok (.iload_n 2, 1) := by decide +kernel
theorem dX5_reckon_16 : decode cX5_reckon 16 = .ok (.aload_n 0, 1) := by decide +kernel
theorem dX5_reckon_17 : decode cX5_reckon 17 = .ok (.getfield 42, 3) := by decide +kernel
theorem dX5_reckon_20 : decode cX5_reckon 20 = .ok (.if_icmp .ne 4, 3) := by decide +kernel
theorem dX5_reckon_23 : decode cX5_reckon 23 = .ok (.return_, 1) := by decide +kernel
theorem dX5_reckon_24 : decode cX5_reckon 24 = .ok (.aload_n 0, 1) := by decide +kernel
theorem dX5_reckon_25 : decode cX5_reckon 25 = .ok (.getfield 31, 3) := by decide +kernel
theorem dX5_reckon_28 : decode cX5_reckon 28 = .ok (.getfield 157, 3) := by decide +kernel
theorem dX5_reckon_31 : decode cX5_reckon 31 = .ok (.invokevirtual 188, 3) := by decide +kernel
theorem dX5_reckon_34 : decode cX5_reckon 34 = .ok (.aload_n 0, 1) := by decide +kernel
theorem dX5_reckon_35 : decode cX5_reckon 35 = .ok (.getfield 31, 3) := by decide +kernel
theorem dX5_reckon_38 : decode cX5_reckon 38 = .ok (.getfield 161, 3) := by decide +kernel
theorem dX5_reckon_41 : decode cX5_reckon 41 = .ok (.invokevirtual 188, 3) := by decide +kernel
theorem dX5_reckon_44 : decode cX5_reckon 44 = .ok (.iconst 0, 1) := by decide +kernel
theorem dX5_reckon_45 : decode cX5_reckon 45 = .ok (.istore_n 3, 1) := by decide +kernel
theorem dX5_reckon_46 : decode cX5_reckon 46 = .ok (.iload_n 3, 1) := by decide +kernel
theorem dX5_reckon_47 : decode cX5_reckon 47 = .ok (.aload_n 0, 1) := by decide +kernel
theorem dX5_reckon_48 : decode cX5_reckon 48 = .ok (.getfield 25, 3) := by decide +kernel
theorem dX5_reckon_51 : decode cX5_reckon 51 = .ok (.if_icmp .ge 68, 3) := by decide +kernel
theorem dX5_reckon_54 : decode cX5_reckon 54 = .ok (.aload_n 0, 1) := by decide +kernel
theorem dX5_reckon_55 : decode cX5_reckon 55 = .ok (.getfield 17, 3) := by decide +kernel
theorem dX5_reckon_58 : decode cX5_reckon 58 = .ok (.iload_n 3, 1) := by decide +kernel
theorem dX5_reckon_59 : decode cX5_reckon 59 = .ok (.aaload, 1) := by decide +kernel
theorem dX5_reckon_60 : decode cX5_reckon 60 = .ok (.astore 4, 2) := by decide +kernel
theorem dX5_reckon_62 : decode cX5_reckon 62 = .ok (.iconst 1, 1) := by decide +kernel
theorem dX5_reckon_63 : decode cX5_reckon 63 = .ok (.iload_n 3, 1) := by decide +kernel
theorem dX5_reckon_64 : decode cX5_reckon 64 = .ok (.ishl, 1) := by decide +kernel
theorem dX5_reckon_65 : decode cX5_reckon 65 = .ok (.istore 5, 2) := by decide +kernel
theorem dX5_reckon_67 : decode cX5_reckon 67 = .ok (.aload_n 0, 1) := by decide +kernel
theorem dX5_reckon_68 : decode cX5_reckon 68 = .ok (.getfield 31, 3) := by decide +kernel
theorem dX5_reckon_71 : decode cX5_reckon 71 = .ok (.aload 4, 2) := by decide +kernel
theorem dX5_reckon_73 : decode cX5_reckon 73 = .ok (.getfield 112, 3) := by decide +kernel
theorem dX5_reckon_76 : decode cX5_reckon 76 = .ok (.invokevirtual 180, 3) := by decide +kernel
theorem dX5_reckon_79 : decode cX5_reckon 79 = .ok (.aload 4, 2) := by decide +kernel
theorem dX5_reckon_81 : decode cX5_reckon 81 = .ok (.getfield 113, 3) := by decide +kernel
theorem dX5_reckon_84 : decode cX5_reckon 84 = .ok (.invokevirtual 183, 3) := by decide +kernel
theorem dX5_reckon_87 : decode cX5_reckon 87 = .ok (.astore 6, 2) := by decide +kernel
theorem dX5_reckon_89 : decode cX5_reckon 89 = .ok (.aload 6, 2) := by decide +kernel
theorem dX5_reckon_91 : decode cX5_reckon 91 = .ok (.aload 4, 2) := by decide +kernel
theorem dX5_reckon_93 : decode cX5_reckon 93 = .ok (.iload_n 1, 1) := by decide +kernel
theorem dX5_reckon_94 : decode cX5_reckon 94 = .ok (.iload 5, 2) := by decide +kernel
theorem dX5_reckon_96 : decode cX5_reckon 96 = .ok (.iand, 1) := by decide +kernel
theorem dX5_reckon_97 : decode cX5_reckon 97 = .ok (.ifCond .eq 7, 3) := by decide +kernel
theorem dX5_reckon_100 : decode cX5_reckon 100 = .ok (.iconst (-1), 1) := by decide +kernel
theorem dX5_reckon_101 : decode cX5_reckon 101 = .ok (.goto 9, 3) := by decide +kernel
theorem dX5_reckon_104 : decode cX5_reckon 104 = .ok (.sipush 1024, 3) := by decide +kernel
theorem dX5_reckon_107 : decode cX5_reckon 107 = .ok (.iload 5, 2) := by decide +kernel
theorem dX5_reckon_109 : decode cX5_reckon 109 = .ok (.iadd, 1) := by decide +kernel
theorem dX5_reckon_110 : decode cX5_reckon 110 = .ok (.invokevirtual 191, 3) := by decide +kernel
theorem dX5_reckon_113 : decode cX5_reckon 113 = .ok (.iinc 3 1, 3) := by decide +kernel
theorem dX5_reckon_116 : decode cX5_reckon 116 = .ok (.goto (-70), 3) := by decide +kernel
theorem dX5_reckon_119 : decode cX5_reckon 119 = .ok (.iconst 0, 1) := by decide +kernel
theorem dX5_reckon_120 : decode cX5_reckon 120 = .ok (.istore_n 3, 1) := by decide +kernel
theorem dX5_reckon_121 : decode cX5_reckon 121 = .ok (.iload_n 3, 1) := by decide +kernel
theorem dX5_reckon_122 : decode cX5_reckon 122 = .ok (.aload_n 0, 1) := by decide +kernel
theorem dX5_reckon_123 : decode cX5_reckon 123 = .ok (.getfield 21, 3) := by decide +kernel
theorem dX5_reckon_126 : decode cX5_reckon 126 = .ok (.if_icmp .ge 51, 3) := by decide +kernel
theorem dX5_reckon_129 : decode cX5_reckon 129 = .ok (.aload_n 0, 1) := by decide +kernel
theorem dX5_reckon_130 : decode cX5_reckon 130 = .ok (.getfield 11, 3) := by decide +kernel
theorem dX5_reckon_133 : decode cX5_reckon 133 = .ok (.iload_n 3, 1) := by decide +kernel
theorem dX5_reckon_134 : decode cX5_reckon 134 = .ok (.aaload, 1) := by decide +kernel
theorem dX5_reckon_135 : decode cX5_reckon 135 = .ok (.getfield 87, 3) := by decide +kernel
theorem dX5_reckon_138 : decode cX5_reckon 138 = .ok (.ifCond .eq 33, 3) := by decide +kernel
theorem dX5_reckon_141 : decode cX5_reckon 141 = .ok (.iload_n 3, 1) := by decide +kernel
theorem dX5_reckon_142 : decode cX5_reckon 142 = .ok (.iload_n 2, 1) := by decide +kernel
theorem dX5_reckon_143 : decode cX5_reckon 143 = .ok (.if_icmp .eq 28, 3) := by decide +kernel
theorem dX5_reckon_146 : decode cX5_reckon 146 = .ok (.aload_n 0, 1) := by decide +kernel
theorem dX5_reckon_147 : decode cX5_reckon 147 = .ok (.getfield 31, 3) := by decide +kernel
theorem dX5_reckon_150 : decode cX5_reckon 150 = .ok (.aload_n 0, 1) := by decide +kernel
theorem dX5_reckon_151 : decode cX5_reckon 151 = .ok (.getfield 11, 3) := by decide +kernel
theorem dX5_reckon_154 : decode cX5_reckon 154 = .ok (.iload_n 3, 1) := by decide +kernel
theorem dX5_reckon_155 : decode cX5_reckon 155 = .ok (.aaload, 1) := by decide +kernel
theorem dX5_reckon_156 : decode cX5_reckon 156 = .ok (.getfield 75, 3) := by decide +kernel
theorem dX5_reckon_159 : decode cX5_reckon 159 = .ok (.invokevirtual 180, 3) := by decide +kernel
theorem dX5_reckon_162 : decode cX5_reckon 162 = .ok (.aload_n 0, 1) := by decide +kernel
theorem dX5_reckon_163 : decode cX5_reckon 163 = .ok (.getfield 11, 3) := by decide +kernel
theorem dX5_reckon_166 : decode cX5_reckon 166 = .ok (.iload_n 3, 1) := by decide +kernel
theorem dX5_reckon_167 : decode cX5_reckon 167 = .ok (.aaload, 1) := by decide +kernel
theorem dX5_reckon_168 : decode cX5_reckon 168 = .ok (.invokevirtual 195, 3) := by decide +kernel
theorem dX5_reckon_171 : decode cX5_reckon 171 = .ok (.iinc 3 1, 3) := by decide +kernel
theorem dX5_reckon_174 : decode cX5_reckon 174 = .ok (.goto (-53), 3) := by decide +kernel
theorem dX5_reckon_177 : decode cX5_reckon 177 = .ok (.aload_n 0, 1) := by decide +kernel
theorem dX5_reckon_178 : decode cX5_reckon 178 = .ok (.getfield 31, 3) := by decide +kernel
theorem dX5_reckon_181 : decode cX5_reckon 181 = .ok (.invokevirtual 199, 3) := by decide +kernel
theorem dX5_reckon_184 : decode cX5_reckon 184 = .ok (.aload_n 0, 1) := by decide +kernel
theorem dX5_reckon_185 : decode cX5_reckon 185 = .ok (.iconst 1, 1) := by decide +kernel
theorem dX5_reckon_186 : decode cX5_reckon 186 = .ok (.putfield 35, 3) := by decide +kernel
theorem dX5_reckon_189 : decode cX5_reckon 189 = .ok (.aload_n 0, 1) := by decide +kernel
theorem dX5_reckon_190 : decode cX5_reckon 190 = .ok (.iload_n 1, 1) := by decide +kernel
theorem dX5_reckon_191 : decode cX5_reckon 191 = .ok (.putfield 39, 3) := by decide +kernel
theorem dX5_reckon_194 : decode cX5_reckon 194 = .ok (.aload_n 0, 1) := by decide +kernel
theorem dX5_reckon_195 : decode cX5_reckon 195 = .ok (.iload_n 2, 1) := by decide +kernel
theorem dX5_reckon_196 : decode cX5_reckon 196 = .ok (.putfield 42, 3) := by decide +kernel
theorem dX5_reckon_199 : decode cX5_reckon 199 = .ok (.return_, 1) := by decide +kernel
