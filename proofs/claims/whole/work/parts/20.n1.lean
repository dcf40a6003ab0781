theorem dX1_pick_0 : decode cX1_pick 0 = .ok (.iload_n 1, 1) := by decide +kernel
theorem dX1_pick_1 : decode cX1_pick 1 = .ok (.ifCond .ne 10, 3) := by decide +kernel
theorem dX1_pick_4 : decode cX1_pick 4 = .ok (.aload_n 0, 1) := by decide +kernel
theorem dX1_pick_5 : decode cX1_pick 5 = .ok (.getfield 12, 3) := by decide +kernel
theorem dX1_pick_8 : decode cX1_pick 8 = .ok (.goto 7, 3) := by decide +kernel
theorem dX1_pick_11 : decode cX1_pick 11 = .ok (.aload_n 0, 1) := by decide +kernel
theorem dX1_pick_12 : decode cX1_pick 12 = .ok (.getfield 18, 3) := by decide +kernel
theorem dX1_pick_15 : decode cX1_pick 15 = .ok (.areturn, 1) := by decide +kernel
set_option maxRecDepth 20000 in
theorem ggX1_reckon_X1_lowestShare : GoodIn wsX1_reckon wsX1_lowestShare := goodIn_r _ [14] (by decide +kernel) (by decide +kernel)
set_option maxRecDepth 20000 in
theorem gX1_reckon_X1_lowestShare : GoodIn wsX1_reckon (va_wsS RX1 38 yX1_lowestShare wsX1_lowestShare) := goodIn_app (goodIn_of _ (by decide +kernel)) ggX1_reckon_X1_lowestShare
set_option maxRecDepth 20000 in
theorem ggX1_reckon_X0_settle : GoodIn wsX1_reckon wsX0_settle := goodIn_r _ [19, 20, 21, 22, 23, 24, 25, 18, 26, 27, 28, 29, 30, 31, 32, 33, 34, 35, 36, 37, 38, 39, 40, 41, 42, 43, 44, 45, 46, 47, 48, 49, 50, 51, 52, 53, 54, 55, 56, 57, 58, 59, 60, 61, 62, 63, 64, 65, 66, 67, 68, 69, 70, 71, 72, 73, 74, 75, 117, 118, 119, 120, 121, 122, 123, 124, 125, 126, 127, 128, 129, 130, 131, 132] (by decide +kernel) (by decide +kernel)
set_option maxRecDepth 20000 in
theorem gX1_reckon_X0_settle : GoodIn wsX1_reckon (wsV RX1 42 RX0 yX0_settle wsX0_settle) := goodIn_app (goodIn_of _ (by decide +kernel)) ggX1_reckon_X0_settle
set_option maxRecDepth 20000 in
theorem ggX1_reckon_X3_isOpen : GoodIn wsX1_reckon wsX3_isOpen := goodIn_r _ [38, 39, 40, 41, 32, 42, 34, 127, 128, 129, 130, 131, 132] (by decide +kernel) (by decide +kernel)
set_option maxRecDepth 20000 in
theorem gX1_reckon_X3_isOpen : GoodIn wsX1_reckon (wsV RX1 57 RX3 yX3_isOpen wsX3_isOpen) := goodIn_app (goodIn_of _ (by decide +kernel)) ggX1_reckon_X3_isOpen
set_option maxRecDepth 20000 in
theorem ggX1_reckon_X1_pushFrom : GoodIn wsX1_reckon wsX1_pushFrom := goodIn_r _ [80, 6, 5, 81, 9, 76, 36, 37, 32, 38, 39, 40, 41, 42, 34, 82, 83, 84, 13, 85, 7, 3, 8, 86, 87, 49, 88, 10, 89, 73, 74, 1, 2, 63, 64, 65, 90, 91, 92, 93, 94, 95, 96, 97, 18, 98, 52, 99, 111, 112, 113, 114, 115, 116, 117, 118, 119, 120, 121, 122, 123, 124, 125, 126, 127, 128, 129, 130, 131, 132] (by decide +kernel) (by decide +kernel)
set_option maxRecDepth 20000 in
theorem gX1_reckon_X1_pushFrom : GoodIn wsX1_reckon (wsV RX1 61 RX1 yX1_pushFrom wsX1_pushFrom) := goodIn_app (goodIn_of _ (by decide +kernel)) ggX1_reckon_X1_pushFrom
set_option maxRecDepth 20000 in
theorem ggX1_reckon_X0_seeFirsts : GoodIn wsX1_reckon wsX0_seeFirsts := goodIn_r _ [103, 22, 104, 105, 47, 48, 49, 50, 51, 106, 107, 108, 32, 109, 94, 53, 54, 55, 18, 56, 57, 58, 59, 60, 61, 35, 36, 37, 38, 39, 40, 41, 42, 34, 110, 91, 92, 93, 117, 118, 119, 120, 121, 122, 123, 124, 125, 126, 127, 128, 129, 130, 131, 132] (by decide +kernel) (by decide +kernel)
set_option maxRecDepth 20000 in
theorem gX1_reckon_X0_seeFirsts : GoodIn wsX1_reckon (wsV RX1 65 RX0 yX0_seeFirsts wsX0_seeFirsts) := goodIn_app (goodIn_of _ (by decide +kernel)) ggX1_reckon_X0_seeFirsts
theorem dX1_reckon_0 : decode cX1_reckon 0 = .ok (.aload_n 0, 1) := by decide +kernel
theorem dX1_reckon_1 : decode cX1_reckon 1 = .ok (.lconst 0, 1) := by decide +kernel
theorem dX1_reckon_2 : decode cX1_reckon 2 = .ok (.putfield 21, 3) := by decide +kernel
theorem dX1_reckon_5 : decode cX1_reckon 5 = .ok (.aload_n 0, 1) := by decide +kernel
theorem dX1_reckon_6 : decode cX1_reckon 6 = .ok (.iconst (-1), 1) := by decide +kernel
theorem dX1_reckon_7 : decode cX1_reckon 7 = .ok (.putfield 25, 3) := by decide +kernel
theorem dX1_reckon_10 : decode cX1_reckon 10 = .ok (.aload_n 0, 1) := by decide +kernel
theorem dX1_reckon_11 : decode cX1_reckon 11 = .ok (.aload_n 0, 1) := by decide +kernel
theorem dX1_reckon_12 : decode cX1_reckon 12 = .ok (.getfield 18, 3) := by decide +kernel
theorem dX1_reckon_15 : decode cX1_reckon 15 = .ok (.getfield 35, 3) := by decide +kernel
theorem dX1_reckon_18 : decode cX1_reckon 18 = .ok (.aload_n 0, 1) := by decide +kernel
theorem dX1_reckon_19 : decode cX1_reckon 19 = .ok (.getfield 12, 3) := by decide +kernel
theorem dX1_reckon_22 : decode cX1_reckon 22 = .ok (.getfield 35, 3) := by decide +kernel
theorem dX1_reckon_25 : decode cX1_reckon 25 = .ok (.invokestatic 38, 3) := by decide +kernel
theorem dX1_reckon_28 : decode cX1_reckon 28 = .ok (.putfield 29, 3) := by decide +kernel
theorem dX1_reckon_31 : decode cX1_reckon 31 = .ok (.aload_n 0, 1) := by decide +kernel
theorem dX1_reckon_32 : decode cX1_reckon 32 = .ok (.aload_n 0, 1) := by decide +kernel
theorem dX1_reckon_33 : decode cX1_reckon 33 = .ok (.getfield 12, 3) := by decide +kernel
theorem dX1_reckon_36 : decode cX1_reckon 36 = .ok (.getfield 35, 3) := by decide +kernel
theorem dX1_reckon_39 : decode cX1_reckon 39 = .ok (.aload_n 0, 1) := by decide +kernel
theorem dX1_reckon_40 : decode cX1_reckon 40 = .ok (.getfield 18, 3) := by decide +kernel
theorem dX1_reckon_43 : decode cX1_reckon 43 = .ok (.getfield 35, 3) := by decide +kernel
theorem dX1_reckon_46 : decode cX1_reckon 46 = .ok (.invokestatic 38, 3) := by decide +kernel
theorem dX1_reckon_49 : decode cX1_reckon 49 = .ok (.putfield 32, 3) := by decide +kernel
theorem dX1_reckon_52 : decode cX1_reckon 52 = .ok (.aload_n 0, 1) := by decide +kernel
theorem dX1_reckon_53 : decode cX1_reckon 53 = .ok (.getfield 12, 3) := by decide +kernel
theorem dX1_reckon_56 : decode cX1_reckon 56 = .ok (.invokevirtual 42, 3) := by decide +kernel
theorem dX1_reckon_59 : decode cX1_reckon 59 = .ok (.aload_n 0, 1) := by decide +kernel
theorem dX1_reckon_60 : decode cX1_reckon 60 = .ok (.getfield 18, 3) := by decide +kernel
theorem dX1_reckon_63 : decode cX1_reckon 63 = .ok (.invokevirtual 42, 3) := by decide +kernel
theorem dX1_reckon_66 : decode cX1_reckon 66 = .ok (.aload_n 0, 1) := by decide +kernel
theorem dX1_reckon_67 : decode cX1_reckon 67 = .ok (.getfield 12, 3) := by decide +kernel
theorem dX1_reckon_70 : decode cX1_reckon 70 = .ok (.getfield 45, 3) := by decide +kernel
theorem dX1_reckon_73 : decode cX1_reckon 73 = .ok (.getfield 49, 3) := by decide +kernel
theorem dX1_reckon_76 : decode cX1_reckon 76 = .ok (.istore_n 1, 1) := by decide +kernel
theorem dX1_reckon_77 : decode cX1_reckon 77 = .ok (.iload_n 1, 1) := by decide +kernel
theorem dX1_reckon_78 : decode cX1_reckon 78 = .ok (.aload_n 0, 1) := by decide +kernel
theorem dX1_reckon_79 : decode cX1_reckon 79 = .ok (.getfield 12, 3) := by decide +kernel
theorem dX1_reckon_82 : decode cX1_reckon 82 = .ok (.getfield 45, 3) := by decide +kernel
theorem dX1_reckon_85 : decode cX1_reckon 85 = .ok (.getfield 54, 3) := by decide +kernel
theorem dX1_reckon_88 : decode cX1_reckon 88 = .ok (.if_icmp .gt 28, 3) := by decide +kernel
theorem dX1_reckon_91 : decode cX1_reckon 91 = .ok (.aload_n 0, 1) := by decide +kernel
theorem dX1_reckon_92 : decode cX1_reckon 92 = .ok (.getfield 12, 3) := by decide +kernel
theorem dX1_reckon_95 : decode cX1_reckon 95 = .ok (.getfield 45, 3) := by decide +kernel
theorem dX1_reckon_98 : decode cX1_reckon 98 = .ok (.iload_n 1, 1) := by decide +kernel
theorem dX1_reckon_99 : decode cX1_reckon 99 = .ok (.invokevirtual 57, 3) := by decide +kernel
theorem dX1_reckon_102 : decode cX1_reckon 102 = .ok (.ifCond .eq 8, 3) := by decide +kernel
theorem dX1_reckon_105 : decode cX1_reckon 105 = .ok (.aload_n 0, 1) := by decide +kernel
theorem dX1_reckon_106 : decode cX1_reckon 106 = .ok (.iload_n 1, 1) := by decide +kernel
theorem dX1_reckon_107 : decode cX1_reckon 107 = .ok (.invokevirtual 61, 3) := by decide +kernel
theorem dX1_reckon_110 : decode cX1_reckon 110 = .ok (.iinc 1 1, 3) := by decide +kernel
theorem dX1_reckon_113 : decode cX1_reckon 113 = .ok (.goto (-36), 3) := by decide +kernel
theorem dX1_reckon_116 : decode cX1_reckon 116 = .ok (.aload_n 0, 1) := by decide +kernel
theorem dX1_reckon_117 : decode cX1_reckon 117 = .ok (.getfield 12, 3) := by decide +kernel
theorem dX1_reckon_120 : decode cX1_reckon 120 = .ok (.invokevirtual 65, 3) := by decide +kernel
theorem dX1_reckon_123 : decode cX1_reckon 123 = .ok (.aload_n 0, 1) := by decide +kernel
theorem dX1_reckon_124 : decode cX1_reckon 124 = .ok (.getfield 18, 3) := by decide +kernel
theorem dX1_reckon_127 : decode cX1_reckon 127 = .ok (.invokevirtual 65, 3) := by decide +kernel
theorem dX1_reckon_130 : decode cX1_reckon 130 = .ok (.return_, 1) := by decide +kernel
theorem dX1_lowestShare_0 : decode cX1_lowestShare 0 = .ok (.bipush 100, 2) := by decide +kernel
theorem dX1_lowestShare_2 : decode cX1_lowestShare 2 = .ok (.istore_n 2, 1) := by decide +kernel
theorem dX1_lowestShare_3 : decode cX1_lowestShare 3 = .ok (.iload_n 2, 1) := by decide +kernel
theorem dX1_lowestShare_4 : decode cX1_lowestShare 4 = .ok (.iconst 1, 1) := by decide +kernel
theorem dX1_lowestShare_5 : decode cX1_lowestShare 5 = .ok (.if_icmp .le 25, 3) := by decide +kernel
theorem dX1_lowestShare_8 : decode cX1_lowestShare 8 = .ok (.iload_n 0, 1) := by decide +kernel
theorem dX1_lowestShare_9 : decode cX1_lowestShare 9 = .ok (.iload_n 2, 1) := by decide +kernel
theorem dX1_lowestShare_10 : decode cX1_lowestShare 10 = .ok (.irem, 1) := by decide +kernel
theorem dX1_lowestShare_11 : decode cX1_lowestShare 11 = .ok (.ifCond .ne 13, 3) := by decide +kernel
theorem dX1_lowestShare_14 : decode cX1_lowestShare 14 = .ok (.iload_n 1, 1) := by decide +kernel
theorem dX1_lowestShare_15 : decode cX1_lowestShare 15 = .ok (.iload_n 2, 1) := by decide +kernel
theorem dX1_lowestShare_16 : decode cX1_lowestShare 16 = .ok (.irem, 1) := by decide +kernel
theorem dX1_lowestShare_17 : decode cX1_lowestShare 17 = .ok (.ifCond .ne 7, 3) := by decide +kernel
theorem dX1_lowestShare_20 : decode cX1_lowestShare 20 = .ok (.iload_n 0, 1) := by decide +kernel
theorem dX1_lowestShare_21 : decode cX1_lowestShare 21 = .ok (.iload_n 2, 1) := by decide +kernel
theorem dX1_lowestShare_22 : decode cX1_lowestShare 22 = .ok (.idiv, 1) := by decide +kernel
theorem dX1_lowestShare_23 : decode cX1_lowestShare 23 = .ok (.ireturn, 1) := by decide +kernel
theorem dX1_lowestShare_24 : decode cX1_lowestShare 24 = .ok (.iinc 2 (-1), 3) := by decide +kernel
theorem dX1_lowestShare_27 : decode cX1_lowestShare 27 = .ok (.goto (-24), 3) := by decide +kernel
theorem dX1_lowestShare_30 : decode cX1_lowestShare 30 = .ok (.iload_n 0, 1) := by decide +kernel
theorem dX1_lowestShare_31 : decode cX1_lowestShare 31 = .ok (.ireturn, 1) := by decide +kernel
set_option maxRecDepth 20000 in
theorem ggX1_pushFrom_X3_isOpen : GoodIn wsX1_pushFrom wsX3_isOpen := goodIn_r _ [9, 10, 11, 12, 8, 13, 14, 64, 65, 66, 67, 68, 69] (by decide +kernel) (by decide +kernel)
set_option maxRecDepth 20000 in
theorem gX1_pushFrom_X3_isOpen : GoodIn wsX1_pushFrom (wsV RX1 57 RX3 yX3_isOpen wsX3_isOpen) := goodIn_app (goodIn_of _ (by decide +kernel)) ggX1_pushFrom_X3_isOpen
set_option maxRecDepth 20000 in
theorem ggX1_pushFrom_X1_meet : GoodIn wsX1_pushFrom wsX1_meet := goodIn_r _ [19, 20, 1, 21, 22, 4, 3, 23, 24, 25, 26, 27, 28, 29, 30, 2, 31, 32, 33, 34, 35, 36, 37, 38, 8, 39, 40, 41, 42, 43, 44, 45, 46, 47, 11, 12, 13, 14, 48, 49, 50, 51, 52, 53, 54, 55, 56, 57, 58, 59, 60, 61, 62, 63, 64, 65, 66, 67, 68, 69] (by decide +kernel) (by decide +kernel)
set_option maxRecDepth 20000 in
theorem gX1_pushFrom_X1_meet : GoodIn wsX1_pushFrom (wsV RX1 71 RX1 yX1_meet wsX1_meet) := goodIn_app (goodIn_of _ (by decide +kernel)) ggX1_pushFrom_X1_meet
theorem dX1_pushFrom_0 : decode cX1_pushFrom 0 = .ok (.iconst 1, 1) := by decide +kernel
theorem dX1_pushFrom_1 : decode cX1_pushFrom 1 = .ok (.istore_n 2, 1) := by decide +kernel
theorem dX1_pushFrom_2 : decode cX1_pushFrom 2 = .ok (.iload_n 2, 1) := by decide +kernel
theorem dX1_pushFrom_3 : decode cX1_pushFrom 3 = .ok (.bipush 101, 2) := by decide +kernel
theorem dX1_pushFrom_5 : decode cX1_pushFrom 5 = .ok (.if_icmp .gt 57, 3) := by decide +kernel
theorem dX1_pushFrom_8 : decode cX1_pushFrom 8 = .ok (.iload_n 1, 1) := by decide +kernel
theorem dX1_pushFrom_9 : decode cX1_pushFrom 9 = .ok (.iload_n 2, 1) := by decide +kernel
theorem dX1_pushFrom_10 : decode cX1_pushFrom 10 = .ok (.aload_n 0, 1) := by decide +kernel
theorem dX1_pushFrom_11 : decode cX1_pushFrom 11 = .ok (.getfield 29, 3) := by decide +kernel
theorem dX1_pushFrom_14 : decode cX1_pushFrom 14 = .ok (.imul, 1) := by decide +kernel
theorem dX1_pushFrom_15 : decode cX1_pushFrom 15 = .ok (.isub, 1) := by decide +kernel
theorem dX1_pushFrom_16 : decode cX1_pushFrom 16 = .ok (.aload_n 0, 1) := by decide +kernel
theorem dX1_pushFrom_17 : decode cX1_pushFrom 17 = .ok (.getfield 12, 3) := by decide +kernel
theorem dX1_pushFrom_20 : decode cX1_pushFrom 20 = .ok (.getfield 68, 3) := by decide +kernel
theorem dX1_pushFrom_23 : decode cX1_pushFrom 23 = .ok (.getfield 49, 3) := by decide +kernel
theorem dX1_pushFrom_26 : decode cX1_pushFrom 26 = .ok (.if_icmp .lt 36, 3) := by decide +kernel
theorem dX1_pushFrom_29 : decode cX1_pushFrom 29 = .ok (.aload_n 0, 1) := by decide +kernel
theorem dX1_pushFrom_30 : decode cX1_pushFrom 30 = .ok (.getfield 12, 3) := by decide +kernel
theorem dX1_pushFrom_33 : decode cX1_pushFrom 33 = .ok (.getfield 68, 3) := by decide +kernel
theorem dX1_pushFrom_36 : decode cX1_pushFrom 36 = .ok (.iload_n 1, 1) := by decide +kernel
theorem dX1_pushFrom_37 : decode cX1_pushFrom 37 = .ok (.iload_n 2, 1) := by decide +kernel
theorem dX1_pushFrom_38 : decode cX1_pushFrom 38 = .ok (.aload_n 0, 1) := by decide +kernel
theorem dX1_pushFrom_39 : decode cX1_pushFrom 39 = .ok (.getfield 29, 3) := by decide +kernel
theorem dX1_pushFrom_42 : decode cX1_pushFrom 42 = .ok (.imul, 1) := by decide +kernel
theorem dX1_pushFrom_43 : decode cX1_pushFrom 43 = .ok (.isub, 1) := by decide +kernel
theorem dX1_pushFrom_44 : decode cX1_pushFrom 44 = .ok (.invokevirtual 57, 3) := by decide +kernel
theorem dX1_pushFrom_47 : decode cX1_pushFrom 47 = .ok (.ifCond .eq 9, 3) := by decide +kernel
theorem dX1_pushFrom_50 : decode cX1_pushFrom 50 = .ok (.aload_n 0, 1) := by decide +kernel
theorem dX1_pushFrom_51 : decode cX1_pushFrom 51 = .ok (.iload_n 1, 1) := by decide +kernel
theorem dX1_pushFrom_52 : decode cX1_pushFrom 52 = .ok (.iload_n 2, 1) := by decide +kernel
theorem dX1_pushFrom_53 : decode cX1_pushFrom 53 = .ok (.invokevirtual 71, 3) := by decide +kernel
theorem dX1_pushFrom_56 : decode cX1_pushFrom 56 = .ok (.iinc 2 1, 3) := by decide +kernel
theorem dX1_pushFrom_59 : decode cX1_pushFrom 59 = .ok (.goto (-57), 3) := by decide +kernel
theorem dX1_pushFrom_62 : decode cX1_pushFrom 62 = .ok (.return_, 1) := by decide +kernel
set_option maxRecDepth 20000 in
theorem ggX1_meet_X5_cheaper : GoodIn wsX1_meet wsX5_cheaper := goodIn_r _ [20] (by decide +kernel) (by decide +kernel)
set_option maxRecDepth 20000 in
theorem gX1_meet_X5_cheaper_n90 : GoodIn wsX1_meet (wsX5_cheaper) := ggX1_meet_X5_cheaper
set_option maxRecDepth 20000 in
theorem ggX1_meet_X3_see : GoodIn wsX1_meet wsX3_see := goodIn_r _ [25, 26, 54, 55, 56, 57, 58, 59] (by decide +kernel) (by decide +kernel)
set_option maxRecDepth 20000 in
theorem gX1_meet_X3_see : GoodIn wsX1_meet (wsV RX1 97 RX3 yX3_see wsX3_see) := goodIn_app (goodIn_of _ (by decide +kernel)) ggX1_meet_X3_see
set_option maxRecDepth 20000 in
theorem ggX1_meet_X0_firstCount : GoodIn wsX1_meet wsX0_firstCount := goodIn_r _ [31, 32, 44, 45, 46, 47, 48, 49, 50, 51, 52, 53] (by decide +kernel) (by decide +kernel)
set_option maxRecDepth 20000 in
theorem gX1_meet_X0_firstCount : GoodIn wsX1_meet (wsV RX1 100 RX0 yX0_firstCount wsX0_firstCount) := goodIn_app (goodIn_of _ (by decide +kernel)) ggX1_meet_X0_firstCount
set_option maxRecDepth 20000 in
theorem ggX1_meet_X3_priceOf : GoodIn wsX1_meet wsX3_priceOf := goodIn_r _ [36, 37, 54, 55, 56, 57, 58, 59] (by decide +kernel) (by decide +kernel)
set_option maxRecDepth 20000 in
theorem gX1_meet_X3_priceOf : GoodIn wsX1_meet (wsV RX1 104 RX3 yX3_priceOf wsX3_priceOf) := goodIn_app (goodIn_of _ (by decide +kernel)) ggX1_meet_X3_priceOf
theorem dX1_meet_0 : decode cX1_meet 0 = .ok (.iload_n 2, 1) := by decide +kernel
theorem dX1_meet_1 : decode cX1_meet 1 = .ok (.aload_n 0, 1) := by decide +kernel
theorem dX1_meet_2 : decode cX1_meet 2 = .ok (.getfield 32, 3) := by decide +kernel
theorem dX1_meet_5 : decode cX1_meet 5 = .ok (.imul, 1) := by decide +kernel
theorem dX1_meet_6 : decode cX1_meet 6 = .ok (.istore_n 3, 1) := by decide +kernel
theorem dX1_meet_7 : decode cX1_meet 7 = .ok (.iload_n 2, 1) := by decide +kernel
theorem dX1_meet_8 : decode cX1_meet 8 = .ok (.aload_n 0, 1) := by decide +kernel
theorem dX1_meet_9 : decode cX1_meet 9 = .ok (.getfield 29, 3) := by decide +kernel
theorem dX1_meet_12 : decode cX1_meet 12 = .ok (.aload_n 0, 1) := by decide +kernel
theorem dX1_meet_13 : decode cX1_meet 13 = .ok (.getfield 32, 3) := by decide +kernel
theorem dX1_meet_16 : decode cX1_meet 16 = .ok (.iadd, 1) := by decide +kernel
theorem dX1_meet_17 : decode cX1_meet 17 = .ok (.imul, 1) := by decide +kernel
theorem dX1_meet_18 : decode cX1_meet 18 = .ok (.istore 4, 2) := by decide +kernel
theorem dX1_meet_20 : decode cX1_meet 20 = .ok (.iload_n 1, 1) := by decide +kernel
theorem dX1_meet_21 : decode cX1_meet 21 = .ok (.iload 4, 2) := by decide +kernel
theorem dX1_meet_23 : decode cX1_meet 23 = .ok (.isub, 1) := by decide +kernel
theorem dX1_meet_24 : decode cX1_meet 24 = .ok (.aload_n 0, 1) := by decide +kernel
theorem dX1_meet_25 : decode cX1_meet 25 = .ok (.getfield 18, 3) := by decide +kernel
theorem dX1_meet_28 : decode cX1_meet 28 = .ok (.getfield 45, 3) := by decide +kernel
theorem dX1_meet_31 : decode cX1_meet 31 = .ok (.getfield 49, 3) := by decide +kernel
theorem dX1_meet_34 : decode cX1_meet 34 = .ok (.aload_n 0, 1) := by decide +kernel
theorem dX1_meet_35 : decode cX1_meet 35 = .ok (.getfield 18, 3) := by decide +kernel
theorem dX1_meet_38 : decode cX1_meet 38 = .ok (.getfield 68, 3) := by decide +kernel
theorem dX1_meet_41 : decode cX1_meet 41 = .ok (.getfield 49, 3) := by decide +kernel
theorem dX1_meet_44 : decode cX1_meet 44 = .ok (.iload_n 3, 1) := by decide +kernel
theorem dX1_meet_45 : decode cX1_meet 45 = .ok (.isub, 1) := by decide +kernel
theorem dX1_meet_46 : decode cX1_meet 46 = .ok (.invokestatic 75, 3) := by decide +kernel
theorem dX1_meet_49 : decode cX1_meet 49 = .ok (.invokestatic 75, 3) := by decide +kernel
theorem dX1_meet_52 : decode cX1_meet 52 = .ok (.istore 5, 2) := by decide +kernel
theorem dX1_meet_54 : decode cX1_meet 54 = .ok (.iload_n 1, 1) := by decide +kernel
theorem dX1_meet_55 : decode cX1_meet 55 = .ok (.iload 4, 2) := by decide +kernel
theorem dX1_meet_57 : decode cX1_meet 57 = .ok (.iconst 1, 1) := by decide +kernel
theorem dX1_meet_58 : decode cX1_meet 58 = .ok (.iadd, 1) := by decide +kernel
theorem dX1_meet_59 : decode cX1_meet 59 = .ok (.iconst 2, 1) := by decide +kernel
theorem dX1_meet_60 : decode cX1_meet 60 = .ok (.idiv, 1) := by decide +kernel
theorem dX1_meet_61 : decode cX1_meet 61 = .ok (.isub, 1) := by decide +kernel
theorem dX1_meet_62 : decode cX1_meet 62 = .ok (.aload_n 0, 1) := by decide +kernel
theorem dX1_meet_63 : decode cX1_meet 63 = .ok (.getfield 18, 3) := by decide +kernel
theorem dX1_meet_66 : decode cX1_meet 66 = .ok (.getfield 45, 3) := by decide +kernel
theorem dX1_meet_69 : decode cX1_meet 69 = .ok (.getfield 54, 3) := by decide +kernel
theorem dX1_meet_72 : decode cX1_meet 72 = .ok (.aload_n 0, 1) := by decide +kernel
theorem dX1_meet_73 : decode cX1_meet 73 = .ok (.getfield 18, 3) := by decide +kernel
theorem dX1_meet_76 : decode cX1_meet 76 = .ok (.getfield 68, 3) := by decide +kernel
theorem dX1_meet_79 : decode cX1_meet 79 = .ok (.getfield 54, 3) := by decide +kernel
theorem dX1_meet_82 : decode cX1_meet 82 = .ok (.iload_n 3, 1) := by decide +kernel
theorem dX1_meet_83 : decode cX1_meet 83 = .ok (.isub, 1) := by decide +kernel
theorem dX1_meet_84 : decode cX1_meet 84 = .ok (.invokestatic 80, 3) := by decide +kernel
theorem dX1_meet_87 : decode cX1_meet 87 = .ok (.invokestatic 80, 3) := by decide +kernel
theorem dX1_meet_90 : decode cX1_meet 90 = .ok (.istore 6, 2) := by decide +kernel
theorem dX1_meet_92 : decode cX1_meet 92 = .ok (.iload 5, 2) := by decide +kernel
theorem dX1_meet_94 : decode cX1_meet 94 = .ok (.bipush (-50), 2) := by decide +kernel
theorem dX1_meet_96 : decode cX1_meet 96 = .ok (.invokestatic 75, 3) := by decide +kernel
theorem dX1_meet_99 : decode cX1_meet 99 = .ok (.istore 5, 2) := by decide +kernel
theorem dX1_meet_101 : decode cX1_meet 101 = .ok (.iload 6, 2) := by decide +kernel
theorem dX1_meet_103 : decode cX1_meet 103 = .ok (.bipush 50, 2) := by decide +kernel
theorem dX1_meet_105 : decode cX1_meet 105 = .ok (.iload_n 3, 1) := by decide +kernel
theorem dX1_meet_106 : decode cX1_meet 106 = .ok (.isub, 1) := by decide +kernel
theorem dX1_meet_107 : decode cX1_meet 107 = .ok (.invokestatic 80, 3) := by decide +kernel
theorem dX1_meet_110 : decode cX1_meet 110 = .ok (.istore 6, 2) := by decide +kernel
theorem dX1_meet_112 : decode cX1_meet 112 = .ok (.lconst 0, 1) := by decide +kernel
theorem dX1_meet_113 : decode cX1_meet 113 = .ok (.lstore 7, 2) := by decide +kernel
theorem dX1_meet_115 : decode cX1_meet 115 = .ok (.iconst (-1), 1) := by decide +kernel
theorem dX1_meet_116 : decode cX1_meet 116 = .ok (.istore 9, 2) := by decide +kernel
theorem dX1_meet_118 : decode cX1_meet 118 = .ok (.iload 5, 2) := by decide +kernel
theorem dX1_meet_120 : decode cX1_meet 120 = .ok (.istore 10, 2) := by decide +kernel
theorem dX1_meet_122 : decode cX1_meet 122 = .ok (.iload 10, 2) := by decide +kernel
theorem dX1_meet_124 : decode cX1_meet 124 = .ok (.iload 6, 2) := by decide +kernel
theorem dX1_meet_126 : decode cX1_meet 126 = .ok (.if_icmp .gt 126, 3) := by decide +kernel
theorem dX1_meet_129 : decode cX1_meet 129 = .ok (.aload_n 0, 1) := by decide +kernel
theorem dX1_meet_130 : decode cX1_meet 130 = .ok (.getfield 18, 3) := by decide +kernel
theorem dX1_meet_133 : decode cX1_meet 133 = .ok (.getfield 45, 3) := by decide +kernel
theorem dX1_meet_136 : decode cX1_meet 136 = .ok (.getfield 83, 3) := by decide +kernel
theorem dX1_meet_139 : decode cX1_meet 139 = .ok (.iload 10, 2) := by decide +kernel
theorem dX1_meet_141 : decode cX1_meet 141 = .ok (.bipush (-50), 2) := by decide +kernel
theorem dX1_meet_143 : decode cX1_meet 143 = .ok (.isub, 1) := by decide +kernel
theorem dX1_meet_144 : decode cX1_meet 144 = .ok (.iaload, 1) := by decide +kernel
theorem dX1_meet_145 : decode cX1_meet 145 = .ok (.istore 11, 2) := by decide +kernel
theorem dX1_meet_147 : decode cX1_meet 147 = .ok (.aload_n 0, 1) := by decide +kernel
theorem dX1_meet_148 : decode cX1_meet 148 = .ok (.getfield 18, 3) := by decide +kernel
theorem dX1_meet_151 : decode cX1_meet 151 = .ok (.getfield 68, 3) := by decide +kernel
theorem dX1_meet_154 : decode cX1_meet 154 = .ok (.getfield 83, 3) := by decide +kernel
theorem dX1_meet_157 : decode cX1_meet 157 = .ok (.iload 10, 2) := by decide +kernel
theorem dX1_meet_159 : decode cX1_meet 159 = .ok (.iload_n 3, 1) := by decide +kernel
theorem dX1_meet_160 : decode cX1_meet 160 = .ok (.iadd, 1) := by decide +kernel
theorem dX1_meet_161 : decode cX1_meet 161 = .ok (.bipush (-50), 2) := by decide +kernel
theorem dX1_meet_163 : decode cX1_meet 163 = .ok (.isub, 1) := by decide +kernel
theorem dX1_meet_164 : decode cX1_meet 164 = .ok (.iaload, 1) := by decide +kernel
theorem dX1_meet_165 : decode cX1_meet 165 = .ok (.istore 12, 2) := by decide +kernel
theorem dX1_meet_167 : decode cX1_meet 167 = .ok (.iload 11, 2) := by decide +kernel
theorem dX1_meet_169 : decode cX1_meet 169 = .ok (.iconst (-1), 1) := by decide +kernel
theorem dX1_meet_170 : decode cX1_meet 170 = .ok (.if_icmp .eq 76, 3) := by decide +kernel
theorem dX1_meet_173 : decode cX1_meet 173 = .ok (.iload 12, 2) := by decide +kernel
theorem dX1_meet_175 : decode cX1_meet 175 = .ok (.iconst (-1), 1) := by decide +kernel
theorem dX1_meet_176 : decode cX1_meet 176 = .ok (.if_icmp .eq 70, 3) := by decide +kernel
theorem dX1_meet_179 : decode cX1_meet 179 = .ok (.lload 7, 2) := by decide +kernel
theorem dX1_meet_181 : decode cX1_meet 181 = .ok (.aload_n 0, 1) := by decide +kernel
theorem dX1_meet_182 : decode cX1_meet 182 = .ok (.getfield 18, 3) := by decide +kernel
theorem dX1_meet_185 : decode cX1_meet 185 = .ok (.getfield 87, 3) := by decide +kernel
theorem dX1_meet_188 : decode cX1_meet 188 = .ok (.iload 10, 2) := by decide +kernel
theorem dX1_meet_190 : decode cX1_meet 190 = .ok (.bipush (-50), 2) := by decide +kernel
theorem dX1_meet_192 : decode cX1_meet 192 = .ok (.isub, 1) := by decide +kernel
theorem dX1_meet_193 : decode cX1_meet 193 = .ok (.iaload, 1) := by decide +kernel
theorem dX1_meet_194 : decode cX1_meet 194 = .ok (.i2l, 1) := by decide +kernel
theorem dX1_meet_195 : decode cX1_meet 195 = .ok (.ladd, 1) := by decide +kernel
theorem dX1_meet_196 : decode cX1_meet 196 = .ok (.lstore 7, 2) := by decide +kernel
theorem dX1_meet_198 : decode cX1_meet 198 = .ok (.iload 9, 2) := by decide +kernel
theorem dX1_meet_200 : decode cX1_meet 200 = .ok (.iload 11, 2) := by decide +kernel
theorem dX1_meet_202 : decode cX1_meet 202 = .ok (.iload 12, 2) := by decide +kernel
theorem dX1_meet_204 : decode cX1_meet 204 = .ok (.iadd, 1) := by decide +kernel
theorem dX1_meet_205 : decode cX1_meet 205 = .ok (.invokestatic 90, 3) := by decide +kernel
theorem dX1_meet_208 : decode cX1_meet 208 = .ok (.istore 9, 2) := by decide +kernel
theorem dX1_meet_210 : decode cX1_meet 210 = .ok (.aload_n 0, 1) := by decide +kernel
theorem dX1_meet_211 : decode cX1_meet 211 = .ok (.getfield 18, 3) := by decide +kernel
theorem dX1_meet_214 : decode cX1_meet 214 = .ok (.getfield 45, 3) := by decide +kernel
theorem dX1_meet_217 : decode cX1_meet 217 = .ok (.getfield 93, 3) := by decide +kernel
theorem dX1_meet_220 : decode cX1_meet 220 = .ok (.iload 10, 2) := by decide +kernel
theorem dX1_meet_222 : decode cX1_meet 222 = .ok (.bipush (-50), 2) := by decide +kernel
theorem dX1_meet_224 : decode cX1_meet 224 = .ok (.isub, 1) := by decide +kernel
theorem dX1_meet_225 : decode cX1_meet 225 = .ok (.iconst 1, 1) := by decide +kernel
theorem dX1_meet_226 : decode cX1_meet 226 = .ok (.bastore, 1) := by decide +kernel
theorem dX1_meet_227 : decode cX1_meet 227 = .ok (.aload_n 0, 1) := by decide +kernel
theorem dX1_meet_228 : decode cX1_meet 228 = .ok (.getfield 18, 3) := by decide +kernel
theorem dX1_meet_231 : decode cX1_meet 231 = .ok (.getfield 68, 3) := by decide +kernel
theorem dX1_meet_234 : decode cX1_meet 234 = .ok (.getfield 93, 3) := by decide +kernel
theorem dX1_meet_237 : decode cX1_meet 237 = .ok (.iload 10, 2) := by decide +kernel
theorem dX1_meet_239 : decode cX1_meet 239 = .ok (.iload_n 3, 1) := by decide +kernel
theorem dX1_meet_240 : decode cX1_meet 240 = .ok (.iadd, 1) := by decide +kernel
theorem dX1_meet_241 : decode cX1_meet 241 = .ok (.bipush (-50), 2) := by decide +kernel
theorem dX1_meet_243 : decode cX1_meet 243 = .ok (.isub, 1) := by decide +kernel
theorem dX1_meet_244 : decode cX1_meet 244 = .ok (.iconst 1, 1) := by decide +kernel
theorem dX1_meet_245 : decode cX1_meet 245 = .ok (.bastore, 1) := by decide +kernel
theorem dX1_meet_246 : decode cX1_meet 246 = .ok (.iinc 10 1, 3) := by decide +kernel
theorem dX1_meet_249 : decode cX1_meet 249 = .ok (.goto (-127), 3) := by decide +kernel
theorem dX1_meet_252 : decode cX1_meet 252 = .ok (.lload 7, 2) := by decide +kernel
theorem dX1_meet_254 : decode cX1_meet 254 = .ok (.lconst 0, 1) := by decide +kernel
theorem dX1_meet_255 : decode cX1_meet 255 = .ok (.lcmp, 1) := by decide +kernel
theorem dX1_meet_256 : decode cX1_meet 256 = .ok (.ifCond .le 95, 3) := by decide +kernel
theorem dX1_meet_259 : decode cX1_meet 259 = .ok (.iload_n 1, 1) := by decide +kernel
theorem dX1_meet_260 : decode cX1_meet 260 = .ok (.iload_n 2, 1) := by decide +kernel
theorem dX1_meet_261 : decode cX1_meet 261 = .ok (.aload_n 0, 1) := by decide +kernel
theorem dX1_meet_262 : decode cX1_meet 262 = .ok (.getfield 29, 3) := by decide +kernel
theorem dX1_meet_265 : decode cX1_meet 265 = .ok (.imul, 1) := by decide +kernel
theorem dX1_meet_266 : decode cX1_meet 266 = .ok (.isub, 1) := by decide +kernel
theorem dX1_meet_267 : decode cX1_meet 267 = .ok (.istore 10, 2) := by decide +kernel
theorem dX1_meet_269 : decode cX1_meet 269 = .ok (.aload_n 0, 1) := by decide +kernel
theorem dX1_meet_270 : decode cX1_meet 270 = .ok (.getfield 12, 3) := by decide +kernel
theorem dX1_meet_273 : decode cX1_meet 273 = .ok (.getfield 45, 3) := by decide +kernel
theorem dX1_meet_276 : decode cX1_meet 276 = .ok (.iload_n 1, 1) := by decide +kernel
theorem dX1_meet_277 : decode cX1_meet 277 = .ok (.invokevirtual 97, 3) := by decide +kernel
theorem dX1_meet_280 : decode cX1_meet 280 = .ok (.aload_n 0, 1) := by decide +kernel
theorem dX1_meet_281 : decode cX1_meet 281 = .ok (.getfield 12, 3) := by decide +kernel
theorem dX1_meet_284 : decode cX1_meet 284 = .ok (.getfield 68, 3) := by decide +kernel
theorem dX1_meet_287 : decode cX1_meet 287 = .ok (.iload 10, 2) := by decide +kernel
theorem dX1_meet_289 : decode cX1_meet 289 = .ok (.invokevirtual 97, 3) := by decide +kernel
theorem dX1_meet_292 : decode cX1_meet 292 = .ok (.aload_n 0, 1) := by decide +kernel
theorem dX1_meet_293 : decode cX1_meet 293 = .ok (.dup, 1) := by decide +kernel
theorem dX1_meet_294 : decode cX1_meet 294 = .ok (.getfield 21, 3) := by decide +kernel
theorem dX1_meet_297 : decode cX1_meet 297 = .ok (.lload 7, 2) := by decide +kernel
theorem dX1_meet_299 : decode cX1_meet 299 = .ok (.aload_n 0, 1) := by decide +kernel
theorem dX1_meet_300 : decode cX1_meet 300 = .ok (.getfield 12, 3) := by decide +kernel
theorem dX1_meet_303 : decode cX1_meet 303 = .ok (.iload_n 1, 1) := by decide +kernel
theorem dX1_meet_304 : decode cX1_meet 304 = .ok (.invokevirtual 100, 3) := by decide +kernel
theorem dX1_meet_307 : decode cX1_meet 307 = .ok (.i2l, 1) := by decide +kernel
theorem dX1_meet_308 : decode cX1_meet 308 = .ok (.lmul, 1) := by decide +kernel
theorem dX1_meet_309 : decode cX1_meet 309 = .ok (.ladd, 1) := by decide +kernel
theorem dX1_meet_310 : decode cX1_meet 310 = .ok (.putfield 21, 3) := by decide +kernel
theorem dX1_meet_313 : decode cX1_meet 313 = .ok (.aload_n 0, 1) := by decide +kernel
theorem dX1_meet_314 : decode cX1_meet 314 = .ok (.aload_n 0, 1) := by decide +kernel
theorem dX1_meet_315 : decode cX1_meet 315 = .ok (.getfield 25, 3) := by decide +kernel
theorem dX1_meet_318 : decode cX1_meet 318 = .ok (.iload 9, 2) := by decide +kernel
theorem dX1_meet_320 : decode cX1_meet 320 = .ok (.aload_n 0, 1) := by decide +kernel
theorem dX1_meet_321 : decode cX1_meet 321 = .ok (.getfield 12, 3) := by decide +kernel
theorem dX1_meet_324 : decode cX1_meet 324 = .ok (.getfield 45, 3) := by decide +kernel
theorem dX1_meet_327 : decode cX1_meet 327 = .ok (.iload_n 1, 1) := by decide +kernel
theorem dX1_meet_328 : decode cX1_meet 328 = .ok (.invokevirtual 104, 3) := by decide +kernel
theorem dX1_meet_331 : decode cX1_meet 331 = .ok (.iadd, 1) := by decide +kernel
theorem dX1_meet_332 : decode cX1_meet 332 = .ok (.aload_n 0, 1) := by decide +kernel
theorem dX1_meet_333 : decode cX1_meet 333 = .ok (.getfield 12, 3) := by decide +kernel
theorem dX1_meet_336 : decode cX1_meet 336 = .ok (.getfield 68, 3) := by decide +kernel
theorem dX1_meet_339 : decode cX1_meet 339 = .ok (.iload 10, 2) := by decide +kernel
theorem dX1_meet_341 : decode cX1_meet 341 = .ok (.invokevirtual 104, 3) := by decide +kernel
theorem dX1_meet_344 : decode cX1_meet 344 = .ok (.iadd, 1) := by decide +kernel
theorem dX1_meet_345 : decode cX1_meet 345 = .ok (.invokestatic 90, 3) := by decide +kernel
theorem dX1_meet_348 : decode cX1_meet 348 = .ok (.putfield 25, 3) := by decide +kernel
theorem dX1_meet_351 : decode cX1_meet 351 = .ok (.return_, 1) := by decide +kernel
