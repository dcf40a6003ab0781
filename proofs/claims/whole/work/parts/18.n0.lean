theorem dX0_pick_0 : decode cX0_pick 0 = .ok (.iload_n 1, 1) := by decide +kernel
theorem dX0_pick_1 : decode cX0_pick 1 = .ok (.ifCond .ne 10, 3) := by decide +kernel
theorem dX0_pick_4 : decode cX0_pick 4 = .ok (.aload_n 0, 1) := by decide +kernel
theorem dX0_pick_5 : decode cX0_pick 5 = .ok (.getfield 18, 3) := by decide +kernel
theorem dX0_pick_8 : decode cX0_pick 8 = .ok (.goto 19, 3) := by decide +kernel
theorem dX0_pick_11 : decode cX0_pick 11 = .ok (.iload_n 1, 1) := by decide +kernel
theorem dX0_pick_12 : decode cX0_pick 12 = .ok (.iconst 1, 1) := by decide +kernel
theorem dX0_pick_13 : decode cX0_pick 13 = .ok (.if_icmp .ne 10, 3) := by decide +kernel
theorem dX0_pick_16 : decode cX0_pick 16 = .ok (.aload_n 0, 1) := by decide +kernel
theorem dX0_pick_17 : decode cX0_pick 17 = .ok (.getfield 22, 3) := by decide +kernel
theorem dX0_pick_20 : decode cX0_pick 20 = .ok (.goto 7, 3) := by decide +kernel
theorem dX0_pick_23 : decode cX0_pick 23 = .ok (.aload_n 0, 1) := by decide +kernel
theorem dX0_pick_24 : decode cX0_pick 24 = .ok (.getfield 25, 3) := by decide +kernel
theorem dX0_pick_27 : decode cX0_pick 27 = .ok (.areturn, 1) := by decide +kernel
set_option maxRecDepth 20000 in
theorem ggX0_clear_X3_clear : GoodIn wsX0_clear wsX3_clear := goodIn_r _ [13, 14, 15, 16, 17, 18, 19, 12, 20, 21, 32, 33, 34, 35, 36, 37] (by decide +kernel) (by decide +kernel)
set_option maxRecDepth 20000 in
theorem gX0_clear_X3_clear : GoodIn wsX0_clear (wsV RX0 48 RX3 yX3_clear wsX3_clear) := goodIn_app (goodIn_of _ (by decide +kernel)) ggX0_clear_X3_clear
theorem dX0_clear_0 : decode cX0_clear 0 = .ok (.aload_n 0, 1) := by decide +kernel
theorem dX0_clear_1 : decode cX0_clear 1 = .ok (.getfield 18, 3) := by decide +kernel
theorem dX0_clear_4 : decode cX0_clear 4 = .ok (.invokevirtual 48, 3) := by decide +kernel
theorem dX0_clear_7 : decode cX0_clear 7 = .ok (.aload_n 0, 1) := by decide +kernel
theorem dX0_clear_8 : decode cX0_clear 8 = .ok (.getfield 22, 3) := by decide +kernel
theorem dX0_clear_11 : decode cX0_clear 11 = .ok (.invokevirtual 48, 3) := by decide +kernel
theorem dX0_clear_14 : decode cX0_clear 14 = .ok (.aload_n 0, 1) := by decide +kernel
theorem dX0_clear_15 : decode cX0_clear 15 = .ok (.getfield 25, 3) := by decide +kernel
theorem dX0_clear_18 : decode cX0_clear 18 = .ok (.invokevirtual 48, 3) := by decide +kernel
theorem dX0_clear_21 : decode cX0_clear 21 = .ok (.aload_n 0, 1) := by decide +kernel
theorem dX0_clear_22 : decode cX0_clear 22 = .ok (.iconst 0, 1) := by decide +kernel
theorem dX0_clear_23 : decode cX0_clear 23 = .ok (.putfield 32, 3) := by decide +kernel
theorem dX0_clear_26 : decode cX0_clear 26 = .ok (.aload_n 0, 1) := by decide +kernel
theorem dX0_clear_27 : decode cX0_clear 27 = .ok (.iconst 0, 1) := by decide +kernel
theorem dX0_clear_28 : decode cX0_clear 28 = .ok (.putfield 35, 3) := by decide +kernel
theorem dX0_clear_31 : decode cX0_clear 31 = .ok (.aload_n 0, 1) := by decide +kernel
theorem dX0_clear_32 : decode cX0_clear 32 = .ok (.iconst 0, 1) := by decide +kernel
theorem dX0_clear_33 : decode cX0_clear 33 = .ok (.putfield 38, 3) := by decide +kernel
theorem dX0_clear_36 : decode cX0_clear 36 = .ok (.aload_n 0, 1) := by decide +kernel
theorem dX0_clear_37 : decode cX0_clear 37 = .ok (.iconst 0, 1) := by decide +kernel
theorem dX0_clear_38 : decode cX0_clear 38 = .ok (.putfield 41, 3) := by decide +kernel
theorem dX0_clear_41 : decode cX0_clear 41 = .ok (.aload_n 0, 1) := by decide +kernel
theorem dX0_clear_42 : decode cX0_clear 42 = .ok (.iconst 0, 1) := by decide +kernel
theorem dX0_clear_43 : decode cX0_clear 43 = .ok (.putfield 44, 3) := by decide +kernel
theorem dX0_clear_46 : decode cX0_clear 46 = .ok (.return_, 1) := by decide +kernel
theorem dX0_add_0 : decode cX0_add 0 = .ok (.aload_n 1, 1) := by decide +kernel
theorem dX0_add_1 : decode cX0_add 1 = .ok (.getfield 51, 3) := by decide +kernel
theorem dX0_add_4 : decode cX0_add 4 = .ok (.ifCond .eq 37, 3) := by decide +kernel
theorem dX0_add_7 : decode cX0_add 7 = .ok (.aload_n 0, 1) := by decide +kernel
theorem dX0_add_8 : decode cX0_add 8 = .ok (.dup, 1) := by decide +kernel
theorem dX0_add_9 : decode cX0_add 9 = .ok (.getfield 38, 3) := by decide +kernel
theorem dX0_add_12 : decode cX0_add 12 = .ok (.aload_n 1, 1) := by decide +kernel
theorem dX0_add_13 : decode cX0_add 13 = .ok (.getfield 56, 3) := by decide +kernel
theorem dX0_add_16 : decode cX0_add 16 = .ok (.iadd, 1) := by decide +kernel
theorem dX0_add_17 : decode cX0_add 17 = .ok (.putfield 38, 3) := by decide +kernel
theorem dX0_add_20 : decode cX0_add 20 = .ok (.aload_n 0, 1) := by decide +kernel
theorem dX0_add_21 : decode cX0_add 21 = .ok (.dup, 1) := by decide +kernel
theorem dX0_add_22 : decode cX0_add 22 = .ok (.getfield 41, 3) := by decide +kernel
theorem dX0_add_25 : decode cX0_add 25 = .ok (.aload_n 1, 1) := by decide +kernel
theorem dX0_add_26 : decode cX0_add 26 = .ok (.getfield 59, 3) := by decide +kernel
theorem dX0_add_29 : decode cX0_add 29 = .ok (.iadd, 1) := by decide +kernel
theorem dX0_add_30 : decode cX0_add 30 = .ok (.putfield 41, 3) := by decide +kernel
theorem dX0_add_33 : decode cX0_add 33 = .ok (.aload_n 0, 1) := by decide +kernel
theorem dX0_add_34 : decode cX0_add 34 = .ok (.iconst 1, 1) := by decide +kernel
theorem dX0_add_35 : decode cX0_add 35 = .ok (.putfield 44, 3) := by decide +kernel
theorem dX0_add_38 : decode cX0_add 38 = .ok (.goto 29, 3) := by decide +kernel
theorem dX0_add_41 : decode cX0_add 41 = .ok (.aload_n 0, 1) := by decide +kernel
theorem dX0_add_42 : decode cX0_add 42 = .ok (.dup, 1) := by decide +kernel
theorem dX0_add_43 : decode cX0_add 43 = .ok (.getfield 32, 3) := by decide +kernel
theorem dX0_add_46 : decode cX0_add 46 = .ok (.aload_n 1, 1) := by decide +kernel
theorem dX0_add_47 : decode cX0_add 47 = .ok (.getfield 56, 3) := by decide +kernel
theorem dX0_add_50 : decode cX0_add 50 = .ok (.iadd, 1) := by decide +kernel
theorem dX0_add_51 : decode cX0_add 51 = .ok (.putfield 32, 3) := by decide +kernel
theorem dX0_add_54 : decode cX0_add 54 = .ok (.aload_n 0, 1) := by decide +kernel
theorem dX0_add_55 : decode cX0_add 55 = .ok (.dup, 1) := by decide +kernel
theorem dX0_add_56 : decode cX0_add 56 = .ok (.getfield 35, 3) := by decide +kernel
theorem dX0_add_59 : decode cX0_add 59 = .ok (.aload_n 1, 1) := by decide +kernel
theorem dX0_add_60 : decode cX0_add 60 = .ok (.getfield 59, 3) := by decide +kernel
theorem dX0_add_63 : decode cX0_add 63 = .ok (.iadd, 1) := by decide +kernel
theorem dX0_add_64 : decode cX0_add 64 = .ok (.putfield 35, 3) := by decide +kernel
theorem dX0_add_67 : decode cX0_add 67 = .ok (.return_, 1) := by decide +kernel
set_option maxRecDepth 20000 in
theorem ggX0_settle_X0_isTakenBehind : GoodIn wsX0_settle wsX0_isTakenBehind := goodIn_r _ [8, 9, 10, 58, 59, 60, 61, 62, 63, 64, 65, 66, 67] (by decide +kernel) (by decide +kernel)
set_option maxRecDepth 20000 in
theorem gX0_settle_X0_isTakenBehind : GoodIn wsX0_settle (wsV RX0 62 RX0 yX0_isTakenBehind wsX0_isTakenBehind) := goodIn_app (goodIn_of _ (by decide +kernel)) ggX0_settle_X0_isTakenBehind
set_option maxRecDepth 20000 in
theorem ggX0_settle_X3_setPrice : GoodIn wsX0_settle wsX3_setPrice := goodIn_r _ [15, 16, 68, 69, 70, 71, 72, 73] (by decide +kernel) (by decide +kernel)
set_option maxRecDepth 20000 in
theorem gX0_settle_X3_setPrice : GoodIn wsX0_settle (wsV RX0 66 RX3 yX3_setPrice wsX3_setPrice) := goodIn_app (goodIn_of _ (by decide +kernel)) ggX0_settle_X3_setPrice
set_option maxRecDepth 20000 in
theorem ggX0_settle_X3_isOpen : GoodIn wsX0_settle wsX3_isOpen := goodIn_r _ [20, 21, 22, 23, 14, 24, 16, 68, 69, 70, 71, 72, 73] (by decide +kernel) (by decide +kernel)
set_option maxRecDepth 20000 in
theorem gX0_settle_X3_isOpen : GoodIn wsX0_settle (wsV RX0 70 RX3 yX3_isOpen wsX3_isOpen) := goodIn_app (goodIn_of _ (by decide +kernel)) ggX0_settle_X3_isOpen
set_option maxRecDepth 20000 in
theorem ggX0_settle_X0_joinFirsts : GoodIn wsX0_settle wsX0_joinFirsts := goodIn_r _ [28, 29, 30, 31, 32, 33, 34, 3, 35, 36, 37, 7, 38, 39, 40, 41, 42, 43, 44, 22, 23, 14, 24, 16, 45, 46, 47, 11, 12, 13, 15, 58, 59, 60, 61, 62, 63, 64, 65, 66, 67, 68, 69, 70, 71, 72, 73] (by decide +kernel) (by decide +kernel)
set_option maxRecDepth 20000 in
theorem gX0_settle_X0_joinFirsts : GoodIn wsX0_settle (wsV RX0 73 RX0 yX0_joinFirsts wsX0_joinFirsts) := goodIn_app (goodIn_of _ (by decide +kernel)) ggX0_settle_X0_joinFirsts
set_option maxRecDepth 20000 in
theorem ggX0_settle_X3_bound : GoodIn wsX0_settle wsX3_bound := goodIn_r _ [51, 52, 53, 54, 55, 31, 56, 57, 18, 19, 14, 20, 21, 22, 23, 24, 16, 68, 69, 70, 71, 72, 73] (by decide +kernel) (by decide +kernel)
set_option maxRecDepth 20000 in
theorem gX0_settle_X3_bound : GoodIn wsX0_settle (wsV RX0 77 RX3 yX3_bound wsX3_bound) := goodIn_app (goodIn_of _ (by decide +kernel)) ggX0_settle_X3_bound
theorem dX0_settle_0 : decode cX0_settle 0 = .ok (.bipush (-50), 2) := by decide +kernel
theorem dX0_settle_2 : decode cX0_settle 2 = .ok (.istore_n 1, 1) := by decide +kernel
theorem dX0_settle_3 : decode cX0_settle 3 = .ok (.iload_n 1, 1) := by decide +kernel
theorem dX0_settle_4 : decode cX0_settle 4 = .ok (.bipush 50, 2) := by decide +kernel
theorem dX0_settle_6 : decode cX0_settle 6 = .ok (.if_icmp .gt 49, 3) := by decide +kernel
theorem dX0_settle_9 : decode cX0_settle 9 = .ok (.aload_n 0, 1) := by decide +kernel
theorem dX0_settle_10 : decode cX0_settle 10 = .ok (.getfield 44, 3) := by decide +kernel
theorem dX0_settle_13 : decode cX0_settle 13 = .ok (.ifCond .eq 20, 3) := by decide +kernel
theorem dX0_settle_16 : decode cX0_settle 16 = .ok (.aload_n 0, 1) := by decide +kernel
theorem dX0_settle_17 : decode cX0_settle 17 = .ok (.iload_n 1, 1) := by decide +kernel
theorem dX0_settle_18 : decode cX0_settle 18 = .ok (.invokevirtual 62, 3) := by decide +kernel
theorem dX0_settle_21 : decode cX0_settle 21 = .ok (.ifCond .ne 12, 3) := by decide +kernel
theorem dX0_settle_24 : decode cX0_settle 24 = .ok (.aload_n 0, 1) := by decide +kernel
theorem dX0_settle_25 : decode cX0_settle 25 = .ok (.getfield 25, 3) := by decide +kernel
theorem dX0_settle_28 : decode cX0_settle 28 = .ok (.iload_n 1, 1) := by decide +kernel
theorem dX0_settle_29 : decode cX0_settle 29 = .ok (.iconst (-1), 1) := by decide +kernel
theorem dX0_settle_30 : decode cX0_settle 30 = .ok (.invokevirtual 66, 3) := by decide +kernel
theorem dX0_settle_33 : decode cX0_settle 33 = .ok (.aload_n 0, 1) := by decide +kernel
theorem dX0_settle_34 : decode cX0_settle 34 = .ok (.getfield 22, 3) := by decide +kernel
theorem dX0_settle_37 : decode cX0_settle 37 = .ok (.iload_n 1, 1) := by decide +kernel
theorem dX0_settle_38 : decode cX0_settle 38 = .ok (.invokevirtual 70, 3) := by decide +kernel
theorem dX0_settle_41 : decode cX0_settle 41 = .ok (.ifCond .eq 8, 3) := by decide +kernel
theorem dX0_settle_44 : decode cX0_settle 44 = .ok (.aload_n 0, 1) := by decide +kernel
theorem dX0_settle_45 : decode cX0_settle 45 = .ok (.iload_n 1, 1) := by decide +kernel
theorem dX0_settle_46 : decode cX0_settle 46 = .ok (.invokevirtual 73, 3) := by decide +kernel
theorem dX0_settle_49 : decode cX0_settle 49 = .ok (.iinc 1 1, 3) := by decide +kernel
theorem dX0_settle_52 : decode cX0_settle 52 = .ok (.goto (-49), 3) := by decide +kernel
theorem dX0_settle_55 : decode cX0_settle 55 = .ok (.aload_n 0, 1) := by decide +kernel
theorem dX0_settle_56 : decode cX0_settle 56 = .ok (.getfield 22, 3) := by decide +kernel
theorem dX0_settle_59 : decode cX0_settle 59 = .ok (.invokevirtual 77, 3) := by decide +kernel
theorem dX0_settle_62 : decode cX0_settle 62 = .ok (.aload_n 0, 1) := by decide +kernel
theorem dX0_settle_63 : decode cX0_settle 63 = .ok (.getfield 25, 3) := by decide +kernel
theorem dX0_settle_66 : decode cX0_settle 66 = .ok (.invokevirtual 77, 3) := by decide +kernel
theorem dX0_settle_69 : decode cX0_settle 69 = .ok (.return_, 1) := by decide +kernel
theorem dX0_firstCount_0 : decode cX0_firstCount 0 = .ok (.iload_n 1, 1) := by decide +kernel
theorem dX0_firstCount_1 : decode cX0_firstCount 1 = .ok (.bipush (-50), 2) := by decide +kernel
theorem dX0_firstCount_3 : decode cX0_firstCount 3 = .ok (.if_icmp .lt 9, 3) := by decide +kernel
theorem dX0_firstCount_6 : decode cX0_firstCount 6 = .ok (.iload_n 1, 1) := by decide +kernel
theorem dX0_firstCount_7 : decode cX0_firstCount 7 = .ok (.bipush 50, 2) := by decide +kernel
theorem dX0_firstCount_9 : decode cX0_firstCount 9 = .ok (.if_icmp .le 7, 3) := by decide +kernel
theorem dX0_firstCount_12 : decode cX0_firstCount 12 = .ok (.iconst 0, 1) := by decide +kernel
theorem dX0_firstCount_13 : decode cX0_firstCount 13 = .ok (.goto 12, 3) := by decide +kernel
theorem dX0_firstCount_16 : decode cX0_firstCount 16 = .ok (.aload_n 0, 1) := by decide +kernel
theorem dX0_firstCount_17 : decode cX0_firstCount 17 = .ok (.getfield 28, 3) := by decide +kernel
theorem dX0_firstCount_20 : decode cX0_firstCount 20 = .ok (.iload_n 1, 1) := by decide +kernel
theorem dX0_firstCount_21 : decode cX0_firstCount 21 = .ok (.bipush (-50), 2) := by decide +kernel
theorem dX0_firstCount_23 : decode cX0_firstCount 23 = .ok (.isub, 1) := by decide +kernel
theorem dX0_firstCount_24 : decode cX0_firstCount 24 = .ok (.iaload, 1) := by decide +kernel
theorem dX0_firstCount_25 : decode cX0_firstCount 25 = .ok (.ireturn, 1) := by decide +kernel
set_option maxRecDepth 20000 in
theorem ggX0_seeFirsts_X3_isSeen : GoodIn wsX0_seeFirsts wsX3_isSeen := goodIn_r _ [13, 14, 48, 49, 50, 51, 52, 53] (by decide +kernel) (by decide +kernel)
set_option maxRecDepth 20000 in
theorem gX0_seeFirsts_X3_isSeen : GoodIn wsX0_seeFirsts (wsV RX0 92 RX3 yX3_isSeen wsX3_isSeen) := goodIn_app (goodIn_of _ (by decide +kernel)) ggX0_seeFirsts_X3_isSeen
set_option maxRecDepth 20000 in
theorem ggX0_seeFirsts_X0_isTakenAhead : GoodIn wsX0_seeFirsts wsX0_isTakenAhead := goodIn_r _ [19, 20, 21, 38, 39, 40, 41, 42, 43, 44, 45, 46, 47] (by decide +kernel) (by decide +kernel)
set_option maxRecDepth 20000 in
theorem gX0_seeFirsts_X0_isTakenAhead : GoodIn wsX0_seeFirsts (wsV RX0 95 RX0 yX0_isTakenAhead wsX0_isTakenAhead) := goodIn_app (goodIn_of _ (by decide +kernel)) ggX0_seeFirsts_X0_isTakenAhead
set_option maxRecDepth 20000 in
theorem ggX0_seeFirsts_X0_firstFor : GoodIn wsX0_seeFirsts wsX0_firstFor := goodIn_r _ [24] (by decide +kernel) (by decide +kernel)
set_option maxRecDepth 20000 in
theorem gX0_seeFirsts_X0_firstFor : GoodIn wsX0_seeFirsts (va_wsS RX0 99 yX0_firstFor wsX0_firstFor) := goodIn_app (goodIn_of _ (by decide +kernel)) ggX0_seeFirsts_X0_firstFor
set_option maxRecDepth 20000 in
theorem ggX0_seeFirsts_X3_isOpen : GoodIn wsX0_seeFirsts wsX3_isOpen := goodIn_r _ [28, 29, 30, 31, 12, 32, 33, 48, 49, 50, 51, 52, 53] (by decide +kernel) (by decide +kernel)
set_option maxRecDepth 20000 in
theorem gX0_seeFirsts_X3_isOpen : GoodIn wsX0_seeFirsts (wsV RX0 70 RX3 yX3_isOpen wsX3_isOpen) := goodIn_app (goodIn_of _ (by decide +kernel)) ggX0_seeFirsts_X3_isOpen
set_option maxRecDepth 20000 in
theorem ggX0_seeFirsts_X3_see : GoodIn wsX0_seeFirsts wsX3_see := goodIn_r _ [37, 14, 48, 49, 50, 51, 52, 53] (by decide +kernel) (by decide +kernel)
set_option maxRecDepth 20000 in
theorem gX0_seeFirsts_X3_see : GoodIn wsX0_seeFirsts (wsV RX0 103 RX3 yX3_see wsX3_see) := goodIn_app (goodIn_of _ (by decide +kernel)) ggX0_seeFirsts_X3_see
theorem dX0_seeFirsts_0 : decode cX0_seeFirsts 0 = .ok (.aload_n 0, 1) := by decide +kernel
theorem dX0_seeFirsts_1 : decode cX0_seeFirsts 1 = .ok (.getfield 22, 3) := by decide +kernel
theorem dX0_seeFirsts_4 : decode cX0_seeFirsts 4 = .ok (.getfield 80, 3) := by decide +kernel
theorem dX0_seeFirsts_7 : decode cX0_seeFirsts 7 = .ok (.istore_n 1, 1) := by decide +kernel
theorem dX0_seeFirsts_8 : decode cX0_seeFirsts 8 = .ok (.iload_n 1, 1) := by decide +kernel
theorem dX0_seeFirsts_9 : decode cX0_seeFirsts 9 = .ok (.aload_n 0, 1) := by decide +kernel
theorem dX0_seeFirsts_10 : decode cX0_seeFirsts 10 = .ok (.getfield 22, 3) := by decide +kernel
theorem dX0_seeFirsts_13 : decode cX0_seeFirsts 13 = .ok (.getfield 83, 3) := by decide +kernel
theorem dX0_seeFirsts_16 : decode cX0_seeFirsts 16 = .ok (.if_icmp .gt 73, 3) := by decide +kernel
theorem dX0_seeFirsts_19 : decode cX0_seeFirsts 19 = .ok (.iload_n 1, 1) := by decide +kernel
theorem dX0_seeFirsts_20 : decode cX0_seeFirsts 20 = .ok (.invokestatic 86, 3) := by decide +kernel
theorem dX0_seeFirsts_23 : decode cX0_seeFirsts 23 = .ok (.istore_n 2, 1) := by decide +kernel
theorem dX0_seeFirsts_24 : decode cX0_seeFirsts 24 = .ok (.aload_n 0, 1) := by decide +kernel
theorem dX0_seeFirsts_25 : decode cX0_seeFirsts 25 = .ok (.getfield 22, 3) := by decide +kernel
theorem dX0_seeFirsts_28 : decode cX0_seeFirsts 28 = .ok (.iload_n 1, 1) := by decide +kernel
theorem dX0_seeFirsts_29 : decode cX0_seeFirsts 29 = .ok (.invokevirtual 92, 3) := by decide +kernel
theorem dX0_seeFirsts_32 : decode cX0_seeFirsts 32 = .ok (.ifCond .eq 51, 3) := by decide +kernel
theorem dX0_seeFirsts_35 : decode cX0_seeFirsts 35 = .ok (.iload_n 2, 1) := by decide +kernel
theorem dX0_seeFirsts_36 : decode cX0_seeFirsts 36 = .ok (.bipush 50, 2) := by decide +kernel
theorem dX0_seeFirsts_38 : decode cX0_seeFirsts 38 = .ok (.if_icmp .gt 45, 3) := by decide +kernel
theorem dX0_seeFirsts_41 : decode cX0_seeFirsts 41 = .ok (.aload_n 0, 1) := by decide +kernel
theorem dX0_seeFirsts_42 : decode cX0_seeFirsts 42 = .ok (.iload_n 2, 1) := by decide +kernel
theorem dX0_seeFirsts_43 : decode cX0_seeFirsts 43 = .ok (.iload_n 1, 1) := by decide +kernel
theorem dX0_seeFirsts_44 : decode cX0_seeFirsts 44 = .ok (.invokevirtual 95, 3) := by decide +kernel
theorem dX0_seeFirsts_47 : decode cX0_seeFirsts 47 = .ok (.ifCond .eq 30, 3) := by decide +kernel
theorem dX0_seeFirsts_50 : decode cX0_seeFirsts 50 = .ok (.aload_n 0, 1) := by decide +kernel
theorem dX0_seeFirsts_51 : decode cX0_seeFirsts 51 = .ok (.getfield 18, 3) := by decide +kernel
theorem dX0_seeFirsts_54 : decode cX0_seeFirsts 54 = .ok (.iload_n 2, 1) := by decide +kernel
theorem dX0_seeFirsts_55 : decode cX0_seeFirsts 55 = .ok (.iload_n 1, 1) := by decide +kernel
theorem dX0_seeFirsts_56 : decode cX0_seeFirsts 56 = .ok (.invokestatic 99, 3) := by decide +kernel
theorem dX0_seeFirsts_59 : decode cX0_seeFirsts 59 = .ok (.invokevirtual 70, 3) := by decide +kernel
theorem dX0_seeFirsts_62 : decode cX0_seeFirsts 62 = .ok (.ifCond .eq 15, 3) := by decide +kernel
theorem dX0_seeFirsts_65 : decode cX0_seeFirsts 65 = .ok (.aload_n 0, 1) := by decide +kernel
theorem dX0_seeFirsts_66 : decode cX0_seeFirsts 66 = .ok (.getfield 18, 3) := by decide +kernel
theorem dX0_seeFirsts_69 : decode cX0_seeFirsts 69 = .ok (.iload_n 2, 1) := by decide +kernel
theorem dX0_seeFirsts_70 : decode cX0_seeFirsts 70 = .ok (.iload_n 1, 1) := by decide +kernel
theorem dX0_seeFirsts_71 : decode cX0_seeFirsts 71 = .ok (.invokestatic 99, 3) := by decide +kernel
theorem dX0_seeFirsts_74 : decode cX0_seeFirsts 74 = .ok (.invokevirtual 103, 3) := by decide +kernel
theorem dX0_seeFirsts_77 : decode cX0_seeFirsts 77 = .ok (.iinc 2 1, 3) := by decide +kernel
theorem dX0_seeFirsts_80 : decode cX0_seeFirsts 80 = .ok (.goto (-56), 3) := by decide +kernel
theorem dX0_seeFirsts_83 : decode cX0_seeFirsts 83 = .ok (.iinc 1 1, 3) := by decide +kernel
theorem dX0_seeFirsts_86 : decode cX0_seeFirsts 86 = .ok (.goto (-78), 3) := by decide +kernel
theorem dX0_seeFirsts_89 : decode cX0_seeFirsts 89 = .ok (.return_, 1) := by decide +kernel
set_option maxRecDepth 20000 in
theorem ggX0_joinFirsts_X0_isTakenAhead : GoodIn wsX0_joinFirsts wsX0_isTakenAhead := goodIn_r _ [12, 13, 14, 31, 32, 33, 34, 35, 36, 37, 38, 39, 40] (by decide +kernel) (by decide +kernel)
set_option maxRecDepth 20000 in
theorem gX0_joinFirsts_X0_isTakenAhead : GoodIn wsX0_joinFirsts (wsV RX0 95 RX0 yX0_isTakenAhead wsX0_isTakenAhead) := goodIn_app (goodIn_of _ (by decide +kernel)) ggX0_joinFirsts_X0_isTakenAhead
set_option maxRecDepth 20000 in
theorem ggX0_joinFirsts_X0_firstFor : GoodIn wsX0_joinFirsts wsX0_firstFor := goodIn_r _ [17] (by decide +kernel) (by decide +kernel)
set_option maxRecDepth 20000 in
theorem gX0_joinFirsts_X0_firstFor : GoodIn wsX0_joinFirsts (va_wsS RX0 99 yX0_firstFor wsX0_firstFor) := goodIn_app (goodIn_of _ (by decide +kernel)) ggX0_joinFirsts_X0_firstFor
set_option maxRecDepth 20000 in
theorem ggX0_joinFirsts_X3_priceOf : GoodIn wsX0_joinFirsts wsX3_priceOf := goodIn_r _ [22, 23, 41, 42, 43, 44, 45, 46] (by decide +kernel) (by decide +kernel)
set_option maxRecDepth 20000 in
theorem gX0_joinFirsts_X3_priceOf : GoodIn wsX0_joinFirsts (wsV RX0 106 RX3 yX3_priceOf wsX3_priceOf) := goodIn_app (goodIn_of _ (by decide +kernel)) ggX0_joinFirsts_X3_priceOf
set_option maxRecDepth 20000 in
theorem ggX0_joinFirsts_X5_cheaper : GoodIn wsX0_joinFirsts wsX5_cheaper := goodIn_r _ [26] (by decide +kernel) (by decide +kernel)
set_option maxRecDepth 20000 in
theorem gX0_joinFirsts_X5_cheaper_n109 : GoodIn wsX0_joinFirsts (wsX5_cheaper) := ggX0_joinFirsts_X5_cheaper
set_option maxRecDepth 20000 in
theorem ggX0_joinFirsts_X3_setPrice : GoodIn wsX0_joinFirsts wsX3_setPrice := goodIn_r _ [30, 23, 41, 42, 43, 44, 45, 46] (by decide +kernel) (by decide +kernel)
set_option maxRecDepth 20000 in
theorem gX0_joinFirsts_X3_setPrice : GoodIn wsX0_joinFirsts (wsV RX0 66 RX3 yX3_setPrice wsX3_setPrice) := goodIn_app (goodIn_of _ (by decide +kernel)) ggX0_joinFirsts_X3_setPrice
theorem dX0_joinFirsts_0 : decode cX0_joinFirsts 0 = .ok (.iconst 0, 1) := by decide +kernel
theorem dX0_joinFirsts_1 : decode cX0_joinFirsts 1 = .ok (.istore_n 2, 1) := by decide +kernel
theorem dX0_joinFirsts_2 : decode cX0_joinFirsts 2 = .ok (.iconst (-1), 1) := by decide +kernel
theorem dX0_joinFirsts_3 : decode cX0_joinFirsts 3 = .ok (.istore_n 3, 1) := by decide +kernel
theorem dX0_joinFirsts_4 : decode cX0_joinFirsts 4 = .ok (.iload_n 1, 1) := by decide +kernel
theorem dX0_joinFirsts_5 : decode cX0_joinFirsts 5 = .ok (.invokestatic 86, 3) := by decide +kernel
theorem dX0_joinFirsts_8 : decode cX0_joinFirsts 8 = .ok (.istore 4, 2) := by decide +kernel
theorem dX0_joinFirsts_10 : decode cX0_joinFirsts 10 = .ok (.iload 4, 2) := by decide +kernel
theorem dX0_joinFirsts_12 : decode cX0_joinFirsts 12 = .ok (.bipush 50, 2) := by decide +kernel
theorem dX0_joinFirsts_14 : decode cX0_joinFirsts 14 = .ok (.if_icmp .gt 54, 3) := by decide +kernel
theorem dX0_joinFirsts_17 : decode cX0_joinFirsts 17 = .ok (.aload_n 0, 1) := by decide +kernel
theorem dX0_joinFirsts_18 : decode cX0_joinFirsts 18 = .ok (.iload 4, 2) := by decide +kernel
theorem dX0_joinFirsts_20 : decode cX0_joinFirsts 20 = .ok (.iload_n 1, 1) := by decide +kernel
theorem dX0_joinFirsts_21 : decode cX0_joinFirsts 21 = .ok (.invokevirtual 95, 3) := by decide +kernel
theorem dX0_joinFirsts_24 : decode cX0_joinFirsts 24 = .ok (.ifCond .eq 19, 3) := by decide +kernel
theorem dX0_joinFirsts_27 : decode cX0_joinFirsts 27 = .ok (.aload_n 0, 1) := by decide +kernel
theorem dX0_joinFirsts_28 : decode cX0_joinFirsts 28 = .ok (.getfield 18, 3) := by decide +kernel
theorem dX0_joinFirsts_31 : decode cX0_joinFirsts 31 = .ok (.iload 4, 2) := by decide +kernel
theorem dX0_joinFirsts_33 : decode cX0_joinFirsts 33 = .ok (.iload_n 1, 1) := by decide +kernel
theorem dX0_joinFirsts_34 : decode cX0_joinFirsts 34 = .ok (.invokestatic 99, 3) := by decide +kernel
theorem dX0_joinFirsts_37 : decode cX0_joinFirsts 37 = .ok (.invokevirtual 106, 3) := by decide +kernel
theorem dX0_joinFirsts_40 : decode cX0_joinFirsts 40 = .ok (.goto 4, 3) := by decide +kernel
theorem dX0_joinFirsts_43 : decode cX0_joinFirsts 43 = .ok (.iconst (-1), 1) := by decide +kernel
theorem dX0_joinFirsts_44 : decode cX0_joinFirsts 44 = .ok (.istore 5, 2) := by decide +kernel
theorem dX0_joinFirsts_46 : decode cX0_joinFirsts 46 = .ok (.iload 5, 2) := by decide +kernel
theorem dX0_joinFirsts_48 : decode cX0_joinFirsts 48 = .ok (.iconst (-1), 1) := by decide +kernel
theorem dX0_joinFirsts_49 : decode cX0_joinFirsts 49 = .ok (.if_icmp .eq 13, 3) := by decide +kernel
theorem dX0_joinFirsts_52 : decode cX0_joinFirsts 52 = .ok (.iinc 2 1, 3) := by decide +kernel
theorem dX0_joinFirsts_55 : decode cX0_joinFirsts 55 = .ok (.iload_n 3, 1) := by decide +kernel
theorem dX0_joinFirsts_56 : decode cX0_joinFirsts 56 = .ok (.iload 5, 2) := by decide +kernel
theorem dX0_joinFirsts_58 : decode cX0_joinFirsts 58 = .ok (.invokestatic 109, 3) := by decide +kernel
theorem dX0_joinFirsts_61 : decode cX0_joinFirsts 61 = .ok (.istore_n 3, 1) := by decide +kernel
theorem dX0_joinFirsts_62 : decode cX0_joinFirsts 62 = .ok (.iinc 4 1, 3) := by decide +kernel
theorem dX0_joinFirsts_65 : decode cX0_joinFirsts 65 = .ok (.goto (-55), 3) := by decide +kernel
theorem dX0_joinFirsts_68 : decode cX0_joinFirsts 68 = .ok (.iload_n 1, 1) := by decide +kernel
theorem dX0_joinFirsts_69 : decode cX0_joinFirsts 69 = .ok (.bipush (-50), 2) := by decide +kernel
theorem dX0_joinFirsts_71 : decode cX0_joinFirsts 71 = .ok (.if_icmp .lt 19, 3) := by decide +kernel
theorem dX0_joinFirsts_74 : decode cX0_joinFirsts 74 = .ok (.iload_n 1, 1) := by decide +kernel
theorem dX0_joinFirsts_75 : decode cX0_joinFirsts 75 = .ok (.bipush 50, 2) := by decide +kernel
theorem dX0_joinFirsts_77 : decode cX0_joinFirsts 77 = .ok (.if_icmp .gt 13, 3) := by decide +kernel
theorem dX0_joinFirsts_80 : decode cX0_joinFirsts 80 = .ok (.aload_n 0, 1) := by decide +kernel
theorem dX0_joinFirsts_81 : decode cX0_joinFirsts 81 = .ok (.getfield 28, 3) := by decide +kernel
theorem dX0_joinFirsts_84 : decode cX0_joinFirsts 84 = .ok (.iload_n 1, 1) := by decide +kernel
theorem dX0_joinFirsts_85 : decode cX0_joinFirsts 85 = .ok (.bipush (-50), 2) := by decide +kernel
theorem dX0_joinFirsts_87 : decode cX0_joinFirsts 87 = .ok (.isub, 1) := by decide +kernel
theorem dX0_joinFirsts_88 : decode cX0_joinFirsts 88 = .ok (.iload_n 2, 1) := by decide +kernel
theorem dX0_joinFirsts_89 : decode cX0_joinFirsts 89 = .ok (.iastore, 1) := by decide +kernel
theorem dX0_joinFirsts_90 : decode cX0_joinFirsts 90 = .ok (.aload_n 0, 1) := by decide +kernel
theorem dX0_joinFirsts_91 : decode cX0_joinFirsts 91 = .ok (.getfield 22, 3) := by decide +kernel
theorem dX0_joinFirsts_94 : decode cX0_joinFirsts 94 = .ok (.iload_n 1, 1) := by decide +kernel
theorem dX0_joinFirsts_95 : decode cX0_joinFirsts 95 = .ok (.iload_n 3, 1) := by decide +kernel
theorem dX0_joinFirsts_96 : decode cX0_joinFirsts 96 = .ok (.iconst (-1), 1) := by decide +kernel
theorem dX0_joinFirsts_97 : decode cX0_joinFirsts 97 = .ok (.if_icmp .ne 7, 3) := by decide +kernel
theorem dX0_joinFirsts_100 : decode cX0_joinFirsts 100 = .ok (.iconst (-1), 1) := by decide +kernel
theorem dX0_joinFirsts_101 : decode cX0_joinFirsts 101 = .ok (.goto 13, 3) := by decide +kernel
theorem dX0_joinFirsts_104 : decode cX0_joinFirsts 104 = .ok (.aload_n 0, 1) := by decide +kernel
theorem dX0_joinFirsts_105 : decode cX0_joinFirsts 105 = .ok (.getfield 22, 3) := by decide +kernel
theorem dX0_joinFirsts_108 : decode cX0_joinFirsts 108 = .ok (.iload_n 1, 1) := by decide +kernel
theorem dX0_joinFirsts_109 : decode cX0_joinFirsts 109 = .ok (.invokevirtual 106, 3) := by decide +kernel
theorem dX0_joinFirsts_112 : decode cX0_joinFirsts 112 = .ok (.iload_n 3, 1) := by decide +kernel
theorem dX0_joinFirsts_113 : decode cX0_joinFirsts 113 = .ok (.iadd, 1) := by decide +kernel
theorem dX0_joinFirsts_114 : decode cX0_joinFirsts 114 = .ok (.invokevirtual 66, 3) := by decide +kernel
theorem dX0_joinFirsts_117 : decode cX0_joinFirsts 117 = .ok (.return_, 1) := by decide +kernel
theorem dX0_firstFor_0 : decode cX0_firstFor 0 = .ok (.iload_n 1, 1) := by decide +kernel
theorem dX0_firstFor_1 : decode cX0_firstFor 1 = .ok (.ifCond .ge 8, 3) := by decide +kernel
theorem dX0_firstFor_4 : decode cX0_firstFor 4 = .ok (.iload_n 0, 1) := by decide +kernel
theorem dX0_firstFor_5 : decode cX0_firstFor 5 = .ok (.ineg, 1) := by decide +kernel
theorem dX0_firstFor_6 : decode cX0_firstFor 6 = .ok (.goto 4, 3) := by decide +kernel
theorem dX0_firstFor_9 : decode cX0_firstFor 9 = .ok (.iload_n 0, 1) := by decide +kernel
theorem dX0_firstFor_10 : decode cX0_firstFor 10 = .ok (.ireturn, 1) := by decide +kernel
theorem dX0_isTakenAhead_0 : decode cX0_isTakenAhead 0 = .ok (.bipush 51, 2) := by decide +kernel
theorem dX0_isTakenAhead_2 : decode cX0_isTakenAhead 2 = .ok (.iload_n 1, 1) := by decide +kernel
theorem dX0_isTakenAhead_3 : decode cX0_isTakenAhead 3 = .ok (.imul, 1) := by decide +kernel
theorem dX0_isTakenAhead_4 : decode cX0_isTakenAhead 4 = .ok (.iload_n 1, 1) := by decide +kernel
theorem dX0_isTakenAhead_5 : decode cX0_isTakenAhead 5 = .ok (.imul, 1) := by decide +kernel
theorem dX0_isTakenAhead_6 : decode cX0_isTakenAhead 6 = .ok (.bipush 51, 2) := by decide +kernel
theorem dX0_isTakenAhead_8 : decode cX0_isTakenAhead 8 = .ok (.iload_n 2, 1) := by decide +kernel
theorem dX0_isTakenAhead_9 : decode cX0_isTakenAhead 9 = .ok (.imul, 1) := by decide +kernel
theorem dX0_isTakenAhead_10 : decode cX0_isTakenAhead 10 = .ok (.iload_n 2, 1) := by decide +kernel
theorem dX0_isTakenAhead_11 : decode cX0_isTakenAhead 11 = .ok (.imul, 1) := by decide +kernel
theorem dX0_isTakenAhead_12 : decode cX0_isTakenAhead 12 = .ok (.isub, 1) := by decide +kernel
theorem dX0_isTakenAhead_13 : decode cX0_isTakenAhead 13 = .ok (.istore_n 3, 1) := by decide +kernel
theorem dX0_isTakenAhead_14 : decode cX0_isTakenAhead 14 = .ok (.iload_n 3, 1) := by decide +kernel
theorem dX0_isTakenAhead_15 : decode cX0_isTakenAhead 15 = .ok (.aload_n 0, 1) := by decide +kernel
theorem dX0_isTakenAhead_16 : decode cX0_isTakenAhead 16 = .ok (.getfield 32, 3) := by decide +kernel
theorem dX0_isTakenAhead_19 : decode cX0_isTakenAhead 19 = .ok (.if_icmp .lt 15, 3) := by decide +kernel
theorem dX0_isTakenAhead_22 : decode cX0_isTakenAhead 22 = .ok (.iload_n 3, 1) := by decide +kernel
theorem dX0_isTakenAhead_23 : decode cX0_isTakenAhead 23 = .ok (.aload_n 0, 1) := by decide +kernel
theorem dX0_isTakenAhead_24 : decode cX0_isTakenAhead 24 = .ok (.getfield 35, 3) := by decide +kernel
theorem dX0_isTakenAhead_27 : decode cX0_isTakenAhead 27 = .ok (.if_icmp .gt 7, 3) := by decide +kernel
theorem dX0_isTakenAhead_30 : decode cX0_isTakenAhead 30 = .ok (.iconst 1, 1) := by decide +kernel
theorem dX0_isTakenAhead_31 : decode cX0_isTakenAhead 31 = .ok (.goto 4, 3) := by decide +kernel
theorem dX0_isTakenAhead_34 : decode cX0_isTakenAhead 34 = .ok (.iconst 0, 1) := by decide +kernel
theorem dX0_isTakenAhead_35 : decode cX0_isTakenAhead 35 = .ok (.ireturn, 1) := by decide +kernel
theorem dX0_isTakenBehind_0 : decode cX0_isTakenBehind 0 = .ok (.bipush 51, 2) := by decide +kernel
theorem dX0_isTakenBehind_2 : decode cX0_isTakenBehind 2 = .ok (.iload_n 1, 1) := by decide +kernel
theorem dX0_isTakenBehind_3 : decode cX0_isTakenBehind 3 = .ok (.imul, 1) := by decide +kernel
theorem dX0_isTakenBehind_4 : decode cX0_isTakenBehind 4 = .ok (.iload_n 1, 1) := by decide +kernel
theorem dX0_isTakenBehind_5 : decode cX0_isTakenBehind 5 = .ok (.imul, 1) := by decide +kernel
theorem dX0_isTakenBehind_6 : decode cX0_isTakenBehind 6 = .ok (.istore_n 2, 1) := by decide +kernel
theorem dX0_isTakenBehind_7 : decode cX0_isTakenBehind 7 = .ok (.iload_n 2, 1) := by decide +kernel
theorem dX0_isTakenBehind_8 : decode cX0_isTakenBehind 8 = .ok (.aload_n 0, 1) := by decide +kernel
theorem dX0_isTakenBehind_9 : decode cX0_isTakenBehind 9 = .ok (.getfield 38, 3) := by decide +kernel
theorem dX0_isTakenBehind_12 : decode cX0_isTakenBehind 12 = .ok (.if_icmp .lt 15, 3) := by decide +kernel
theorem dX0_isTakenBehind_15 : decode cX0_isTakenBehind 15 = .ok (.iload_n 2, 1) := by decide +kernel
theorem dX0_isTakenBehind_16 : decode cX0_isTakenBehind 16 = .ok (.aload_n 0, 1) := by decide +kernel
theorem dX0_isTakenBehind_17 : decode cX0_isTakenBehind 17 = .ok (.getfield 41, 3) := by decide +kernel
theorem dX0_isTakenBehind_20 : decode cX0_isTakenBehind 20 = .ok (.if_icmp .gt 7, 3) := by decide +kernel
theorem dX0_isTakenBehind_23 : decode cX0_isTakenBehind 23 = .ok (.iconst 1, 1) := by decide +kernel
theorem dX0_isTakenBehind_24 : decode cX0_isTakenBehind 24 = .ok (.goto 4, 3) := by decide +kernel
theorem dX0_isTakenBehind_27 : decode cX0_isTakenBehind 27 = .ok (.iconst 0, 1) := by decide +kernel
theorem dX0_isTakenBehind_28 : decode cX0_isTakenBehind 28 = .ok (.ireturn, 1) := by decide +kernel
theorem dX5_cheaper_0 : decode cX5_cheaper 0 = .ok (.iload_n 0, 1) := by decide +kernel
theorem dX5_cheaper_1 : decode cX5_cheaper 1 = .ok (.iconst (-1), 1) := by decide +kernel
theorem dX5_cheaper_2 : decode cX5_cheaper 2 = .ok (.if_icmp .eq 8, 3) := by decide +kernel
theorem dX5_cheaper_5 : decode cX5_cheaper 5 = .ok (.iload_n 1, 1) := by decide +kernel
theorem dX5_cheaper_6 : decode cX5_cheaper 6 = .ok (.iload_n 0, 1) := by decide +kernel
theorem dX5_cheaper_7 : decode cX5_cheaper 7 = .ok (.if_icmp .ge 7, 3) := by decide +kernel
theorem dX5_cheaper_10 : decode cX5_cheaper 10 = .ok (.iload_n 1, 1) := by decide +kernel
theorem dX5_cheaper_11 : decode cX5_cheaper 11 = .ok (.goto 4, 3) := by decide +kernel
theorem dX5_cheaper_14 : decode cX5_cheaper 14 = .ok (.iload_n 0, 1) := by decide +kernel
theorem dX5_cheaper_15 : decode cX5_cheaper 15 = .ok (.ireturn, 1) := by decide +kernel
