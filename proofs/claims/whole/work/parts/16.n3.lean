theorem dX3_init_0 : decode cX3_init 0 = .ok (.aload_n 0, 1) := by decide +kernel
theorem dX3_init_1 : decode cX3_init 1 = .ok (.invokespecial 3, 3) := by decide +kernel
theorem dX3_init_4 : decode cX3_init 4 = .ok (.aload_n 0, 1) := by decide +kernel
theorem dX3_init_5 : decode cX3_init 5 = .ok (.bipush (-50), 2) := by decide +kernel
theorem dX3_init_7 : decode cX3_init 7 = .ok (.putfield 9, 3) := by decide +kernel
theorem dX3_init_10 : decode cX3_init 10 = .ok (.aload_n 0, 1) := by decide +kernel
theorem dX3_init_11 : decode cX3_init 11 = .ok (.bipush 50, 2) := by decide +kernel
theorem dX3_init_13 : decode cX3_init 13 = .ok (.putfield 15, 3) := by decide +kernel
theorem dX3_init_16 : decode cX3_init 16 = .ok (.aload_n 0, 1) := by decide +kernel
theorem dX3_init_17 : decode cX3_init 17 = .ok (.bipush (-50), 2) := by decide +kernel
theorem dX3_init_19 : decode cX3_init 19 = .ok (.putfield 18, 3) := by decide +kernel
theorem dX3_init_22 : decode cX3_init 22 = .ok (.aload_n 0, 1) := by decide +kernel
theorem dX3_init_23 : decode cX3_init 23 = .ok (.bipush 50, 2) := by decide +kernel
theorem dX3_init_25 : decode cX3_init 25 = .ok (.putfield 21, 3) := by decide +kernel
theorem dX3_init_28 : decode cX3_init 28 = .ok (.aload_n 0, 1) := by decide +kernel
theorem dX3_init_29 : decode cX3_init 29 = .ok (.bipush 101, 2) := by decide +kernel
theorem dX3_init_31 : decode cX3_init 31 = .ok (.newarray .int, 2) := by decide +kernel
theorem dX3_init_33 : decode cX3_init 33 = .ok (.putfield 24, 3) := by decide +kernel
theorem dX3_init_36 : decode cX3_init 36 = .ok (.aload_n 0, 1) := by decide +kernel
theorem dX3_init_37 : decode cX3_init 37 = .ok (.bipush 101, 2) := by decide +kernel
theorem dX3_init_39 : decode cX3_init 39 = .ok (.newarray .boolean, 2) := by decide +kernel
theorem dX3_init_41 : decode cX3_init 41 = .ok (.putfield 28, 3) := by decide +kernel
theorem dX3_init_44 : decode cX3_init 44 = .ok (.return_, 1) := by decide +kernel
set_option maxRecDepth 20000 in
theorem ggX3_clear_X3_setPrice : GoodIn wsX3_clear wsX3_setPrice := goodIn_r _ [8, 9, 10, 11, 12, 13, 14, 15] (by decide +kernel) (by decide +kernel)
set_option maxRecDepth 20000 in
theorem gX3_clear_X3_setPrice : GoodIn wsX3_clear (wsV RX3 32 RX3 yX3_setPrice wsX3_setPrice) := goodIn_app (goodIn_of _ (by decide +kernel)) ggX3_clear_X3_setPrice
theorem dX3_clear_0 : decode cX3_clear 0 = .ok (.bipush (-50), 2) := by decide +kernel
theorem dX3_clear_2 : decode cX3_clear 2 = .ok (.istore_n 1, 1) := by decide +kernel
theorem dX3_clear_3 : decode cX3_clear 3 = .ok (.iload_n 1, 1) := by decide +kernel
theorem dX3_clear_4 : decode cX3_clear 4 = .ok (.bipush 50, 2) := by decide +kernel
theorem dX3_clear_6 : decode cX3_clear 6 = .ok (.if_icmp .gt 45, 3) := by decide +kernel
theorem dX3_clear_9 : decode cX3_clear 9 = .ok (.aload_n 0, 1) := by decide +kernel
theorem dX3_clear_10 : decode cX3_clear 10 = .ok (.iload_n 1, 1) := by decide +kernel
theorem dX3_clear_11 : decode cX3_clear 11 = .ok (.iload_n 1, 1) := by decide +kernel
theorem dX3_clear_12 : decode cX3_clear 12 = .ok (.aload_n 0, 1) := by decide +kernel
theorem dX3_clear_13 : decode cX3_clear 13 = .ok (.getfield 9, 3) := by decide +kernel
theorem dX3_clear_16 : decode cX3_clear 16 = .ok (.if_icmp .lt 11, 3) := by decide +kernel
theorem dX3_clear_19 : decode cX3_clear 19 = .ok (.iload_n 1, 1) := by decide +kernel
theorem dX3_clear_20 : decode cX3_clear 20 = .ok (.aload_n 0, 1) := by decide +kernel
theorem dX3_clear_21 : decode cX3_clear 21 = .ok (.getfield 15, 3) := by decide +kernel
theorem dX3_clear_24 : decode cX3_clear 24 = .ok (.if_icmp .le 7, 3) := by decide +kernel
theorem dX3_clear_27 : decode cX3_clear 27 = .ok (.iconst (-1), 1) := by decide +kernel
theorem dX3_clear_28 : decode cX3_clear 28 = .ok (.goto 4, 3) := by decide +kernel
theorem dX3_clear_31 : decode cX3_clear 31 = .ok (.iconst 0, 1) := by decide +kernel
theorem dX3_clear_32 : decode cX3_clear 32 = .ok (.invokevirtual 32, 3) := by decide +kernel
theorem dX3_clear_35 : decode cX3_clear 35 = .ok (.aload_n 0, 1) := by decide +kernel
theorem dX3_clear_36 : decode cX3_clear 36 = .ok (.getfield 28, 3) := by decide +kernel
theorem dX3_clear_39 : decode cX3_clear 39 = .ok (.iload_n 1, 1) := by decide +kernel
theorem dX3_clear_40 : decode cX3_clear 40 = .ok (.bipush (-50), 2) := by decide +kernel
theorem dX3_clear_42 : decode cX3_clear 42 = .ok (.isub, 1) := by decide +kernel
theorem dX3_clear_43 : decode cX3_clear 43 = .ok (.iconst 0, 1) := by decide +kernel
theorem dX3_clear_44 : decode cX3_clear 44 = .ok (.bastore, 1) := by decide +kernel
theorem dX3_clear_45 : decode cX3_clear 45 = .ok (.iinc 1 1, 3) := by decide +kernel
theorem dX3_clear_48 : decode cX3_clear 48 = .ok (.goto (-45), 3) := by decide +kernel
theorem dX3_clear_51 : decode cX3_clear 51 = .ok (.return_, 1) := by decide +kernel
set_option maxRecDepth 20000 in
theorem ggX3_hear_X3_isOpen : GoodIn wsX3_hear wsX3_isOpen := goodIn_r _ [7, 8, 9, 10, 6, 11, 12, 21, 22, 23, 24, 25, 26] (by decide +kernel) (by decide +kernel)
set_option maxRecDepth 20000 in
theorem gX3_hear_X3_isOpen : GoodIn wsX3_hear (wsV RX3 40 RX3 yX3_isOpen wsX3_isOpen) := goodIn_app (goodIn_of _ (by decide +kernel)) ggX3_hear_X3_isOpen
set_option maxRecDepth 20000 in
theorem ggX3_hear_X3_priceOf : GoodIn wsX3_hear wsX3_priceOf := goodIn_r _ [11, 12, 21, 22, 23, 24, 25, 26] (by decide +kernel) (by decide +kernel)
set_option maxRecDepth 20000 in
theorem gX3_hear_X3_priceOf : GoodIn wsX3_hear (wsV RX3 44 RX3 yX3_priceOf wsX3_priceOf) := goodIn_app (goodIn_of _ (by decide +kernel)) ggX3_hear_X3_priceOf
set_option maxRecDepth 20000 in
theorem ggX3_hear_X3_setPrice : GoodIn wsX3_hear wsX3_setPrice := goodIn_r _ [16, 12, 21, 22, 23, 24, 25, 26] (by decide +kernel) (by decide +kernel)
set_option maxRecDepth 20000 in
theorem gX3_hear_X3_setPrice : GoodIn wsX3_hear (wsV RX3 32 RX3 yX3_setPrice wsX3_setPrice) := goodIn_app (goodIn_of _ (by decide +kernel)) ggX3_hear_X3_setPrice
theorem dX3_hear_0 : decode cX3_hear 0 = .ok (.bipush (-50), 2) := by decide +kernel
theorem dX3_hear_2 : decode cX3_hear 2 = .ok (.istore_n 3, 1) := by decide +kernel
theorem dX3_hear_3 : decode cX3_hear 3 = .ok (.iload_n 3, 1) := by decide +kernel
theorem dX3_hear_4 : decode cX3_hear 4 = .ok (.bipush 50, 2) := by decide +kernel
theorem dX3_hear_6 : decode cX3_hear 6 = .ok (.if_icmp .gt 66, 3) := by decide +kernel
theorem dX3_hear_9 : decode cX3_hear 9 = .ok (.iload_n 3, 1) := by decide +kernel
theorem dX3_hear_10 : decode cX3_hear 10 = .ok (.aload_n 1, 1) := by decide +kernel
theorem dX3_hear_11 : decode cX3_hear 11 = .ok (.getfield 36, 3) := by decide +kernel
theorem dX3_hear_14 : decode cX3_hear 14 = .ok (.if_icmp .lt 15, 3) := by decide +kernel
theorem dX3_hear_17 : decode cX3_hear 17 = .ok (.iload_n 3, 1) := by decide +kernel
theorem dX3_hear_18 : decode cX3_hear 18 = .ok (.aload_n 1, 1) := by decide +kernel
theorem dX3_hear_19 : decode cX3_hear 19 = .ok (.getfield 39, 3) := by decide +kernel
theorem dX3_hear_22 : decode cX3_hear 22 = .ok (.if_icmp .gt 7, 3) := by decide +kernel
theorem dX3_hear_25 : decode cX3_hear 25 = .ok (.iconst 1, 1) := by decide +kernel
theorem dX3_hear_26 : decode cX3_hear 26 = .ok (.goto 4, 3) := by decide +kernel
theorem dX3_hear_29 : decode cX3_hear 29 = .ok (.iconst 0, 1) := by decide +kernel
theorem dX3_hear_30 : decode cX3_hear 30 = .ok (.istore 4, 2) := by decide +kernel
theorem dX3_hear_32 : decode cX3_hear 32 = .ok (.iload 4, 2) := by decide +kernel
theorem dX3_hear_34 : decode cX3_hear 34 = .ok (.ifCond .ne 32, 3) := by decide +kernel
theorem dX3_hear_37 : decode cX3_hear 37 = .ok (.aload_n 0, 1) := by decide +kernel
theorem dX3_hear_38 : decode cX3_hear 38 = .ok (.iload_n 3, 1) := by decide +kernel
theorem dX3_hear_39 : decode cX3_hear 39 = .ok (.invokevirtual 40, 3) := by decide +kernel
theorem dX3_hear_42 : decode cX3_hear 42 = .ok (.ifCond .eq 24, 3) := by decide +kernel
theorem dX3_hear_45 : decode cX3_hear 45 = .ok (.aload_n 0, 1) := by decide +kernel
theorem dX3_hear_46 : decode cX3_hear 46 = .ok (.iload_n 3, 1) := by decide +kernel
theorem dX3_hear_47 : decode cX3_hear 47 = .ok (.iload_n 2, 1) := by decide +kernel
theorem dX3_hear_48 : decode cX3_hear 48 = .ok (.iconst (-1), 1) := by decide +kernel
theorem dX3_hear_49 : decode cX3_hear 49 = .ok (.if_icmp .ne 7, 3) := by decide +kernel
theorem dX3_hear_52 : decode cX3_hear 52 = .ok (.iconst (-1), 1) := by decide +kernel
theorem dX3_hear_53 : decode cX3_hear 53 = .ok (.goto 10, 3) := by decide +kernel
theorem dX3_hear_56 : decode cX3_hear 56 = .ok (.aload_n 0, 1) := by decide +kernel
theorem dX3_hear_57 : decode cX3_hear 57 = .ok (.iload_n 3, 1) := by decide +kernel
theorem dX3_hear_58 : decode cX3_hear 58 = .ok (.invokevirtual 44, 3) := by decide +kernel
theorem dX3_hear_61 : decode cX3_hear 61 = .ok (.iload_n 2, 1) := by decide +kernel
theorem dX3_hear_62 : decode cX3_hear 62 = .ok (.iadd, 1) := by decide +kernel
theorem dX3_hear_63 : decode cX3_hear 63 = .ok (.invokevirtual 32, 3) := by decide +kernel
theorem dX3_hear_66 : decode cX3_hear 66 = .ok (.iinc 3 1, 3) := by decide +kernel
theorem dX3_hear_69 : decode cX3_hear 69 = .ok (.goto (-66), 3) := by decide +kernel
theorem dX3_hear_72 : decode cX3_hear 72 = .ok (.return_, 1) := by decide +kernel
theorem dX3_priceOf_0 : decode cX3_priceOf 0 = .ok (.iload_n 1, 1) := by decide +kernel
theorem dX3_priceOf_1 : decode cX3_priceOf 1 = .ok (.bipush (-50), 2) := by decide +kernel
theorem dX3_priceOf_3 : decode cX3_priceOf 3 = .ok (.if_icmp .lt 9, 3) := by decide +kernel
theorem dX3_priceOf_6 : decode cX3_priceOf 6 = .ok (.iload_n 1, 1) := by decide +kernel
theorem dX3_priceOf_7 : decode cX3_priceOf 7 = .ok (.bipush 50, 2) := by decide +kernel
theorem dX3_priceOf_9 : decode cX3_priceOf 9 = .ok (.if_icmp .le 7, 3) := by decide +kernel
theorem dX3_priceOf_12 : decode cX3_priceOf 12 = .ok (.iconst (-1), 1) := by decide +kernel
theorem dX3_priceOf_13 : decode cX3_priceOf 13 = .ok (.goto 12, 3) := by decide +kernel
theorem dX3_priceOf_16 : decode cX3_priceOf 16 = .ok (.aload_n 0, 1) := by decide +kernel
theorem dX3_priceOf_17 : decode cX3_priceOf 17 = .ok (.getfield 24, 3) := by decide +kernel
theorem dX3_priceOf_20 : decode cX3_priceOf 20 = .ok (.iload_n 1, 1) := by decide +kernel
theorem dX3_priceOf_21 : decode cX3_priceOf 21 = .ok (.bipush (-50), 2) := by decide +kernel
theorem dX3_priceOf_23 : decode cX3_priceOf 23 = .ok (.isub, 1) := by decide +kernel
theorem dX3_priceOf_24 : decode cX3_priceOf 24 = .ok (.iaload, 1) := by decide +kernel
theorem dX3_priceOf_25 : decode cX3_priceOf 25 = .ok (.ireturn, 1) := by decide +kernel
set_option maxRecDepth 20000 in
theorem ggX3_isOpen_X3_priceOf : GoodIn wsX3_isOpen wsX3_priceOf := goodIn_r _ [5, 6, 7, 8, 9, 10, 11, 12] (by decide +kernel) (by decide +kernel)
set_option maxRecDepth 20000 in
theorem gX3_isOpen_X3_priceOf : GoodIn wsX3_isOpen (wsV RX3 44 RX3 yX3_priceOf wsX3_priceOf) := goodIn_app (goodIn_of _ (by decide +kernel)) ggX3_isOpen_X3_priceOf
theorem dX3_isOpen_0 : decode cX3_isOpen 0 = .ok (.aload_n 0, 1) := by decide +kernel
theorem dX3_isOpen_1 : decode cX3_isOpen 1 = .ok (.iload_n 1, 1) := by decide +kernel
theorem dX3_isOpen_2 : decode cX3_isOpen 2 = .ok (.invokevirtual 44, 3) := by decide +kernel
theorem dX3_isOpen_5 : decode cX3_isOpen 5 = .ok (.iconst (-1), 1) := by decide +kernel
theorem dX3_isOpen_6 : decode cX3_isOpen 6 = .ok (.if_icmp .eq 7, 3) := by decide +kernel
theorem dX3_isOpen_9 : decode cX3_isOpen 9 = .ok (.iconst 1, 1) := by decide +kernel
theorem dX3_isOpen_10 : decode cX3_isOpen 10 = .ok (.goto 4, 3) := by decide +kernel
theorem dX3_isOpen_13 : decode cX3_isOpen 13 = .ok (.iconst 0, 1) := by decide +kernel
theorem dX3_isOpen_14 : decode cX3_isOpen 14 = .ok (.ireturn, 1) := by decide +kernel
theorem dX3_setPrice_0 : decode cX3_setPrice 0 = .ok (.iload_n 1, 1) := by decide +kernel
theorem dX3_setPrice_1 : decode cX3_setPrice 1 = .ok (.bipush (-50), 2) := by decide +kernel
theorem dX3_setPrice_3 : decode cX3_setPrice 3 = .ok (.if_icmp .lt 19, 3) := by decide +kernel
theorem dX3_setPrice_6 : decode cX3_setPrice 6 = .ok (.iload_n 1, 1) := by decide +kernel
theorem dX3_setPrice_7 : decode cX3_setPrice 7 = .ok (.bipush 50, 2) := by decide +kernel
theorem dX3_setPrice_9 : decode cX3_setPrice 9 = .ok (.if_icmp .gt 13, 3) := by decide +kernel
theorem dX3_setPrice_12 : decode cX3_setPrice 12 = .ok (.aload_n 0, 1) := by decide +kernel
theorem dX3_setPrice_13 : decode cX3_setPrice 13 = .ok (.getfield 24, 3) := by decide +kernel
theorem dX3_setPrice_16 : decode cX3_setPrice 16 = .ok (.iload_n 1, 1) := by decide +kernel
theorem dX3_setPrice_17 : decode cX3_setPrice 17 = .ok (.bipush (-50), 2) := by decide +kernel
theorem dX3_setPrice_19 : decode cX3_setPrice 19 = .ok (.isub, 1) := by decide +kernel
theorem dX3_setPrice_20 : decode cX3_setPrice 20 = .ok (.iload_n 2, 1) := by decide +kernel
theorem dX3_setPrice_21 : decode cX3_setPrice 21 = .ok (.iastore, 1) := by decide +kernel
theorem dX3_setPrice_22 : decode cX3_setPrice 22 = .ok (.return_, 1) := by decide +kernel
set_option maxRecDepth 20000 in
theorem ggX3_bound_X3_isOpen : GoodIn wsX3_bound wsX3_isOpen := goodIn_r _ [11, 12, 13, 14, 10, 15, 16, 17, 18, 19, 20, 21, 22] (by decide +kernel) (by decide +kernel)
set_option maxRecDepth 20000 in
theorem gX3_bound_X3_isOpen : GoodIn wsX3_bound (wsV RX3 40 RX3 yX3_isOpen wsX3_isOpen) := goodIn_app (goodIn_of _ (by decide +kernel)) ggX3_bound_X3_isOpen
theorem dX3_bound_0 : decode cX3_bound 0 = .ok (.aload_n 0, 1) := by decide +kernel
theorem dX3_bound_1 : decode cX3_bound 1 = .ok (.bipush 51, 2) := by decide +kernel
theorem dX3_bound_3 : decode cX3_bound 3 = .ok (.putfield 18, 3) := by decide +kernel
theorem dX3_bound_6 : decode cX3_bound 6 = .ok (.aload_n 0, 1) := by decide +kernel
theorem dX3_bound_7 : decode cX3_bound 7 = .ok (.bipush (-51), 2) := by decide +kernel
theorem dX3_bound_9 : decode cX3_bound 9 = .ok (.putfield 21, 3) := by decide +kernel
theorem dX3_bound_12 : decode cX3_bound 12 = .ok (.bipush (-50), 2) := by decide +kernel
theorem dX3_bound_14 : decode cX3_bound 14 = .ok (.istore_n 1, 1) := by decide +kernel
theorem dX3_bound_15 : decode cX3_bound 15 = .ok (.iload_n 1, 1) := by decide +kernel
theorem dX3_bound_16 : decode cX3_bound 16 = .ok (.bipush 50, 2) := by decide +kernel
theorem dX3_bound_18 : decode cX3_bound 18 = .ok (.if_icmp .gt 34, 3) := by decide +kernel
theorem dX3_bound_21 : decode cX3_bound 21 = .ok (.aload_n 0, 1) := by decide +kernel
theorem dX3_bound_22 : decode cX3_bound 22 = .ok (.iload_n 1, 1) := by decide +kernel
theorem dX3_bound_23 : decode cX3_bound 23 = .ok (.invokevirtual 40, 3) := by decide +kernel
theorem dX3_bound_26 : decode cX3_bound 26 = .ok (.ifCond .eq 20, 3) := by decide +kernel
theorem dX3_bound_29 : decode cX3_bound 29 = .ok (.aload_n 0, 1) := by decide +kernel
theorem dX3_bound_30 : decode cX3_bound 30 = .ok (.aload_n 0, 1) := by decide +kernel
theorem dX3_bound_31 : decode cX3_bound 31 = .ok (.getfield 18, 3) := by decide +kernel
theorem dX3_bound_34 : decode cX3_bound 34 = .ok (.iload_n 1, 1) := by decide +kernel
theorem dX3_bound_35 : decode cX3_bound 35 = .ok (.invokestatic 48, 3) := by decide +kernel
theorem dX3_bound_38 : decode cX3_bound 38 = .ok (.putfield 18, 3) := by decide +kernel
theorem dX3_bound_41 : decode cX3_bound 41 = .ok (.aload_n 0, 1) := by decide +kernel
theorem dX3_bound_42 : decode cX3_bound 42 = .ok (.iload_n 1, 1) := by decide +kernel
theorem dX3_bound_43 : decode cX3_bound 43 = .ok (.putfield 21, 3) := by decide +kernel
theorem dX3_bound_46 : decode cX3_bound 46 = .ok (.iinc 1 1, 3) := by decide +kernel
theorem dX3_bound_49 : decode cX3_bound 49 = .ok (.goto (-34), 3) := by decide +kernel
theorem dX3_bound_52 : decode cX3_bound 52 = .ok (.return_, 1) := by decide +kernel
theorem dX3_see_0 : decode cX3_see 0 = .ok (.iload_n 1, 1) := by decide +kernel
theorem dX3_see_1 : decode cX3_see 1 = .ok (.bipush (-50), 2) := by decide +kernel
theorem dX3_see_3 : decode cX3_see 3 = .ok (.if_icmp .lt 19, 3) := by decide +kernel
theorem dX3_see_6 : decode cX3_see 6 = .ok (.iload_n 1, 1) := by decide +kernel
theorem dX3_see_7 : decode cX3_see 7 = .ok (.bipush 50, 2) := by decide +kernel
theorem dX3_see_9 : decode cX3_see 9 = .ok (.if_icmp .gt 13, 3) := by decide +kernel
theorem dX3_see_12 : decode cX3_see 12 = .ok (.aload_n 0, 1) := by decide +kernel
theorem dX3_see_13 : decode cX3_see 13 = .ok (.getfield 28, 3) := by decide +kernel
theorem dX3_see_16 : decode cX3_see 16 = .ok (.iload_n 1, 1) := by decide +kernel
theorem dX3_see_17 : decode cX3_see 17 = .ok (.bipush (-50), 2) := by decide +kernel
theorem dX3_see_19 : decode cX3_see 19 = .ok (.isub, 1) := by decide +kernel
theorem dX3_see_20 : decode cX3_see 20 = .ok (.iconst 1, 1) := by decide +kernel
theorem dX3_see_21 : decode cX3_see 21 = .ok (.bastore, 1) := by decide +kernel
theorem dX3_see_22 : decode cX3_see 22 = .ok (.return_, 1) := by decide +kernel
theorem dX3_isSeen_0 : decode cX3_isSeen 0 = .ok (.iload_n 1, 1) := by decide +kernel
theorem dX3_isSeen_1 : decode cX3_isSeen 1 = .ok (.bipush (-50), 2) := by decide +kernel
theorem dX3_isSeen_3 : decode cX3_isSeen 3 = .ok (.if_icmp .lt 25, 3) := by decide +kernel
theorem dX3_isSeen_6 : decode cX3_isSeen 6 = .ok (.iload_n 1, 1) := by decide +kernel
theorem dX3_isSeen_7 : decode cX3_isSeen 7 = .ok (.bipush 50, 2) := by decide +kernel
theorem dX3_isSeen_9 : decode cX3_isSeen 9 = .ok (.if_icmp .gt 19, 3) := by decide +kernel
theorem dX3_isSeen_12 : decode cX3_isSeen 12 = .ok (.aload_n 0, 1) := by decide +kernel
theorem dX3_isSeen_13 : decode cX3_isSeen 13 = .ok (.getfield 28, 3) := by decide +kernel
theorem dX3_isSeen_16 : decode cX3_isSeen 16 = .ok (.iload_n 1, 1) := by decide +kernel
theorem dX3_isSeen_17 : decode cX3_isSeen 17 = .ok (.bipush (-50), 2) := by decide +kernel
theorem dX3_isSeen_19 : decode cX3_isSeen 19 = .ok (.isub, 1) := by decide +kernel
theorem dX3_isSeen_20 : decode cX3_isSeen 20 = .ok (.baload, 1) := by decide +kernel
theorem dX3_isSeen_21 : decode cX3_isSeen 21 = .ok (.ifCond .eq 7, 3) := by decide +kernel
theorem dX3_isSeen_24 : decode cX3_isSeen 24 = .ok (.iconst 1, 1) := by decide +kernel
theorem dX3_isSeen_25 : decode cX3_isSeen 25 = .ok (.goto 4, 3) := by decide +kernel
theorem dX3_isSeen_28 : decode cX3_isSeen 28 = .ok (.iconst 0, 1) := by decide +kernel
theorem dX3_isSeen_29 : decode cX3_isSeen 29 = .ok (.ireturn, 1) := by decide +kernel
set_option maxRecDepth 20000 in
theorem ggX3_leastSeen_X3_isSeen : GoodIn wsX3_leastSeen wsX3_isSeen := goodIn_r _ [5, 6, 7, 8, 9, 10, 11, 12] (by decide +kernel) (by decide +kernel)
set_option maxRecDepth 20000 in
theorem gX3_leastSeen_X3_isSeen : GoodIn wsX3_leastSeen (wsV RX3 54 RX3 yX3_isSeen wsX3_isSeen) := goodIn_app (goodIn_of _ (by decide +kernel)) ggX3_leastSeen_X3_isSeen
theorem dX3_leastSeen_0 : decode cX3_leastSeen 0 = .ok (.bipush (-50), 2) := by decide +kernel
theorem dX3_leastSeen_2 : decode cX3_leastSeen 2 = .ok (.istore_n 1, 1) := by decide +kernel
theorem dX3_leastSeen_3 : decode cX3_leastSeen 3 = .ok (.iload_n 1, 1) := by decide +kernel
theorem dX3_leastSeen_4 : decode cX3_leastSeen 4 = .ok (.bipush 50, 2) := by decide +kernel
theorem dX3_leastSeen_6 : decode cX3_leastSeen 6 = .ok (.if_icmp .ge 19, 3) := by decide +kernel
theorem dX3_leastSeen_9 : decode cX3_leastSeen 9 = .ok (.aload_n 0, 1) := by decide +kernel
theorem dX3_leastSeen_10 : decode cX3_leastSeen 10 = .ok (.iload_n 1, 1) := by decide +kernel
theorem dX3_leastSeen_11 : decode cX3_leastSeen 11 = .ok (.invokevirtual 54, 3) := by decide +kernel
theorem dX3_leastSeen_14 : decode cX3_leastSeen 14 = .ok (.ifCond .eq 5, 3) := by decide +kernel
theorem dX3_leastSeen_17 : decode cX3_leastSeen 17 = .ok (.iload_n 1, 1) := by decide +kernel
theorem dX3_leastSeen_18 : decode cX3_leastSeen 18 = .ok (.ireturn, 1) := by decide +kernel
theorem dX3_leastSeen_19 : decode cX3_leastSeen 19 = .ok (.iinc 1 1, 3) := by decide +kernel
theorem dX3_leastSeen_22 : decode cX3_leastSeen 22 = .ok (.goto (-19), 3) := by decide +kernel
theorem dX3_leastSeen_25 : decode cX3_leastSeen 25 = .ok (.bipush 50, 2) := by decide +kernel
theorem dX3_leastSeen_27 : decode cX3_leastSeen 27 = .ok (.ireturn, 1) := by decide +kernel
set_option maxRecDepth 20000 in
theorem ggX3_greatestSeen_X3_isSeen : GoodIn wsX3_greatestSeen wsX3_isSeen := goodIn_r _ [5, 6, 7, 8, 9, 10, 11, 12] (by decide +kernel) (by decide +kernel)
set_option maxRecDepth 20000 in
theorem gX3_greatestSeen_X3_isSeen : GoodIn wsX3_greatestSeen (wsV RX3 54 RX3 yX3_isSeen wsX3_isSeen) := goodIn_app (goodIn_of _ (by decide +kernel)) ggX3_greatestSeen_X3_isSeen
theorem dX3_greatestSeen_0 : decode cX3_greatestSeen 0 = .ok (.bipush 50, 2) := by decide +kernel
theorem dX3_greatestSeen_2 : decode cX3_greatestSeen 2 = .ok (.istore_n 1, 1) := by decide +kernel
theorem dX3_greatestSeen_3 : decode cX3_greatestSeen 3 = .ok (.iload_n 1, 1) := by decide +kernel
theorem dX3_greatestSeen_4 : decode cX3_greatestSeen 4 = .ok (.bipush (-50), 2) := by decide +kernel
theorem dX3_greatestSeen_6 : decode cX3_greatestSeen 6 = .ok (.if_icmp .le 19, 3) := by decide +kernel
theorem dX3_greatestSeen_9 : decode cX3_greatestSeen 9 = .ok (.aload_n 0, 1) := by decide +kernel
theorem dX3_greatestSeen_10 : decode cX3_greatestSeen 10 = .ok (.iload_n 1, 1) := by decide +kernel
theorem dX3_greatestSeen_11 : decode cX3_greatestSeen 11 = .ok (.invokevirtual 54, 3) := by decide +kernel
theorem dX3_greatestSeen_14 : decode cX3_greatestSeen 14 = .ok (.ifCond .eq 5, 3) := by decide +kernel
theorem dX3_greatestSeen_17 : decode cX3_greatestSeen 17 = .ok (.iload_n 1, 1) := by decide +kernel
theorem dX3_greatestSeen_18 : decode cX3_greatestSeen 18 = .ok (.ireturn, 1) := by decide +kernel
theorem dX3_greatestSeen_19 : decode cX3_greatestSeen 19 = .ok (.iinc 1 (-1), 3) := by decide +kernel
theorem dX3_greatestSeen_22 : decode cX3_greatestSeen 22 = .ok (.goto (-19), 3) := by decide +kernel
theorem dX3_greatestSeen_25 : decode cX3_greatestSeen 25 = .ok (.bipush (-50), 2) := by decide +kernel
theorem dX3_greatestSeen_27 : decode cX3_greatestSeen 27 = .ok (.ireturn, 1) := by decide +kernel
