theorem q_out5 {x : Int32} (h0 : ¬ x = 0) (h1 : ¬ x = 1) (h2 : ¬ x = 2) (h3 : ¬ x = 3) (h4 : ¬ x = 4) : x.toInt < 0 ∨ 4 < x.toInt := by
  have e0 := lv_neT (a := 0) h0 rfl
  have e1 := lv_neT (a := 1) h1 rfl
  have e2 := lv_neT (a := 2) h2 rfl
  have e3 := lv_neT (a := 3) h3 rfl
  have e4 := lv_neT (a := 4) h4 rfl
  omega
theorem q_out16 {x : Int32} (h0 : ¬ x = 0) (h1 : ¬ x = 1) (h2 : ¬ x = 2) (h3 : ¬ x = 3) (h4 : ¬ x = 4) (h5 : ¬ x = 5) (h6 : ¬ x = 6) (h7 : ¬ x = 7) (h8 : ¬ x = 8) (h9 : ¬ x = 9) (h10 : ¬ x = 10) (h11 : ¬ x = 11) (h12 : ¬ x = 12) (h13 : ¬ x = 13) (h14 : ¬ x = 14) (h15 : ¬ x = 15) : x.toInt < 0 ∨ 15 < x.toInt := by
  have e0 := lv_neT (a := 0) h0 rfl
  have e1 := lv_neT (a := 1) h1 rfl
  have e2 := lv_neT (a := 2) h2 rfl
  have e3 := lv_neT (a := 3) h3 rfl
  have e4 := lv_neT (a := 4) h4 rfl
  have e5 := lv_neT (a := 5) h5 rfl
  have e6 := lv_neT (a := 6) h6 rfl
  have e7 := lv_neT (a := 7) h7 rfl
  have e8 := lv_neT (a := 8) h8 rfl
  have e9 := lv_neT (a := 9) h9 rfl
  have e10 := lv_neT (a := 10) h10 rfl
  have e11 := lv_neT (a := 11) h11 rfl
  have e12 := lv_neT (a := 12) h12 rfl
  have e13 := lv_neT (a := 13) h13 rfl
  have e14 := lv_neT (a := 14) h14 rfl
  have e15 := lv_neT (a := 15) h15 rfl
  omega
theorem dX6_thrown_0 : decode cX6_thrown 0 = .ok (.aload_n 0, 1) := by decide +kernel
theorem dX6_thrown_1 : decode cX6_thrown 1 = .ok (.getfield 66, 3) := by decide +kernel
theorem dX6_thrown_4 : decode cX6_thrown 4 = .ok (.ireturn, 1) := by decide +kernel
theorem dX6_throwsIf_0 : decode cX6_throwsIf 0 = .ok (.iload_n 1, 1) := by decide +kernel
theorem dX6_throwsIf_1 : decode cX6_throwsIf 1 = .ok (.ifCond .eq 8, 3) := by decide +kernel
theorem dX6_throwsIf_4 : decode cX6_throwsIf 4 = .ok (.aload_n 0, 1) := by decide +kernel
theorem dX6_throwsIf_5 : decode cX6_throwsIf 5 = .ok (.iload_n 2, 1) := by decide +kernel
theorem dX6_throwsIf_6 : decode cX6_throwsIf 6 = .ok (.putfield 66, 3) := by decide +kernel
theorem dX6_throwsIf_9 : decode cX6_throwsIf 9 = .ok (.iload_n 1, 1) := by decide +kernel
theorem dX6_throwsIf_10 : decode cX6_throwsIf 10 = .ok (.ireturn, 1) := by decide +kernel
theorem dX6_in_0 : decode cX6_in 0 = .ok (.iload_n 0, 1) := by decide +kernel
theorem dX6_in_1 : decode cX6_in 1 = .ok (.iload_n 1, 1) := by decide +kernel
theorem dX6_in_2 : decode cX6_in 2 = .ok (.if_icmp .lt 12, 3) := by decide +kernel
theorem dX6_in_5 : decode cX6_in 5 = .ok (.iload_n 0, 1) := by decide +kernel
theorem dX6_in_6 : decode cX6_in 6 = .ok (.iload_n 2, 1) := by decide +kernel
theorem dX6_in_7 : decode cX6_in 7 = .ok (.if_icmp .gt 7, 3) := by decide +kernel
theorem dX6_in_10 : decode cX6_in 10 = .ok (.iconst 1, 1) := by decide +kernel
theorem dX6_in_11 : decode cX6_in 11 = .ok (.goto 4, 3) := by decide +kernel
theorem dX6_in_14 : decode cX6_in 14 = .ok (.iconst 0, 1) := by decide +kernel
theorem dX6_in_15 : decode cX6_in 15 = .ok (.ireturn, 1) := by decide +kernel
set_option maxRecDepth 20000 in
theorem ggX6_noCar_X6_in : GoodIn wsX6_noCar wsX6_in := goodIn_r _ [4] (by decide +kernel) (by decide +kernel)
set_option maxRecDepth 20000 in
theorem gX6_noCar_X6_in : GoodIn wsX6_noCar (va_wsS RX6 70 yX6_in wsX6_in) := goodIn_app (goodIn_of _ (by decide +kernel)) ggX6_noCar_X6_in
theorem dX6_noCar_0 : decode cX6_noCar 0 = .ok (.iload_n 0, 1) := by decide +kernel
theorem dX6_noCar_1 : decode cX6_noCar 1 = .ok (.iconst 0, 1) := by decide +kernel
theorem dX6_noCar_2 : decode cX6_noCar 2 = .ok (.iconst 1, 1) := by decide +kernel
theorem dX6_noCar_3 : decode cX6_noCar 3 = .ok (.invokestatic 70, 3) := by decide +kernel
theorem dX6_noCar_6 : decode cX6_noCar 6 = .ok (.ifCond .ne 7, 3) := by decide +kernel
theorem dX6_noCar_9 : decode cX6_noCar 9 = .ok (.iconst 1, 1) := by decide +kernel
theorem dX6_noCar_10 : decode cX6_noCar 10 = .ok (.goto 4, 3) := by decide +kernel
theorem dX6_noCar_13 : decode cX6_noCar 13 = .ok (.iconst 0, 1) := by decide +kernel
theorem dX6_noCar_14 : decode cX6_noCar 14 = .ok (.ireturn, 1) := by decide +kernel
set_option maxRecDepth 20000 in
theorem ggX6_noSpeed_X6_noCar : GoodIn wsX6_noSpeed wsX6_noCar := goodIn_r _ [4, 5, 6, 3, 7] (by decide +kernel) (by decide +kernel)
set_option maxRecDepth 20000 in
theorem gX6_noSpeed_X6_noCar : GoodIn wsX6_noSpeed (va_wsS RX6 74 yX6_noCar wsX6_noCar) := goodIn_app (goodIn_of _ (by decide +kernel)) ggX6_noSpeed_X6_noCar
set_option maxRecDepth 20000 in
theorem ggX6_noSpeed_X6_in : GoodIn wsX6_noSpeed wsX6_in := goodIn_r _ [7] (by decide +kernel) (by decide +kernel)
set_option maxRecDepth 20000 in
theorem gX6_noSpeed_X6_in : GoodIn wsX6_noSpeed (va_wsS RX6 70 yX6_in wsX6_in) := goodIn_app (goodIn_of _ (by decide +kernel)) ggX6_noSpeed_X6_in
theorem dX6_noSpeed_0 : decode cX6_noSpeed 0 = .ok (.iload_n 0, 1) := by decide +kernel
theorem dX6_noSpeed_1 : decode cX6_noSpeed 1 = .ok (.invokestatic 74, 3) := by decide +kernel
theorem dX6_noSpeed_4 : decode cX6_noSpeed 4 = .ok (.ifCond .ne 12, 3) := by decide +kernel
theorem dX6_noSpeed_7 : decode cX6_noSpeed 7 = .ok (.iload_n 1, 1) := by decide +kernel
theorem dX6_noSpeed_8 : decode cX6_noSpeed 8 = .ok (.iconst 0, 1) := by decide +kernel
theorem dX6_noSpeed_9 : decode cX6_noSpeed 9 = .ok (.iconst 2, 1) := by decide +kernel
theorem dX6_noSpeed_10 : decode cX6_noSpeed 10 = .ok (.invokestatic 70, 3) := by decide +kernel
theorem dX6_noSpeed_13 : decode cX6_noSpeed 13 = .ok (.ifCond .ne 7, 3) := by decide +kernel
theorem dX6_noSpeed_16 : decode cX6_noSpeed 16 = .ok (.iconst 1, 1) := by decide +kernel
theorem dX6_noSpeed_17 : decode cX6_noSpeed 17 = .ok (.goto 4, 3) := by decide +kernel
theorem dX6_noSpeed_20 : decode cX6_noSpeed 20 = .ok (.iconst 0, 1) := by decide +kernel
theorem dX6_noSpeed_21 : decode cX6_noSpeed 21 = .ok (.ireturn, 1) := by decide +kernel
theorem dX6_noSpan_0 : decode cX6_noSpan 0 = .ok (.iload_n 0, 1) := by decide +kernel
theorem dX6_noSpan_1 : decode cX6_noSpan 1 = .ok (.bipush (-50), 2) := by decide +kernel
theorem dX6_noSpan_3 : decode cX6_noSpan 3 = .ok (.if_icmp .lt 14, 3) := by decide +kernel
theorem dX6_noSpan_6 : decode cX6_noSpan 6 = .ok (.iload_n 1, 1) := by decide +kernel
theorem dX6_noSpan_7 : decode cX6_noSpan 7 = .ok (.iload_n 0, 1) := by decide +kernel
theorem dX6_noSpan_8 : decode cX6_noSpan 8 = .ok (.if_icmp .lt 9, 3) := by decide +kernel
theorem dX6_noSpan_11 : decode cX6_noSpan 11 = .ok (.iload_n 1, 1) := by decide +kernel
theorem dX6_noSpan_12 : decode cX6_noSpan 12 = .ok (.bipush 50, 2) := by decide +kernel
theorem dX6_noSpan_14 : decode cX6_noSpan 14 = .ok (.if_icmp .le 7, 3) := by decide +kernel
theorem dX6_noSpan_17 : decode cX6_noSpan 17 = .ok (.iconst 1, 1) := by decide +kernel
theorem dX6_noSpan_18 : decode cX6_noSpan 18 = .ok (.goto 4, 3) := by decide +kernel
theorem dX6_noSpan_21 : decode cX6_noSpan 21 = .ok (.iconst 0, 1) := by decide +kernel
theorem dX6_noSpan_22 : decode cX6_noSpan 22 = .ok (.ireturn, 1) := by decide +kernel
set_option maxRecDepth 20000 in
theorem ggX6_mass_X6_noCar : GoodIn wsX6_mass wsX6_noCar := goodIn_r _ [6, 7, 8, 5, 9] (by decide +kernel) (by decide +kernel)
set_option maxRecDepth 20000 in
theorem gX6_mass_X6_noCar : GoodIn wsX6_mass (va_wsS RX6 74 yX6_noCar wsX6_noCar) := goodIn_app (goodIn_of _ (by decide +kernel)) ggX6_mass_X6_noCar
set_option maxRecDepth 20000 in
theorem ggX6_mass_X6_throwsIf : GoodIn wsX6_mass wsX6_throwsIf := goodIn_r _ [13, 1, 14, 15, 16, 17, 18, 19, 20, 21, 22, 23, 24, 25, 26, 27, 28, 29, 30, 31, 32, 33, 34, 35, 36] (by decide +kernel) (by decide +kernel)
set_option maxRecDepth 20000 in
theorem gX6_mass_X6_throwsIf : GoodIn wsX6_mass (wsV RX6 78 RX6 yX6_throwsIf wsX6_throwsIf) := goodIn_app (goodIn_of _ (by decide +kernel)) ggX6_mass_X6_throwsIf
set_option maxRecDepth 20000 in
theorem ggX6_mass_X6_in : GoodIn wsX6_mass wsX6_in := goodIn_r _ [9] (by decide +kernel) (by decide +kernel)
set_option maxRecDepth 20000 in
theorem gX6_mass_X6_in : GoodIn wsX6_mass (va_wsS RX6 70 yX6_in wsX6_in) := goodIn_app (goodIn_of _ (by decide +kernel)) ggX6_mass_X6_in
theorem dX6_mass_0 : decode cX6_mass 0 = .ok (.aload_n 0, 1) := by decide +kernel
theorem dX6_mass_1 : decode cX6_mass 1 = .ok (.iconst 0, 1) := by decide +kernel
theorem dX6_mass_2 : decode cX6_mass 2 = .ok (.putfield 66, 3) := by decide +kernel
theorem dX6_mass_5 : decode cX6_mass 5 = .ok (.aload_n 0, 1) := by decide +kernel
theorem dX6_mass_6 : decode cX6_mass 6 = .ok (.iload_n 1, 1) := by decide +kernel
theorem dX6_mass_7 : decode cX6_mass 7 = .ok (.invokestatic 74, 3) := by decide +kernel
theorem dX6_mass_10 : decode cX6_mass 10 = .ok (.iconst 1, 1) := by decide +kernel
theorem dX6_mass_11 : decode cX6_mass 11 = .ok (.invokevirtual 78, 3) := by decide +kernel
theorem dX6_mass_14 : decode cX6_mass 14 = .ok (.ifCond .ne 26, 3) := by decide +kernel
theorem dX6_mass_17 : decode cX6_mass 17 = .ok (.aload_n 0, 1) := by decide +kernel
theorem dX6_mass_18 : decode cX6_mass 18 = .ok (.iload_n 2, 1) := by decide +kernel
theorem dX6_mass_19 : decode cX6_mass 19 = .ok (.iconst 1, 1) := by decide +kernel
theorem dX6_mass_20 : decode cX6_mass 20 = .ok (.bipush 100, 2) := by decide +kernel
theorem dX6_mass_22 : decode cX6_mass 22 = .ok (.invokestatic 70, 3) := by decide +kernel
theorem dX6_mass_25 : decode cX6_mass 25 = .ok (.ifCond .ne 7, 3) := by decide +kernel
theorem dX6_mass_28 : decode cX6_mass 28 = .ok (.iconst 1, 1) := by decide +kernel
theorem dX6_mass_29 : decode cX6_mass 29 = .ok (.goto 4, 3) := by decide +kernel
theorem dX6_mass_32 : decode cX6_mass 32 = .ok (.iconst 0, 1) := by decide +kernel
theorem dX6_mass_33 : decode cX6_mass 33 = .ok (.iconst 2, 1) := by decide +kernel
theorem dX6_mass_34 : decode cX6_mass 34 = .ok (.invokevirtual 78, 3) := by decide +kernel
theorem dX6_mass_37 : decode cX6_mass 37 = .ok (.ifCond .eq 4, 3) := by decide +kernel
theorem dX6_mass_40 : decode cX6_mass 40 = .ok (.return_, 1) := by decide +kernel
theorem dX6_mass_41 : decode cX6_mass 41 = .ok (.aload_n 0, 1) := by decide +kernel
theorem dX6_mass_42 : decode cX6_mass 42 = .ok (.getfield 7, 3) := by decide +kernel
theorem dX6_mass_45 : decode cX6_mass 45 = .ok (.iload_n 1, 1) := by decide +kernel
theorem dX6_mass_46 : decode cX6_mass 46 = .ok (.iload_n 2, 1) := by decide +kernel
theorem dX6_mass_47 : decode cX6_mass 47 = .ok (.iastore, 1) := by decide +kernel
theorem dX6_mass_48 : decode cX6_mass 48 = .ok (.return_, 1) := by decide +kernel
set_option maxRecDepth 20000 in
theorem ggX6_skid_X6_noCar : GoodIn wsX6_skid wsX6_noCar := goodIn_r _ [10, 11, 12, 9, 13] (by decide +kernel) (by decide +kernel)
set_option maxRecDepth 20000 in
theorem gX6_skid_X6_noCar : GoodIn wsX6_skid (va_wsS RX6 74 yX6_noCar wsX6_noCar) := goodIn_app (goodIn_of _ (by decide +kernel)) ggX6_skid_X6_noCar
set_option maxRecDepth 20000 in
theorem ggX6_skid_X6_throwsIf : GoodIn wsX6_skid wsX6_throwsIf := goodIn_r _ [17, 1, 18, 19, 20, 21, 22, 23, 24, 25, 26, 27, 28, 29, 30, 31, 32, 33, 34, 35, 36, 37, 38, 39, 40] (by decide +kernel) (by decide +kernel)
set_option maxRecDepth 20000 in
theorem gX6_skid_X6_throwsIf : GoodIn wsX6_skid (wsV RX6 78 RX6 yX6_throwsIf wsX6_throwsIf) := goodIn_app (goodIn_of _ (by decide +kernel)) ggX6_skid_X6_throwsIf
theorem dX6_skid_0 : decode cX6_skid 0 = .ok (.aload_n 0, 1) := by decide +kernel
theorem dX6_skid_1 : decode cX6_skid 1 = .ok (.iconst 0, 1) := by decide +kernel
theorem dX6_skid_2 : decode cX6_skid 2 = .ok (.putfield 66, 3) := by decide +kernel
theorem dX6_skid_5 : decode cX6_skid 5 = .ok (.aload_n 0, 1) := by decide +kernel
theorem dX6_skid_6 : decode cX6_skid 6 = .ok (.iload_n 1, 1) := by decide +kernel
theorem dX6_skid_7 : decode cX6_skid 7 = .ok (.invokestatic 74, 3) := by decide +kernel
theorem dX6_skid_10 : decode cX6_skid 10 = .ok (.iconst 1, 1) := by decide +kernel
theorem dX6_skid_11 : decode cX6_skid 11 = .ok (.invokevirtual 78, 3) := by decide +kernel
theorem dX6_skid_14 : decode cX6_skid 14 = .ok (.ifCond .ne 76, 3) := by decide +kernel
theorem dX6_skid_17 : decode cX6_skid 17 = .ok (.aload_n 0, 1) := by decide +kernel
theorem dX6_skid_18 : decode cX6_skid 18 = .ok (.iload_n 3, 1) := by decide +kernel
theorem dX6_skid_19 : decode cX6_skid 19 = .ok (.ifCond .lt 37, 3) := by decide +kernel
theorem dX6_skid_22 : decode cX6_skid 22 = .ok (.iload 4, 2) := by decide +kernel
theorem dX6_skid_24 : decode cX6_skid 24 = .ok (.iload_n 3, 1) := by decide +kernel
theorem dX6_skid_25 : decode cX6_skid 25 = .ok (.if_icmp .lt 31, 3) := by decide +kernel
theorem dX6_skid_28 : decode cX6_skid 28 = .ok (.iload 4, 2) := by decide +kernel
theorem dX6_skid_30 : decode cX6_skid 30 = .ok (.sipush 2000, 3) := by decide +kernel
theorem dX6_skid_33 : decode cX6_skid 33 = .ok (.if_icmp .gt 23, 3) := by decide +kernel
theorem dX6_skid_36 : decode cX6_skid 36 = .ok (.iload 5, 2) := by decide +kernel
theorem dX6_skid_38 : decode cX6_skid 38 = .ok (.ifCond .lt 18, 3) := by decide +kernel
theorem dX6_skid_41 : decode cX6_skid 41 = .ok (.iload 6, 2) := by decide +kernel
theorem dX6_skid_43 : decode cX6_skid 43 = .ok (.iload 5, 2) := by decide +kernel
theorem dX6_skid_45 : decode cX6_skid 45 = .ok (.if_icmp .lt 11, 3) := by decide +kernel
theorem dX6_skid_48 : decode cX6_skid 48 = .ok (.iload 6, 2) := by decide +kernel
theorem dX6_skid_50 : decode cX6_skid 50 = .ok (.sipush 150, 3) := by decide +kernel
theorem dX6_skid_53 : decode cX6_skid 53 = .ok (.if_icmp .le 7, 3) := by decide +kernel
theorem dX6_skid_56 : decode cX6_skid 56 = .ok (.iconst 1, 1) := by decide +kernel
theorem dX6_skid_57 : decode cX6_skid 57 = .ok (.goto 4, 3) := by decide +kernel
theorem dX6_skid_60 : decode cX6_skid 60 = .ok (.iconst 0, 1) := by decide +kernel
theorem dX6_skid_61 : decode cX6_skid 61 = .ok (.iconst 2, 1) := by decide +kernel
theorem dX6_skid_62 : decode cX6_skid 62 = .ok (.invokevirtual 78, 3) := by decide +kernel
theorem dX6_skid_65 : decode cX6_skid 65 = .ok (.ifCond .ne 25, 3) := by decide +kernel
theorem dX6_skid_68 : decode cX6_skid 68 = .ok (.aload_n 0, 1) := by decide +kernel
theorem dX6_skid_69 : decode cX6_skid 69 = .ok (.aload_n 0, 1) := by decide +kernel
theorem dX6_skid_70 : decode cX6_skid 70 = .ok (.getfield 82, 3) := by decide +kernel
theorem dX6_skid_73 : decode cX6_skid 73 = .ok (.bipush 12, 2) := by decide +kernel
theorem dX6_skid_75 : decode cX6_skid 75 = .ok (.if_icmp .ne 7, 3) := by decide +kernel
theorem dX6_skid_78 : decode cX6_skid 78 = .ok (.iconst 1, 1) := by decide +kernel
theorem dX6_skid_79 : decode cX6_skid 79 = .ok (.goto 4, 3) := by decide +kernel
theorem dX6_skid_82 : decode cX6_skid 82 = .ok (.iconst 0, 1) := by decide +kernel
theorem dX6_skid_83 : decode cX6_skid 83 = .ok (.iconst 3, 1) := by decide +kernel
theorem dX6_skid_84 : decode cX6_skid 84 = .ok (.invokevirtual 78, 3) := by decide +kernel
theorem dX6_skid_87 : decode cX6_skid 87 = .ok (.ifCond .eq 5, 3) := by decide +kernel
theorem dX6_skid_90 : decode cX6_skid 90 = .ok (.iconst 0, 1) := by decide +kernel
theorem dX6_skid_91 : decode cX6_skid 91 = .ok (.ireturn, 1) := by decide +kernel
theorem dX6_skid_92 : decode cX6_skid 92 = .ok (.aload_n 0, 1) := by decide +kernel
theorem dX6_skid_93 : decode cX6_skid 93 = .ok (.getfield 13, 3) := by decide +kernel
theorem dX6_skid_96 : decode cX6_skid 96 = .ok (.aload_n 0, 1) := by decide +kernel
theorem dX6_skid_97 : decode cX6_skid 97 = .ok (.getfield 82, 3) := by decide +kernel
theorem dX6_skid_100 : decode cX6_skid 100 = .ok (.iload_n 1, 1) := by decide +kernel
theorem dX6_skid_101 : decode cX6_skid 101 = .ok (.iastore, 1) := by decide +kernel
theorem dX6_skid_102 : decode cX6_skid 102 = .ok (.aload_n 0, 1) := by decide +kernel
theorem dX6_skid_103 : decode cX6_skid 103 = .ok (.getfield 16, 3) := by decide +kernel
theorem dX6_skid_106 : decode cX6_skid 106 = .ok (.aload_n 0, 1) := by decide +kernel
theorem dX6_skid_107 : decode cX6_skid 107 = .ok (.getfield 82, 3) := by decide +kernel
theorem dX6_skid_110 : decode cX6_skid 110 = .ok (.iload_n 2, 1) := by decide +kernel
theorem dX6_skid_111 : decode cX6_skid 111 = .ok (.bastore, 1) := by decide +kernel
theorem dX6_skid_112 : decode cX6_skid 112 = .ok (.aload_n 0, 1) := by decide +kernel
theorem dX6_skid_113 : decode cX6_skid 113 = .ok (.getfield 20, 3) := by decide +kernel
theorem dX6_skid_116 : decode cX6_skid 116 = .ok (.aload_n 0, 1) := by decide +kernel
theorem dX6_skid_117 : decode cX6_skid 117 = .ok (.getfield 82, 3) := by decide +kernel
theorem dX6_skid_120 : decode cX6_skid 120 = .ok (.iload_n 3, 1) := by decide +kernel
theorem dX6_skid_121 : decode cX6_skid 121 = .ok (.iload 5, 2) := by decide +kernel
theorem dX6_skid_123 : decode cX6_skid 123 = .ok (.imul, 1) := by decide +kernel
theorem dX6_skid_124 : decode cX6_skid 124 = .ok (.iastore, 1) := by decide +kernel
theorem dX6_skid_125 : decode cX6_skid 125 = .ok (.aload_n 0, 1) := by decide +kernel
theorem dX6_skid_126 : decode cX6_skid 126 = .ok (.getfield 23, 3) := by decide +kernel
theorem dX6_skid_129 : decode cX6_skid 129 = .ok (.aload_n 0, 1) := by decide +kernel
theorem dX6_skid_130 : decode cX6_skid 130 = .ok (.getfield 82, 3) := by decide +kernel
theorem dX6_skid_133 : decode cX6_skid 133 = .ok (.iload 4, 2) := by decide +kernel
theorem dX6_skid_135 : decode cX6_skid 135 = .ok (.iload 6, 2) := by decide +kernel
theorem dX6_skid_137 : decode cX6_skid 137 = .ok (.imul, 1) := by decide +kernel
theorem dX6_skid_138 : decode cX6_skid 138 = .ok (.iastore, 1) := by decide +kernel
theorem dX6_skid_139 : decode cX6_skid 139 = .ok (.aload_n 0, 1) := by decide +kernel
theorem dX6_skid_140 : decode cX6_skid 140 = .ok (.dup, 1) := by decide +kernel
theorem dX6_skid_141 : decode cX6_skid 141 = .ok (.getfield 82, 3) := by decide +kernel
theorem dX6_skid_144 : decode cX6_skid 144 = .ok (.iconst 1, 1) := by decide +kernel
theorem dX6_skid_145 : decode cX6_skid 145 = .ok (.iadd, 1) := by decide +kernel
theorem dX6_skid_146 : decode cX6_skid 146 = .ok (.putfield 82, 3) := by decide +kernel
theorem dX6_skid_149 : decode cX6_skid 149 = .ok (.aload_n 0, 1) := by decide +kernel
theorem dX6_skid_150 : decode cX6_skid 150 = .ok (.getfield 82, 3) := by decide +kernel
theorem dX6_skid_153 : decode cX6_skid 153 = .ok (.iconst 1, 1) := by decide +kernel
theorem dX6_skid_154 : decode cX6_skid 154 = .ok (.isub, 1) := by decide +kernel
theorem dX6_skid_155 : decode cX6_skid 155 = .ok (.ireturn, 1) := by decide +kernel
set_option maxRecDepth 20000 in
theorem ggX6_drop_X6_in : GoodIn wsX6_drop wsX6_in := goodIn_r _ [7] (by decide +kernel) (by decide +kernel)
set_option maxRecDepth 20000 in
theorem gX6_drop_X6_in : GoodIn wsX6_drop (va_wsS RX6 70 yX6_in wsX6_in) := goodIn_app (goodIn_of _ (by decide +kernel)) ggX6_drop_X6_in
set_option maxRecDepth 20000 in
theorem ggX6_drop_X6_throwsIf : GoodIn wsX6_drop wsX6_throwsIf := goodIn_r _ [11, 1, 12, 13, 14, 15, 16, 17, 18, 19, 20, 21, 22, 23, 24, 25, 26, 27, 28, 29, 30, 31, 32, 33, 34] (by decide +kernel) (by decide +kernel)
set_option maxRecDepth 20000 in
theorem gX6_drop_X6_throwsIf : GoodIn wsX6_drop (wsV RX6 78 RX6 yX6_throwsIf wsX6_throwsIf) := goodIn_app (goodIn_of _ (by decide +kernel)) ggX6_drop_X6_throwsIf
theorem dX6_drop_0 : decode cX6_drop 0 = .ok (.aload_n 0, 1) := by decide +kernel
theorem dX6_drop_1 : decode cX6_drop 1 = .ok (.iconst 0, 1) := by decide +kernel
theorem dX6_drop_2 : decode cX6_drop 2 = .ok (.putfield 66, 3) := by decide +kernel
theorem dX6_drop_5 : decode cX6_drop 5 = .ok (.aload_n 0, 1) := by decide +kernel
theorem dX6_drop_6 : decode cX6_drop 6 = .ok (.iload_n 1, 1) := by decide +kernel
theorem dX6_drop_7 : decode cX6_drop 7 = .ok (.iconst 0, 1) := by decide +kernel
theorem dX6_drop_8 : decode cX6_drop 8 = .ok (.aload_n 0, 1) := by decide +kernel
theorem dX6_drop_9 : decode cX6_drop 9 = .ok (.getfield 82, 3) := by decide +kernel
theorem dX6_drop_12 : decode cX6_drop 12 = .ok (.iconst 1, 1) := by decide +kernel
theorem dX6_drop_13 : decode cX6_drop 13 = .ok (.isub, 1) := by decide +kernel
theorem dX6_drop_14 : decode cX6_drop 14 = .ok (.invokestatic 70, 3) := by decide +kernel
theorem dX6_drop_17 : decode cX6_drop 17 = .ok (.ifCond .ne 7, 3) := by decide +kernel
theorem dX6_drop_20 : decode cX6_drop 20 = .ok (.iconst 1, 1) := by decide +kernel
theorem dX6_drop_21 : decode cX6_drop 21 = .ok (.goto 4, 3) := by decide +kernel
theorem dX6_drop_24 : decode cX6_drop 24 = .ok (.iconst 0, 1) := by decide +kernel
theorem dX6_drop_25 : decode cX6_drop 25 = .ok (.iconst 1, 1) := by decide +kernel
theorem dX6_drop_26 : decode cX6_drop 26 = .ok (.invokevirtual 78, 3) := by decide +kernel
theorem dX6_drop_29 : decode cX6_drop 29 = .ok (.ifCond .eq 5, 3) := by decide +kernel
theorem dX6_drop_32 : decode cX6_drop 32 = .ok (.iconst 0, 1) := by decide +kernel
theorem dX6_drop_33 : decode cX6_drop 33 = .ok (.ireturn, 1) := by decide +kernel
theorem dX6_drop_34 : decode cX6_drop 34 = .ok (.aload_n 0, 1) := by decide +kernel
theorem dX6_drop_35 : decode cX6_drop 35 = .ok (.getfield 26, 3) := by decide +kernel
theorem dX6_drop_38 : decode cX6_drop 38 = .ok (.iload_n 1, 1) := by decide +kernel
theorem dX6_drop_39 : decode cX6_drop 39 = .ok (.baload, 1) := by decide +kernel
theorem dX6_drop_40 : decode cX6_drop 40 = .ok (.istore_n 3, 1) := by decide +kernel
theorem dX6_drop_41 : decode cX6_drop 41 = .ok (.aload_n 0, 1) := by decide +kernel
theorem dX6_drop_42 : decode cX6_drop 42 = .ok (.getfield 26, 3) := by decide +kernel
theorem dX6_drop_45 : decode cX6_drop 45 = .ok (.iload_n 1, 1) := by decide +kernel
theorem dX6_drop_46 : decode cX6_drop 46 = .ok (.iload_n 2, 1) := by decide +kernel
theorem dX6_drop_47 : decode cX6_drop 47 = .ok (.bastore, 1) := by decide +kernel
theorem dX6_drop_48 : decode cX6_drop 48 = .ok (.iload_n 3, 1) := by decide +kernel
theorem dX6_drop_49 : decode cX6_drop 49 = .ok (.iload_n 2, 1) := by decide +kernel
theorem dX6_drop_50 : decode cX6_drop 50 = .ok (.if_icmp .eq 7, 3) := by decide +kernel
theorem dX6_drop_53 : decode cX6_drop 53 = .ok (.iconst 1, 1) := by decide +kernel
theorem dX6_drop_54 : decode cX6_drop 54 = .ok (.goto 4, 3) := by decide +kernel
theorem dX6_drop_57 : decode cX6_drop 57 = .ok (.iconst 0, 1) := by decide +kernel
theorem dX6_drop_58 : decode cX6_drop 58 = .ok (.ireturn, 1) := by decide +kernel
set_option maxRecDepth 20000 in
theorem ggX6_sure_X6_noSpeed : GoodIn wsX6_sure wsX6_noSpeed := goodIn_r _ [7, 8, 9, 6, 10, 11, 12, 13] (by decide +kernel) (by decide +kernel)
set_option maxRecDepth 20000 in
theorem gX6_sure_X6_noSpeed : GoodIn wsX6_sure (va_wsS RX6 85 yX6_noSpeed wsX6_noSpeed) := goodIn_app (goodIn_of _ (by decide +kernel)) ggX6_sure_X6_noSpeed
set_option maxRecDepth 20000 in
theorem ggX6_sure_X6_throwsIf : GoodIn wsX6_sure wsX6_throwsIf := goodIn_r _ [17, 1, 21, 22, 23, 24, 25, 26, 27, 28, 29, 30, 31, 32, 33, 34, 35, 36, 37, 38, 39, 40, 41, 42, 43] (by decide +kernel) (by decide +kernel)
set_option maxRecDepth 20000 in
theorem gX6_sure_X6_throwsIf : GoodIn wsX6_sure (wsV RX6 78 RX6 yX6_throwsIf wsX6_throwsIf) := goodIn_app (goodIn_of _ (by decide +kernel)) ggX6_sure_X6_throwsIf
set_option maxRecDepth 20000 in
theorem ggX6_sure_X6_noSpan : GoodIn wsX6_sure wsX6_noSpan := goodIn_r _ [20] (by decide +kernel) (by decide +kernel)
set_option maxRecDepth 20000 in
theorem gX6_sure_X6_noSpan : GoodIn wsX6_sure (va_wsS RX6 89 yX6_noSpan wsX6_noSpan) := goodIn_app (goodIn_of _ (by decide +kernel)) ggX6_sure_X6_noSpan
theorem dX6_sure_0 : decode cX6_sure 0 = .ok (.aload_n 0, 1) := by decide +kernel
theorem dX6_sure_1 : decode cX6_sure 1 = .ok (.iconst 0, 1) := by decide +kernel
theorem dX6_sure_2 : decode cX6_sure 2 = .ok (.putfield 66, 3) := by decide +kernel
theorem dX6_sure_5 : decode cX6_sure 5 = .ok (.aload_n 0, 1) := by decide +kernel
theorem dX6_sure_6 : decode cX6_sure 6 = .ok (.iload_n 1, 1) := by decide +kernel
theorem dX6_sure_7 : decode cX6_sure 7 = .ok (.iload_n 2, 1) := by decide +kernel
theorem dX6_sure_8 : decode cX6_sure 8 = .ok (.invokestatic 85, 3) := by decide +kernel
theorem dX6_sure_11 : decode cX6_sure 11 = .ok (.iconst 1, 1) := by decide +kernel
theorem dX6_sure_12 : decode cX6_sure 12 = .ok (.invokevirtual 78, 3) := by decide +kernel
theorem dX6_sure_15 : decode cX6_sure 15 = .ok (.ifCond .ne 17, 3) := by decide +kernel
theorem dX6_sure_18 : decode cX6_sure 18 = .ok (.aload_n 0, 1) := by decide +kernel
theorem dX6_sure_19 : decode cX6_sure 19 = .ok (.iload_n 3, 1) := by decide +kernel
theorem dX6_sure_20 : decode cX6_sure 20 = .ok (.iload 4, 2) := by decide +kernel
theorem dX6_sure_22 : decode cX6_sure 22 = .ok (.invokestatic 89, 3) := by decide +kernel
theorem dX6_sure_25 : decode cX6_sure 25 = .ok (.iconst 2, 1) := by decide +kernel
theorem dX6_sure_26 : decode cX6_sure 26 = .ok (.invokevirtual 78, 3) := by decide +kernel
theorem dX6_sure_29 : decode cX6_sure 29 = .ok (.ifCond .eq 4, 3) := by decide +kernel
theorem dX6_sure_32 : decode cX6_sure 32 = .ok (.return_, 1) := by decide +kernel
theorem dX6_sure_33 : decode cX6_sure 33 = .ok (.aload_n 0, 1) := by decide +kernel
theorem dX6_sure_34 : decode cX6_sure 34 = .ok (.getfield 29, 3) := by decide +kernel
theorem dX6_sure_37 : decode cX6_sure 37 = .ok (.iconst 3, 1) := by decide +kernel
theorem dX6_sure_38 : decode cX6_sure 38 = .ok (.iload_n 1, 1) := by decide +kernel
theorem dX6_sure_39 : decode cX6_sure 39 = .ok (.imul, 1) := by decide +kernel
theorem dX6_sure_40 : decode cX6_sure 40 = .ok (.iload_n 2, 1) := by decide +kernel
theorem dX6_sure_41 : decode cX6_sure 41 = .ok (.iadd, 1) := by decide +kernel
theorem dX6_sure_42 : decode cX6_sure 42 = .ok (.iload_n 3, 1) := by decide +kernel
theorem dX6_sure_43 : decode cX6_sure 43 = .ok (.iastore, 1) := by decide +kernel
theorem dX6_sure_44 : decode cX6_sure 44 = .ok (.aload_n 0, 1) := by decide +kernel
theorem dX6_sure_45 : decode cX6_sure 45 = .ok (.getfield 32, 3) := by decide +kernel
theorem dX6_sure_48 : decode cX6_sure 48 = .ok (.iconst 3, 1) := by decide +kernel
theorem dX6_sure_49 : decode cX6_sure 49 = .ok (.iload_n 1, 1) := by decide +kernel
theorem dX6_sure_50 : decode cX6_sure 50 = .ok (.imul, 1) := by decide +kernel
theorem dX6_sure_51 : decode cX6_sure 51 = .ok (.iload_n 2, 1) := by decide +kernel
theorem dX6_sure_52 : decode cX6_sure 52 = .ok (.iadd, 1) := by decide +kernel
theorem dX6_sure_53 : decode cX6_sure 53 = .ok (.iload 4, 2) := by decide +kernel
theorem dX6_sure_55 : decode cX6_sure 55 = .ok (.iastore, 1) := by decide +kernel
theorem dX6_sure_56 : decode cX6_sure 56 = .ok (.return_, 1) := by decide +kernel
set_option maxRecDepth 20000 in
theorem ggX6_tale_X6_noSpeed : GoodIn wsX6_tale wsX6_noSpeed := goodIn_r _ [9, 10, 11, 8, 12, 13, 14, 15] (by decide +kernel) (by decide +kernel)
set_option maxRecDepth 20000 in
theorem gX6_tale_X6_noSpeed : GoodIn wsX6_tale (va_wsS RX6 85 yX6_noSpeed wsX6_noSpeed) := goodIn_app (goodIn_of _ (by decide +kernel)) ggX6_tale_X6_noSpeed
set_option maxRecDepth 20000 in
theorem ggX6_tale_X6_throwsIf : GoodIn wsX6_tale wsX6_throwsIf := goodIn_r _ [19, 1, 23, 24, 25, 26, 27, 28, 29, 30, 31, 32, 33, 34, 35, 36, 37, 38, 39, 40, 41, 42, 43, 44, 45] (by decide +kernel) (by decide +kernel)
set_option maxRecDepth 20000 in
theorem gX6_tale_X6_throwsIf : GoodIn wsX6_tale (wsV RX6 78 RX6 yX6_throwsIf wsX6_throwsIf) := goodIn_app (goodIn_of _ (by decide +kernel)) ggX6_tale_X6_throwsIf
set_option maxRecDepth 20000 in
theorem ggX6_tale_X6_noSpan : GoodIn wsX6_tale wsX6_noSpan := goodIn_r _ [22] (by decide +kernel) (by decide +kernel)
set_option maxRecDepth 20000 in
theorem gX6_tale_X6_noSpan : GoodIn wsX6_tale (va_wsS RX6 89 yX6_noSpan wsX6_noSpan) := goodIn_app (goodIn_of _ (by decide +kernel)) ggX6_tale_X6_noSpan
theorem dX6_tale_0 : decode cX6_tale 0 = .ok (.aload_n 0, 1) := by decide +kernel
theorem dX6_tale_1 : decode cX6_tale 1 = .ok (.iconst 0, 1) := by decide +kernel
theorem dX6_tale_2 : decode cX6_tale 2 = .ok (.putfield 66, 3) := by decide +kernel
theorem dX6_tale_5 : decode cX6_tale 5 = .ok (.aload_n 0, 1) := by decide +kernel
theorem dX6_tale_6 : decode cX6_tale 6 = .ok (.iload_n 1, 1) := by decide +kernel
theorem dX6_tale_7 : decode cX6_tale 7 = .ok (.iload_n 2, 1) := by decide +kernel
theorem dX6_tale_8 : decode cX6_tale 8 = .ok (.invokestatic 85, 3) := by decide +kernel
theorem dX6_tale_11 : decode cX6_tale 11 = .ok (.iconst 1, 1) := by decide +kernel
theorem dX6_tale_12 : decode cX6_tale 12 = .ok (.invokevirtual 78, 3) := by decide +kernel
theorem dX6_tale_15 : decode cX6_tale 15 = .ok (.ifCond .ne 39, 3) := by decide +kernel
theorem dX6_tale_18 : decode cX6_tale 18 = .ok (.aload_n 0, 1) := by decide +kernel
theorem dX6_tale_19 : decode cX6_tale 19 = .ok (.iload_n 3, 1) := by decide +kernel
theorem dX6_tale_20 : decode cX6_tale 20 = .ok (.iload 4, 2) := by decide +kernel
theorem dX6_tale_22 : decode cX6_tale 22 = .ok (.invokestatic 89, 3) := by decide +kernel
theorem dX6_tale_25 : decode cX6_tale 25 = .ok (.iconst 2, 1) := by decide +kernel
theorem dX6_tale_26 : decode cX6_tale 26 = .ok (.invokevirtual 78, 3) := by decide +kernel
theorem dX6_tale_29 : decode cX6_tale 29 = .ok (.ifCond .ne 25, 3) := by decide +kernel
theorem dX6_tale_32 : decode cX6_tale 32 = .ok (.aload_n 0, 1) := by decide +kernel
theorem dX6_tale_33 : decode cX6_tale 33 = .ok (.aload_n 0, 1) := by decide +kernel
theorem dX6_tale_34 : decode cX6_tale 34 = .ok (.getfield 92, 3) := by decide +kernel
theorem dX6_tale_37 : decode cX6_tale 37 = .ok (.bipush 10, 2) := by decide +kernel
theorem dX6_tale_39 : decode cX6_tale 39 = .ok (.if_icmp .ne 7, 3) := by decide +kernel
theorem dX6_tale_42 : decode cX6_tale 42 = .ok (.iconst 1, 1) := by decide +kernel
theorem dX6_tale_43 : decode cX6_tale 43 = .ok (.goto 4, 3) := by decide +kernel
theorem dX6_tale_46 : decode cX6_tale 46 = .ok (.iconst 0, 1) := by decide +kernel
theorem dX6_tale_47 : decode cX6_tale 47 = .ok (.iconst 3, 1) := by decide +kernel
theorem dX6_tale_48 : decode cX6_tale 48 = .ok (.invokevirtual 78, 3) := by decide +kernel
theorem dX6_tale_51 : decode cX6_tale 51 = .ok (.ifCond .eq 5, 3) := by decide +kernel
theorem dX6_tale_54 : decode cX6_tale 54 = .ok (.iconst 0, 1) := by decide +kernel
theorem dX6_tale_55 : decode cX6_tale 55 = .ok (.ireturn, 1) := by decide +kernel
theorem dX6_tale_56 : decode cX6_tale 56 = .ok (.aload_n 0, 1) := by decide +kernel
theorem dX6_tale_57 : decode cX6_tale 57 = .ok (.getfield 35, 3) := by decide +kernel
theorem dX6_tale_60 : decode cX6_tale 60 = .ok (.aload_n 0, 1) := by decide +kernel
theorem dX6_tale_61 : decode cX6_tale 61 = .ok (.getfield 92, 3) := by decide +kernel
theorem dX6_tale_64 : decode cX6_tale 64 = .ok (.iconst 3, 1) := by decide +kernel
theorem dX6_tale_65 : decode cX6_tale 65 = .ok (.iload_n 1, 1) := by decide +kernel
theorem dX6_tale_66 : decode cX6_tale 66 = .ok (.imul, 1) := by decide +kernel
theorem dX6_tale_67 : decode cX6_tale 67 = .ok (.iload_n 2, 1) := by decide +kernel
theorem dX6_tale_68 : decode cX6_tale 68 = .ok (.iadd, 1) := by decide +kernel
theorem dX6_tale_69 : decode cX6_tale 69 = .ok (.iastore, 1) := by decide +kernel
theorem dX6_tale_70 : decode cX6_tale 70 = .ok (.aload_n 0, 1) := by decide +kernel
theorem dX6_tale_71 : decode cX6_tale 71 = .ok (.getfield 38, 3) := by decide +kernel
theorem dX6_tale_74 : decode cX6_tale 74 = .ok (.aload_n 0, 1) := by decide +kernel
theorem dX6_tale_75 : decode cX6_tale 75 = .ok (.getfield 92, 3) := by decide +kernel
theorem dX6_tale_78 : decode cX6_tale 78 = .ok (.iload_n 3, 1) := by decide +kernel
theorem dX6_tale_79 : decode cX6_tale 79 = .ok (.iastore, 1) := by decide +kernel
theorem dX6_tale_80 : decode cX6_tale 80 = .ok (.aload_n 0, 1) := by decide +kernel
theorem dX6_tale_81 : decode cX6_tale 81 = .ok (.getfield 41, 3) := by decide +kernel
theorem dX6_tale_84 : decode cX6_tale 84 = .ok (.aload_n 0, 1) := by decide +kernel
theorem dX6_tale_85 : decode cX6_tale 85 = .ok (.getfield 92, 3) := by decide +kernel
theorem dX6_tale_88 : decode cX6_tale 88 = .ok (.iload 4, 2) := by decide +kernel
theorem dX6_tale_90 : decode cX6_tale 90 = .ok (.iastore, 1) := by decide +kernel
theorem dX6_tale_91 : decode cX6_tale 91 = .ok (.aload_n 0, 1) := by decide +kernel
theorem dX6_tale_92 : decode cX6_tale 92 = .ok (.dup, 1) := by decide +kernel
theorem dX6_tale_93 : decode cX6_tale 93 = .ok (.getfield 92, 3) := by decide +kernel
theorem dX6_tale_96 : decode cX6_tale 96 = .ok (.iconst 1, 1) := by decide +kernel
theorem dX6_tale_97 : decode cX6_tale 97 = .ok (.iadd, 1) := by decide +kernel
theorem dX6_tale_98 : decode cX6_tale 98 = .ok (.putfield 92, 3) := by decide +kernel
theorem dX6_tale_101 : decode cX6_tale 101 = .ok (.aload_n 0, 1) := by decide +kernel
theorem dX6_tale_102 : decode cX6_tale 102 = .ok (.getfield 92, 3) := by decide +kernel
theorem dX6_tale_105 : decode cX6_tale 105 = .ok (.iconst 1, 1) := by decide +kernel
theorem dX6_tale_106 : decode cX6_tale 106 = .ok (.isub, 1) := by decide +kernel
theorem dX6_tale_107 : decode cX6_tale 107 = .ok (.ireturn, 1) := by decide +kernel
theorem dX6_hush_0 : decode cX6_hush 0 = .ok (.aload_n 0, 1) := by decide +kernel
theorem dX6_hush_1 : decode cX6_hush 1 = .ok (.iconst 0, 1) := by decide +kernel
theorem dX6_hush_2 : decode cX6_hush 2 = .ok (.putfield 66, 3) := by decide +kernel
theorem dX6_hush_5 : decode cX6_hush 5 = .ok (.aload_n 0, 1) := by decide +kernel
theorem dX6_hush_6 : decode cX6_hush 6 = .ok (.getfield 92, 3) := by decide +kernel
theorem dX6_hush_9 : decode cX6_hush 9 = .ok (.istore_n 1, 1) := by decide +kernel
theorem dX6_hush_10 : decode cX6_hush 10 = .ok (.aload_n 0, 1) := by decide +kernel
theorem dX6_hush_11 : decode cX6_hush 11 = .ok (.iconst 0, 1) := by decide +kernel
theorem dX6_hush_12 : decode cX6_hush 12 = .ok (.putfield 92, 3) := by decide +kernel
theorem dX6_hush_15 : decode cX6_hush 15 = .ok (.iload_n 1, 1) := by decide +kernel
theorem dX6_hush_16 : decode cX6_hush 16 = .ok (.ireturn, 1) := by decide +kernel
theorem dX6_cell_0 : decode cX6_cell 0 = .ok (.bipush 101, 2) := by decide +kernel
theorem dX6_cell_2 : decode cX6_cell 2 = .ok (.iload_n 0, 1) := by decide +kernel
theorem dX6_cell_3 : decode cX6_cell 3 = .ok (.imul, 1) := by decide +kernel
theorem dX6_cell_4 : decode cX6_cell 4 = .ok (.iload_n 1, 1) := by decide +kernel
theorem dX6_cell_5 : decode cX6_cell 5 = .ok (.iadd, 1) := by decide +kernel
theorem dX6_cell_6 : decode cX6_cell 6 = .ok (.bipush 50, 2) := by decide +kernel
theorem dX6_cell_8 : decode cX6_cell 8 = .ok (.iadd, 1) := by decide +kernel
theorem dX6_cell_9 : decode cX6_cell 9 = .ok (.ireturn, 1) := by decide +kernel
set_option maxRecDepth 20000 in
theorem ggX6_falses_X6_in : GoodIn wsX6_falses wsX6_in := goodIn_r _ [8] (by decide +kernel) (by decide +kernel)
set_option maxRecDepth 20000 in
theorem gX6_falses_X6_in : GoodIn wsX6_falses (va_wsS RX6 70 yX6_in wsX6_in) := goodIn_app (goodIn_of _ (by decide +kernel)) ggX6_falses_X6_in
theorem dX6_falses_0 : decode cX6_falses 0 = .ok (.iconst 0, 1) := by decide +kernel
theorem dX6_falses_1 : decode cX6_falses 1 = .ok (.istore_n 3, 1) := by decide +kernel
theorem dX6_falses_2 : decode cX6_falses 2 = .ok (.iconst 0, 1) := by decide +kernel
theorem dX6_falses_3 : decode cX6_falses 3 = .ok (.istore 4, 2) := by decide +kernel
theorem dX6_falses_5 : decode cX6_falses 5 = .ok (.iload 4, 2) := by decide +kernel
theorem dX6_falses_7 : decode cX6_falses 7 = .ok (.aload_n 0, 1) := by decide +kernel
theorem dX6_falses_8 : decode cX6_falses 8 = .ok (.getfield 92, 3) := by decide +kernel
theorem dX6_falses_11 : decode cX6_falses 11 = .ok (.if_icmp .ge 52, 3) := by decide +kernel
theorem dX6_falses_14 : decode cX6_falses 14 = .ok (.iload_n 3, 1) := by decide +kernel
theorem dX6_falses_15 : decode cX6_falses 15 = .ok (.aload_n 0, 1) := by decide +kernel
theorem dX6_falses_16 : decode cX6_falses 16 = .ok (.getfield 35, 3) := by decide +kernel
theorem dX6_falses_19 : decode cX6_falses 19 = .ok (.iload 4, 2) := by decide +kernel
theorem dX6_falses_21 : decode cX6_falses 21 = .ok (.iaload, 1) := by decide +kernel
theorem dX6_falses_22 : decode cX6_falses 22 = .ok (.iload_n 1, 1) := by decide +kernel
theorem dX6_falses_23 : decode cX6_falses 23 = .ok (.if_icmp .ne 31, 3) := by decide +kernel
theorem dX6_falses_26 : decode cX6_falses 26 = .ok (.iload_n 2, 1) := by decide +kernel
theorem dX6_falses_27 : decode cX6_falses 27 = .ok (.aload_n 0, 1) := by decide +kernel
theorem dX6_falses_28 : decode cX6_falses 28 = .ok (.getfield 38, 3) := by decide +kernel
theorem dX6_falses_31 : decode cX6_falses 31 = .ok (.iload 4, 2) := by decide +kernel
theorem dX6_falses_33 : decode cX6_falses 33 = .ok (.iaload, 1) := by decide +kernel
theorem dX6_falses_34 : decode cX6_falses 34 = .ok (.aload_n 0, 1) := by decide +kernel
theorem dX6_falses_35 : decode cX6_falses 35 = .ok (.getfield 41, 3) := by decide +kernel
theorem dX6_falses_38 : decode cX6_falses 38 = .ok (.iload 4, 2) := by decide +kernel
theorem dX6_falses_40 : decode cX6_falses 40 = .ok (.iaload, 1) := by decide +kernel
theorem dX6_falses_41 : decode cX6_falses 41 = .ok (.invokestatic 70, 3) := by decide +kernel
theorem dX6_falses_44 : decode cX6_falses 44 = .ok (.ifCond .ne 10, 3) := by decide +kernel
theorem dX6_falses_47 : decode cX6_falses 47 = .ok (.iconst 1, 1) := by decide +kernel
theorem dX6_falses_48 : decode cX6_falses 48 = .ok (.iload 4, 2) := by decide +kernel
theorem dX6_falses_50 : decode cX6_falses 50 = .ok (.ishl, 1) := by decide +kernel
theorem dX6_falses_51 : decode cX6_falses 51 = .ok (.goto 4, 3) := by decide +kernel
theorem dX6_falses_54 : decode cX6_falses 54 = .ok (.iconst 0, 1) := by decide +kernel
theorem dX6_falses_55 : decode cX6_falses 55 = .ok (.ior, 1) := by decide +kernel
theorem dX6_falses_56 : decode cX6_falses 56 = .ok (.istore_n 3, 1) := by decide +kernel
theorem dX6_falses_57 : decode cX6_falses 57 = .ok (.iinc 4 1, 3) := by decide +kernel
theorem dX6_falses_60 : decode cX6_falses 60 = .ok (.goto (-55), 3) := by decide +kernel
theorem dX6_falses_63 : decode cX6_falses 63 = .ok (.iload_n 3, 1) := by decide +kernel
theorem dX6_falses_64 : decode cX6_falses 64 = .ok (.ireturn, 1) := by decide +kernel
set_option maxRecDepth 20000 in
theorem ggX6_lets_X6_cell : GoodIn wsX6_lets wsX6_cell := goodIn_r _ [8] (by decide +kernel) (by decide +kernel)
set_option maxRecDepth 20000 in
theorem gX6_lets_X6_cell : GoodIn wsX6_lets (va_wsS RX6 95 yX6_cell wsX6_cell) := goodIn_app (goodIn_of _ (by decide +kernel)) ggX6_lets_X6_cell
set_option maxRecDepth 20000 in
theorem ggX6_lets_X6_in : GoodIn wsX6_lets wsX6_in := goodIn_r _ [11] (by decide +kernel) (by decide +kernel)
set_option maxRecDepth 20000 in
theorem gX6_lets_X6_in : GoodIn wsX6_lets (va_wsS RX6 70 yX6_in wsX6_in) := goodIn_app (goodIn_of _ (by decide +kernel)) ggX6_lets_X6_in
set_option maxRecDepth 20000 in
theorem ggX6_lets_X6_falses : GoodIn wsX6_lets wsX6_falses := goodIn_r _ [15, 16, 17, 18, 19, 9, 10, 7, 11, 20, 21, 22, 23, 24, 25, 26, 27, 28, 29, 30, 31, 32, 33, 34, 35, 36, 37, 38, 39, 40, 41, 42] (by decide +kernel) (by decide +kernel)
set_option maxRecDepth 20000 in
theorem gX6_lets_X6_falses : GoodIn wsX6_lets (wsV RX6 99 RX6 yX6_falses wsX6_falses) := goodIn_app (goodIn_of _ (by decide +kernel)) ggX6_lets_X6_falses
theorem dX6_lets_0 : decode cX6_lets 0 = .ok (.iconst 0, 1) := by decide +kernel
theorem dX6_lets_1 : decode cX6_lets 1 = .ok (.istore_n 2, 1) := by decide +kernel
theorem dX6_lets_2 : decode cX6_lets 2 = .ok (.iload_n 2, 1) := by decide +kernel
theorem dX6_lets_3 : decode cX6_lets 3 = .ok (.bipush 6, 2) := by decide +kernel
theorem dX6_lets_5 : decode cX6_lets 5 = .ok (.if_icmp .ge 80, 3) := by decide +kernel
theorem dX6_lets_8 : decode cX6_lets 8 = .ok (.bipush (-50), 2) := by decide +kernel
theorem dX6_lets_10 : decode cX6_lets 10 = .ok (.istore_n 3, 1) := by decide +kernel
theorem dX6_lets_11 : decode cX6_lets 11 = .ok (.iload_n 3, 1) := by decide +kernel
theorem dX6_lets_12 : decode cX6_lets 12 = .ok (.bipush 50, 2) := by decide +kernel
theorem dX6_lets_14 : decode cX6_lets 14 = .ok (.if_icmp .gt 65, 3) := by decide +kernel
theorem dX6_lets_17 : decode cX6_lets 17 = .ok (.aload_n 0, 1) := by decide +kernel
theorem dX6_lets_18 : decode cX6_lets 18 = .ok (.getfield 44, 3) := by decide +kernel
theorem dX6_lets_21 : decode cX6_lets 21 = .ok (.iload_n 2, 1) := by decide +kernel
theorem dX6_lets_22 : decode cX6_lets 22 = .ok (.iload_n 3, 1) := by decide +kernel
theorem dX6_lets_23 : decode cX6_lets 23 = .ok (.invokestatic 95, 3) := by decide +kernel
theorem dX6_lets_26 : decode cX6_lets 26 = .ok (.iload_n 3, 1) := by decide +kernel
theorem dX6_lets_27 : decode cX6_lets 27 = .ok (.aload_n 0, 1) := by decide +kernel
theorem dX6_lets_28 : decode cX6_lets 28 = .ok (.getfield 29, 3) := by decide +kernel
theorem dX6_lets_31 : decode cX6_lets 31 = .ok (.iload_n 2, 1) := by decide +kernel
theorem dX6_lets_32 : decode cX6_lets 32 = .ok (.iaload, 1) := by decide +kernel
theorem dX6_lets_33 : decode cX6_lets 33 = .ok (.aload_n 0, 1) := by decide +kernel
theorem dX6_lets_34 : decode cX6_lets 34 = .ok (.getfield 32, 3) := by decide +kernel
theorem dX6_lets_37 : decode cX6_lets 37 = .ok (.iload_n 2, 1) := by decide +kernel
theorem dX6_lets_38 : decode cX6_lets 38 = .ok (.iaload, 1) := by decide +kernel
theorem dX6_lets_39 : decode cX6_lets 39 = .ok (.invokestatic 70, 3) := by decide +kernel
theorem dX6_lets_42 : decode cX6_lets 42 = .ok (.ifCond .eq 18, 3) := by decide +kernel
theorem dX6_lets_45 : decode cX6_lets 45 = .ok (.aload_n 0, 1) := by decide +kernel
theorem dX6_lets_46 : decode cX6_lets 46 = .ok (.iload_n 2, 1) := by decide +kernel
theorem dX6_lets_47 : decode cX6_lets 47 = .ok (.iload_n 3, 1) := by decide +kernel
theorem dX6_lets_48 : decode cX6_lets 48 = .ok (.invokevirtual 99, 3) := by decide +kernel
theorem dX6_lets_51 : decode cX6_lets 51 = .ok (.iload_n 1, 1) := by decide +kernel
theorem dX6_lets_52 : decode cX6_lets 52 = .ok (.iand, 1) := by decide +kernel
theorem dX6_lets_53 : decode cX6_lets 53 = .ok (.ifCond .ne 7, 3) := by decide +kernel
theorem dX6_lets_56 : decode cX6_lets 56 = .ok (.iconst 1, 1) := by decide +kernel
theorem dX6_lets_57 : decode cX6_lets 57 = .ok (.goto 4, 3) := by decide +kernel
theorem dX6_lets_60 : decode cX6_lets 60 = .ok (.iconst 0, 1) := by decide +kernel
theorem dX6_lets_61 : decode cX6_lets 61 = .ok (.bastore, 1) := by decide +kernel
theorem dX6_lets_62 : decode cX6_lets 62 = .ok (.aload_n 0, 1) := by decide +kernel
theorem dX6_lets_63 : decode cX6_lets 63 = .ok (.getfield 47, 3) := by decide +kernel
theorem dX6_lets_66 : decode cX6_lets 66 = .ok (.iload_n 2, 1) := by decide +kernel
theorem dX6_lets_67 : decode cX6_lets 67 = .ok (.iload_n 3, 1) := by decide +kernel
theorem dX6_lets_68 : decode cX6_lets 68 = .ok (.invokestatic 95, 3) := by decide +kernel
theorem dX6_lets_71 : decode cX6_lets 71 = .ok (.iconst 0, 1) := by decide +kernel
theorem dX6_lets_72 : decode cX6_lets 72 = .ok (.bastore, 1) := by decide +kernel
theorem dX6_lets_73 : decode cX6_lets 73 = .ok (.iinc 3 1, 3) := by decide +kernel
theorem dX6_lets_76 : decode cX6_lets 76 = .ok (.goto (-65), 3) := by decide +kernel
theorem dX6_lets_79 : decode cX6_lets 79 = .ok (.iinc 2 1, 3) := by decide +kernel
theorem dX6_lets_82 : decode cX6_lets 82 = .ok (.goto (-80), 3) := by decide +kernel
theorem dX6_lets_85 : decode cX6_lets 85 = .ok (.return_, 1) := by decide +kernel
set_option maxRecDepth 20000 in
theorem ggX6_takes_X6_in : GoodIn wsX6_takes wsX6_in := goodIn_r _ [10] (by decide +kernel) (by decide +kernel)
set_option maxRecDepth 20000 in
theorem gX6_takes_X6_in : GoodIn wsX6_takes (va_wsS RX6 70 yX6_in wsX6_in) := goodIn_app (goodIn_of _ (by decide +kernel)) ggX6_takes_X6_in
theorem dX6_takes_0 : decode cX6_takes 0 = .ok (.iconst 0, 1) := by decide +kernel
theorem dX6_takes_1 : decode cX6_takes 1 = .ok (.istore 5, 2) := by decide +kernel
theorem dX6_takes_3 : decode cX6_takes 3 = .ok (.iconst 0, 1) := by decide +kernel
theorem dX6_takes_4 : decode cX6_takes 4 = .ok (.istore 6, 2) := by decide +kernel
theorem dX6_takes_6 : decode cX6_takes 6 = .ok (.iconst 0, 1) := by decide +kernel
theorem dX6_takes_7 : decode cX6_takes 7 = .ok (.istore 7, 2) := by decide +kernel
theorem dX6_takes_9 : decode cX6_takes 9 = .ok (.iconst 0, 1) := by decide +kernel
theorem dX6_takes_10 : decode cX6_takes 10 = .ok (.istore 8, 2) := by decide +kernel
theorem dX6_takes_12 : decode cX6_takes 12 = .ok (.iload 8, 2) := by decide +kernel
theorem dX6_takes_14 : decode cX6_takes 14 = .ok (.aload_n 0, 1) := by decide +kernel
theorem dX6_takes_15 : decode cX6_takes 15 = .ok (.getfield 82, 3) := by decide +kernel
theorem dX6_takes_18 : decode cX6_takes 18 = .ok (.if_icmp .ge 78, 3) := by decide +kernel
theorem dX6_takes_21 : decode cX6_takes 21 = .ok (.aload_n 0, 1) := by decide +kernel
theorem dX6_takes_22 : decode cX6_takes 22 = .ok (.getfield 13, 3) := by decide +kernel
theorem dX6_takes_25 : decode cX6_takes 25 = .ok (.iload 8, 2) := by decide +kernel
theorem dX6_takes_27 : decode cX6_takes 27 = .ok (.iaload, 1) := by decide +kernel
theorem dX6_takes_28 : decode cX6_takes 28 = .ok (.iload_n 1, 1) := by decide +kernel
theorem dX6_takes_29 : decode cX6_takes 29 = .ok (.if_icmp .ne 61, 3) := by decide +kernel
theorem dX6_takes_32 : decode cX6_takes 32 = .ok (.aload_n 0, 1) := by decide +kernel
theorem dX6_takes_33 : decode cX6_takes 33 = .ok (.getfield 16, 3) := by decide +kernel
theorem dX6_takes_36 : decode cX6_takes 36 = .ok (.iload 8, 2) := by decide +kernel
theorem dX6_takes_38 : decode cX6_takes 38 = .ok (.baload, 1) := by decide +kernel
theorem dX6_takes_39 : decode cX6_takes 39 = .ok (.iload_n 2, 1) := by decide +kernel
theorem dX6_takes_40 : decode cX6_takes 40 = .ok (.if_icmp .ne 50, 3) := by decide +kernel
theorem dX6_takes_43 : decode cX6_takes 43 = .ok (.aload_n 0, 1) := by decide +kernel
theorem dX6_takes_44 : decode cX6_takes 44 = .ok (.getfield 26, 3) := by decide +kernel
theorem dX6_takes_47 : decode cX6_takes 47 = .ok (.iload 8, 2) := by decide +kernel
theorem dX6_takes_49 : decode cX6_takes 49 = .ok (.baload, 1) := by decide +kernel
theorem dX6_takes_50 : decode cX6_takes 50 = .ok (.ifCond .ne 40, 3) := by decide +kernel
theorem dX6_takes_53 : decode cX6_takes 53 = .ok (.iload 8, 2) := by decide +kernel
theorem dX6_takes_55 : decode cX6_takes 55 = .ok (.iload 4, 2) := by decide +kernel
theorem dX6_takes_57 : decode cX6_takes 57 = .ok (.if_icmp .ne 6, 3) := by decide +kernel
theorem dX6_takes_60 : decode cX6_takes 60 = .ok (.goto 30, 3) := by decide +kernel
theorem dX6_takes_63 : decode cX6_takes 63 = .ok (.iload 5, 2) := by decide +kernel
theorem dX6_takes_65 : decode cX6_takes 65 = .ok (.aload_n 0, 1) := by decide +kernel
theorem dX6_takes_66 : decode cX6_takes 66 = .ok (.getfield 20, 3) := by decide +kernel
theorem dX6_takes_69 : decode cX6_takes 69 = .ok (.iload 8, 2) := by decide +kernel
theorem dX6_takes_71 : decode cX6_takes 71 = .ok (.iaload, 1) := by decide +kernel
theorem dX6_takes_72 : decode cX6_takes 72 = .ok (.iadd, 1) := by decide +kernel
theorem dX6_takes_73 : decode cX6_takes 73 = .ok (.istore 5, 2) := by decide +kernel
theorem dX6_takes_75 : decode cX6_takes 75 = .ok (.iload 6, 2) := by decide +kernel
theorem dX6_takes_77 : decode cX6_takes 77 = .ok (.aload_n 0, 1) := by decide +kernel
theorem dX6_takes_78 : decode cX6_takes 78 = .ok (.getfield 23, 3) := by decide +kernel
theorem dX6_takes_81 : decode cX6_takes 81 = .ok (.iload 8, 2) := by decide +kernel
theorem dX6_takes_83 : decode cX6_takes 83 = .ok (.iaload, 1) := by decide +kernel
theorem dX6_takes_84 : decode cX6_takes 84 = .ok (.iadd, 1) := by decide +kernel
theorem dX6_takes_85 : decode cX6_takes 85 = .ok (.istore 6, 2) := by decide +kernel
theorem dX6_takes_87 : decode cX6_takes 87 = .ok (.iinc 7 1, 3) := by decide +kernel
theorem dX6_takes_90 : decode cX6_takes 90 = .ok (.iinc 8 1, 3) := by decide +kernel
theorem dX6_takes_93 : decode cX6_takes 93 = .ok (.goto (-81), 3) := by decide +kernel
theorem dX6_takes_96 : decode cX6_takes 96 = .ok (.iload_n 2, 1) := by decide +kernel
theorem dX6_takes_97 : decode cX6_takes 97 = .ok (.ifCond .eq 8, 3) := by decide +kernel
theorem dX6_takes_100 : decode cX6_takes 100 = .ok (.iload 7, 2) := by decide +kernel
theorem dX6_takes_102 : decode cX6_takes 102 = .ok (.ifCond .eq 14, 3) := by decide +kernel
theorem dX6_takes_105 : decode cX6_takes 105 = .ok (.iload_n 3, 1) := by decide +kernel
theorem dX6_takes_106 : decode cX6_takes 106 = .ok (.iload 5, 2) := by decide +kernel
theorem dX6_takes_108 : decode cX6_takes 108 = .ok (.iload 6, 2) := by decide +kernel
theorem dX6_takes_110 : decode cX6_takes 110 = .ok (.invokestatic 70, 3) := by decide +kernel
theorem dX6_takes_113 : decode cX6_takes 113 = .ok (.ifCond .eq 7, 3) := by decide +kernel
theorem dX6_takes_116 : decode cX6_takes 116 = .ok (.iconst 1, 1) := by decide +kernel
theorem dX6_takes_117 : decode cX6_takes 117 = .ok (.goto 4, 3) := by decide +kernel
theorem dX6_takes_120 : decode cX6_takes 120 = .ok (.iconst 0, 1) := by decide +kernel
theorem dX6_takes_121 : decode cX6_takes 121 = .ok (.ireturn, 1) := by decide +kernel
set_option maxRecDepth 20000 in
theorem ggX6_isFirst_X6_cell : GoodIn wsX6_isFirst wsX6_cell := goodIn_r _ [5] (by decide +kernel) (by decide +kernel)
set_option maxRecDepth 20000 in
theorem gX6_isFirst_X6_cell : GoodIn wsX6_isFirst (va_wsS RX6 95 yX6_cell wsX6_cell) := goodIn_app (goodIn_of _ (by decide +kernel)) ggX6_isFirst_X6_cell
set_option maxRecDepth 20000 in
theorem ggX6_isFirst_X6_takes : GoodIn wsX6_isFirst wsX6_takes := goodIn_r _ [9, 10, 11, 12, 13, 14, 15, 16, 17, 4, 18, 19, 20, 21, 22, 23, 24, 25, 26, 27, 28, 29, 30, 31, 32, 33, 34, 35, 36, 37, 38, 39, 40, 41] (by decide +kernel) (by decide +kernel)
set_option maxRecDepth 20000 in
theorem gX6_isFirst_X6_takes : GoodIn wsX6_isFirst (wsV RX6 102 RX6 yX6_takes wsX6_takes) := goodIn_app (goodIn_of _ (by decide +kernel)) ggX6_isFirst_X6_takes
theorem dX6_isFirst_0 : decode cX6_isFirst 0 = .ok (.iload_n 3, 1) := by decide +kernel
theorem dX6_isFirst_1 : decode cX6_isFirst 1 = .ok (.ifCond .le 15, 3) := by decide +kernel
theorem dX6_isFirst_4 : decode cX6_isFirst 4 = .ok (.iload_n 2, 1) := by decide +kernel
theorem dX6_isFirst_5 : decode cX6_isFirst 5 = .ok (.ifCond .le 7, 3) := by decide +kernel
theorem dX6_isFirst_8 : decode cX6_isFirst 8 = .ok (.iconst 1, 1) := by decide +kernel
theorem dX6_isFirst_9 : decode cX6_isFirst 9 = .ok (.goto 32, 3) := by decide +kernel
theorem dX6_isFirst_12 : decode cX6_isFirst 12 = .ok (.iconst 0, 1) := by decide +kernel
theorem dX6_isFirst_13 : decode cX6_isFirst 13 = .ok (.goto 28, 3) := by decide +kernel
theorem dX6_isFirst_16 : decode cX6_isFirst 16 = .ok (.iload_n 3, 1) := by decide +kernel
theorem dX6_isFirst_17 : decode cX6_isFirst 17 = .ok (.ifCond .ge 15, 3) := by decide +kernel
theorem dX6_isFirst_20 : decode cX6_isFirst 20 = .ok (.iload_n 2, 1) := by decide +kernel
theorem dX6_isFirst_21 : decode cX6_isFirst 21 = .ok (.ifCond .ge 7, 3) := by decide +kernel
theorem dX6_isFirst_24 : decode cX6_isFirst 24 = .ok (.iconst 1, 1) := by decide +kernel
theorem dX6_isFirst_25 : decode cX6_isFirst 25 = .ok (.goto 16, 3) := by decide +kernel
theorem dX6_isFirst_28 : decode cX6_isFirst 28 = .ok (.iconst 0, 1) := by decide +kernel
theorem dX6_isFirst_29 : decode cX6_isFirst 29 = .ok (.goto 12, 3) := by decide +kernel
theorem dX6_isFirst_32 : decode cX6_isFirst 32 = .ok (.iload_n 2, 1) := by decide +kernel
theorem dX6_isFirst_33 : decode cX6_isFirst 33 = .ok (.ifCond .lt 7, 3) := by decide +kernel
theorem dX6_isFirst_36 : decode cX6_isFirst 36 = .ok (.iconst 1, 1) := by decide +kernel
theorem dX6_isFirst_37 : decode cX6_isFirst 37 = .ok (.goto 4, 3) := by decide +kernel
theorem dX6_isFirst_40 : decode cX6_isFirst 40 = .ok (.iconst 0, 1) := by decide +kernel
theorem dX6_isFirst_41 : decode cX6_isFirst 41 = .ok (.istore 5, 2) := by decide +kernel
theorem dX6_isFirst_43 : decode cX6_isFirst 43 = .ok (.iload 5, 2) := by decide +kernel
theorem dX6_isFirst_45 : decode cX6_isFirst 45 = .ok (.ifCond .eq 43, 3) := by decide +kernel
theorem dX6_isFirst_48 : decode cX6_isFirst 48 = .ok (.aload_n 0, 1) := by decide +kernel
theorem dX6_isFirst_49 : decode cX6_isFirst 49 = .ok (.getfield 44, 3) := by decide +kernel
theorem dX6_isFirst_52 : decode cX6_isFirst 52 = .ok (.iconst 3, 1) := by decide +kernel
theorem dX6_isFirst_53 : decode cX6_isFirst 53 = .ok (.iload_n 1, 1) := by decide +kernel
theorem dX6_isFirst_54 : decode cX6_isFirst 54 = .ok (.imul, 1) := by decide +kernel
theorem dX6_isFirst_55 : decode cX6_isFirst 55 = .ok (.iload_n 2, 1) := by decide +kernel
theorem dX6_isFirst_56 : decode cX6_isFirst 56 = .ok (.invokestatic 95, 3) := by decide +kernel
theorem dX6_isFirst_59 : decode cX6_isFirst 59 = .ok (.baload, 1) := by decide +kernel
theorem dX6_isFirst_60 : decode cX6_isFirst 60 = .ok (.ifCond .eq 28, 3) := by decide +kernel
theorem dX6_isFirst_63 : decode cX6_isFirst 63 = .ok (.aload_n 0, 1) := by decide +kernel
theorem dX6_isFirst_64 : decode cX6_isFirst 64 = .ok (.iload_n 1, 1) := by decide +kernel
theorem dX6_isFirst_65 : decode cX6_isFirst 65 = .ok (.iconst 0, 1) := by decide +kernel
theorem dX6_isFirst_66 : decode cX6_isFirst 66 = .ok (.bipush 51, 2) := by decide +kernel
theorem dX6_isFirst_68 : decode cX6_isFirst 68 = .ok (.iload_n 2, 1) := by decide +kernel
theorem dX6_isFirst_69 : decode cX6_isFirst 69 = .ok (.iload_n 2, 1) := by decide +kernel
theorem dX6_isFirst_70 : decode cX6_isFirst 70 = .ok (.imul, 1) := by decide +kernel
theorem dX6_isFirst_71 : decode cX6_isFirst 71 = .ok (.iload_n 3, 1) := by decide +kernel
theorem dX6_isFirst_72 : decode cX6_isFirst 72 = .ok (.iload_n 3, 1) := by decide +kernel
theorem dX6_isFirst_73 : decode cX6_isFirst 73 = .ok (.imul, 1) := by decide +kernel
theorem dX6_isFirst_74 : decode cX6_isFirst 74 = .ok (.isub, 1) := by decide +kernel
theorem dX6_isFirst_75 : decode cX6_isFirst 75 = .ok (.imul, 1) := by decide +kernel
theorem dX6_isFirst_76 : decode cX6_isFirst 76 = .ok (.iload 4, 2) := by decide +kernel
theorem dX6_isFirst_78 : decode cX6_isFirst 78 = .ok (.invokevirtual 102, 3) := by decide +kernel
theorem dX6_isFirst_81 : decode cX6_isFirst 81 = .ok (.ifCond .eq 7, 3) := by decide +kernel
theorem dX6_isFirst_84 : decode cX6_isFirst 84 = .ok (.iconst 1, 1) := by decide +kernel
theorem dX6_isFirst_85 : decode cX6_isFirst 85 = .ok (.goto 4, 3) := by decide +kernel
theorem dX6_isFirst_88 : decode cX6_isFirst 88 = .ok (.iconst 0, 1) := by decide +kernel
theorem dX6_isFirst_89 : decode cX6_isFirst 89 = .ok (.ireturn, 1) := by decide +kernel
set_option maxRecDepth 20000 in
theorem ggX6_counts_X6_cell : GoodIn wsX6_counts wsX6_cell := goodIn_r _ [6] (by decide +kernel) (by decide +kernel)
set_option maxRecDepth 20000 in
theorem gX6_counts_X6_cell : GoodIn wsX6_counts (va_wsS RX6 95 yX6_cell wsX6_cell) := goodIn_app (goodIn_of _ (by decide +kernel)) ggX6_counts_X6_cell
set_option maxRecDepth 20000 in
theorem ggX6_counts_X6_isFirst : GoodIn wsX6_counts wsX6_isFirst := goodIn_r _ [10, 1, 3, 4, 5, 6, 11, 12, 13, 14, 15, 16, 17, 18, 19, 20, 21, 22, 23, 24, 25, 26, 27, 28, 29, 30, 31, 32, 33, 34, 35, 36, 37, 38, 39, 40, 41, 42, 43, 44, 45, 46] (by decide +kernel) (by decide +kernel)
set_option maxRecDepth 20000 in
theorem gX6_counts_X6_isFirst : GoodIn wsX6_counts (wsV RX6 106 RX6 yX6_isFirst wsX6_isFirst) := goodIn_app (goodIn_of _ (by decide +kernel)) ggX6_counts_X6_isFirst
set_option maxRecDepth 20000 in
theorem ggX6_counts_X6_takes : GoodIn wsX6_counts wsX6_takes := goodIn_r _ [14, 15, 16, 17, 18, 19, 20, 21, 22, 5, 23, 24, 25, 26, 27, 28, 29, 30, 31, 32, 33, 34, 35, 36, 37, 38, 39, 40, 41, 42, 43, 44, 45, 46] (by decide +kernel) (by decide +kernel)
set_option maxRecDepth 20000 in
theorem gX6_counts_X6_takes : GoodIn wsX6_counts (wsV RX6 102 RX6 yX6_takes wsX6_takes) := goodIn_app (goodIn_of _ (by decide +kernel)) ggX6_counts_X6_takes
theorem dX6_counts_0 : decode cX6_counts 0 = .ok (.iconst 0, 1) := by decide +kernel
theorem dX6_counts_1 : decode cX6_counts 1 = .ok (.istore_n 2, 1) := by decide +kernel
theorem dX6_counts_2 : decode cX6_counts 2 = .ok (.iload_n 2, 1) := by decide +kernel
theorem dX6_counts_3 : decode cX6_counts 3 = .ok (.iconst 2, 1) := by decide +kernel
theorem dX6_counts_4 : decode cX6_counts 4 = .ok (.if_icmp .ge 148, 3) := by decide +kernel
theorem dX6_counts_7 : decode cX6_counts 7 = .ok (.bipush (-50), 2) := by decide +kernel
theorem dX6_counts_9 : decode cX6_counts 9 = .ok (.istore_n 3, 1) := by decide +kernel
theorem dX6_counts_10 : decode cX6_counts 10 = .ok (.iload_n 3, 1) := by decide +kernel
theorem dX6_counts_11 : decode cX6_counts 11 = .ok (.bipush 50, 2) := by decide +kernel
theorem dX6_counts_13 : decode cX6_counts 13 = .ok (.if_icmp .gt 133, 3) := by decide +kernel
theorem dX6_counts_16 : decode cX6_counts 16 = .ok (.iconst 0, 1) := by decide +kernel
theorem dX6_counts_17 : decode cX6_counts 17 = .ok (.istore 4, 2) := by decide +kernel
theorem dX6_counts_19 : decode cX6_counts 19 = .ok (.bipush (-50), 2) := by decide +kernel
theorem dX6_counts_21 : decode cX6_counts 21 = .ok (.istore 5, 2) := by decide +kernel
theorem dX6_counts_23 : decode cX6_counts 23 = .ok (.iload 5, 2) := by decide +kernel
theorem dX6_counts_25 : decode cX6_counts 25 = .ok (.bipush 50, 2) := by decide +kernel
theorem dX6_counts_27 : decode cX6_counts 27 = .ok (.if_icmp .gt 48, 3) := by decide +kernel
theorem dX6_counts_30 : decode cX6_counts 30 = .ok (.aload_n 0, 1) := by decide +kernel
theorem dX6_counts_31 : decode cX6_counts 31 = .ok (.getfield 44, 3) := by decide +kernel
theorem dX6_counts_34 : decode cX6_counts 34 = .ok (.iconst 3, 1) := by decide +kernel
theorem dX6_counts_35 : decode cX6_counts 35 = .ok (.iload_n 2, 1) := by decide +kernel
theorem dX6_counts_36 : decode cX6_counts 36 = .ok (.imul, 1) := by decide +kernel
theorem dX6_counts_37 : decode cX6_counts 37 = .ok (.iconst 1, 1) := by decide +kernel
theorem dX6_counts_38 : decode cX6_counts 38 = .ok (.iadd, 1) := by decide +kernel
theorem dX6_counts_39 : decode cX6_counts 39 = .ok (.iload_n 3, 1) := by decide +kernel
theorem dX6_counts_40 : decode cX6_counts 40 = .ok (.invokestatic 95, 3) := by decide +kernel
theorem dX6_counts_43 : decode cX6_counts 43 = .ok (.baload, 1) := by decide +kernel
theorem dX6_counts_44 : decode cX6_counts 44 = .ok (.ifCond .eq 31, 3) := by decide +kernel
theorem dX6_counts_47 : decode cX6_counts 47 = .ok (.iload 4, 2) := by decide +kernel
theorem dX6_counts_49 : decode cX6_counts 49 = .ok (.aload_n 0, 1) := by decide +kernel
theorem dX6_counts_50 : decode cX6_counts 50 = .ok (.iload_n 2, 1) := by decide +kernel
theorem dX6_counts_51 : decode cX6_counts 51 = .ok (.iload 5, 2) := by decide +kernel
theorem dX6_counts_53 : decode cX6_counts 53 = .ok (.iload_n 3, 1) := by decide +kernel
theorem dX6_counts_54 : decode cX6_counts 54 = .ok (.iload_n 1, 1) := by decide +kernel
theorem dX6_counts_55 : decode cX6_counts 55 = .ok (.invokevirtual 106, 3) := by decide +kernel
theorem dX6_counts_58 : decode cX6_counts 58 = .ok (.ifCond .eq 7, 3) := by decide +kernel
theorem dX6_counts_61 : decode cX6_counts 61 = .ok (.iconst 1, 1) := by decide +kernel
theorem dX6_counts_62 : decode cX6_counts 62 = .ok (.goto 4, 3) := by decide +kernel
theorem dX6_counts_65 : decode cX6_counts 65 = .ok (.iconst 0, 1) := by decide +kernel
theorem dX6_counts_66 : decode cX6_counts 66 = .ok (.iadd, 1) := by decide +kernel
theorem dX6_counts_67 : decode cX6_counts 67 = .ok (.istore 4, 2) := by decide +kernel
theorem dX6_counts_69 : decode cX6_counts 69 = .ok (.iinc 5 1, 3) := by decide +kernel
theorem dX6_counts_72 : decode cX6_counts 72 = .ok (.goto (-49), 3) := by decide +kernel
theorem dX6_counts_75 : decode cX6_counts 75 = .ok (.aload_n 0, 1) := by decide +kernel
theorem dX6_counts_76 : decode cX6_counts 76 = .ok (.getfield 50, 3) := by decide +kernel
theorem dX6_counts_79 : decode cX6_counts 79 = .ok (.bipush 101, 2) := by decide +kernel
theorem dX6_counts_81 : decode cX6_counts 81 = .ok (.iload_n 2, 1) := by decide +kernel
theorem dX6_counts_82 : decode cX6_counts 82 = .ok (.imul, 1) := by decide +kernel
theorem dX6_counts_83 : decode cX6_counts 83 = .ok (.iload_n 3, 1) := by decide +kernel
theorem dX6_counts_84 : decode cX6_counts 84 = .ok (.iadd, 1) := by decide +kernel
theorem dX6_counts_85 : decode cX6_counts 85 = .ok (.bipush 50, 2) := by decide +kernel
theorem dX6_counts_87 : decode cX6_counts 87 = .ok (.iadd, 1) := by decide +kernel
theorem dX6_counts_88 : decode cX6_counts 88 = .ok (.iload 4, 2) := by decide +kernel
theorem dX6_counts_90 : decode cX6_counts 90 = .ok (.iastore, 1) := by decide +kernel
theorem dX6_counts_91 : decode cX6_counts 91 = .ok (.iconst 3, 1) := by decide +kernel
theorem dX6_counts_92 : decode cX6_counts 92 = .ok (.iload_n 2, 1) := by decide +kernel
theorem dX6_counts_93 : decode cX6_counts 93 = .ok (.imul, 1) := by decide +kernel
theorem dX6_counts_94 : decode cX6_counts 94 = .ok (.iconst 2, 1) := by decide +kernel
theorem dX6_counts_95 : decode cX6_counts 95 = .ok (.iadd, 1) := by decide +kernel
theorem dX6_counts_96 : decode cX6_counts 96 = .ok (.iload_n 3, 1) := by decide +kernel
theorem dX6_counts_97 : decode cX6_counts 97 = .ok (.invokestatic 95, 3) := by decide +kernel
theorem dX6_counts_100 : decode cX6_counts 100 = .ok (.istore 5, 2) := by decide +kernel
theorem dX6_counts_102 : decode cX6_counts 102 = .ok (.aload_n 0, 1) := by decide +kernel
theorem dX6_counts_103 : decode cX6_counts 103 = .ok (.getfield 44, 3) := by decide +kernel
theorem dX6_counts_106 : decode cX6_counts 106 = .ok (.iload 5, 2) := by decide +kernel
theorem dX6_counts_108 : decode cX6_counts 108 = .ok (.aload_n 0, 1) := by decide +kernel
theorem dX6_counts_109 : decode cX6_counts 109 = .ok (.getfield 44, 3) := by decide +kernel
theorem dX6_counts_112 : decode cX6_counts 112 = .ok (.iload 5, 2) := by decide +kernel
theorem dX6_counts_114 : decode cX6_counts 114 = .ok (.baload, 1) := by decide +kernel
theorem dX6_counts_115 : decode cX6_counts 115 = .ok (.ifCond .eq 23, 3) := by decide +kernel
theorem dX6_counts_118 : decode cX6_counts 118 = .ok (.aload_n 0, 1) := by decide +kernel
theorem dX6_counts_119 : decode cX6_counts 119 = .ok (.iload_n 2, 1) := by decide +kernel
theorem dX6_counts_120 : decode cX6_counts 120 = .ok (.iconst 1, 1) := by decide +kernel
theorem dX6_counts_121 : decode cX6_counts 121 = .ok (.bipush 51, 2) := by decide +kernel
theorem dX6_counts_123 : decode cX6_counts 123 = .ok (.iload_n 3, 1) := by decide +kernel
theorem dX6_counts_124 : decode cX6_counts 124 = .ok (.imul, 1) := by decide +kernel
theorem dX6_counts_125 : decode cX6_counts 125 = .ok (.iload_n 3, 1) := by decide +kernel
theorem dX6_counts_126 : decode cX6_counts 126 = .ok (.imul, 1) := by decide +kernel
theorem dX6_counts_127 : decode cX6_counts 127 = .ok (.iload_n 1, 1) := by decide +kernel
theorem dX6_counts_128 : decode cX6_counts 128 = .ok (.invokevirtual 102, 3) := by decide +kernel
theorem dX6_counts_131 : decode cX6_counts 131 = .ok (.ifCond .eq 7, 3) := by decide +kernel
theorem dX6_counts_134 : decode cX6_counts 134 = .ok (.iconst 1, 1) := by decide +kernel
theorem dX6_counts_135 : decode cX6_counts 135 = .ok (.goto 4, 3) := by decide +kernel
theorem dX6_counts_138 : decode cX6_counts 138 = .ok (.iconst 0, 1) := by decide +kernel
theorem dX6_counts_139 : decode cX6_counts 139 = .ok (.bastore, 1) := by decide +kernel
theorem dX6_counts_140 : decode cX6_counts 140 = .ok (.iinc 3 1, 3) := by decide +kernel
theorem dX6_counts_143 : decode cX6_counts 143 = .ok (.goto (-133), 3) := by decide +kernel
theorem dX6_counts_146 : decode cX6_counts 146 = .ok (.iinc 2 1, 3) := by decide +kernel
theorem dX6_counts_149 : decode cX6_counts 149 = .ok (.goto (-147), 3) := by decide +kernel
theorem dX6_counts_152 : decode cX6_counts 152 = .ok (.return_, 1) := by decide +kernel
theorem dX6_masks_0 : decode cX6_masks 0 = .ok (.iload_n 1, 1) := by decide +kernel
theorem dX6_masks_1 : decode cX6_masks 1 = .ok (.bipush 50, 2) := by decide +kernel
theorem dX6_masks_3 : decode cX6_masks 3 = .ok (.iadd, 1) := by decide +kernel
theorem dX6_masks_4 : decode cX6_masks 4 = .ok (.istore 4, 2) := by decide +kernel
theorem dX6_masks_6 : decode cX6_masks 6 = .ok (.bipush 101, 2) := by decide +kernel
theorem dX6_masks_8 : decode cX6_masks 8 = .ok (.iload_n 2, 1) := by decide +kernel
theorem dX6_masks_9 : decode cX6_masks 9 = .ok (.iadd, 1) := by decide +kernel
theorem dX6_masks_10 : decode cX6_masks 10 = .ok (.bipush 50, 2) := by decide +kernel
theorem dX6_masks_12 : decode cX6_masks 12 = .ok (.iadd, 1) := by decide +kernel
theorem dX6_masks_13 : decode cX6_masks 13 = .ok (.istore 5, 2) := by decide +kernel
theorem dX6_masks_15 : decode cX6_masks 15 = .ok (.iconst 0, 1) := by decide +kernel
theorem dX6_masks_16 : decode cX6_masks 16 = .ok (.istore 6, 2) := by decide +kernel
theorem dX6_masks_18 : decode cX6_masks 18 = .ok (.iload 6, 2) := by decide +kernel
theorem dX6_masks_20 : decode cX6_masks 20 = .ok (.aload_n 0, 1) := by decide +kernel
theorem dX6_masks_21 : decode cX6_masks 21 = .ok (.getfield 63, 3) := by decide +kernel
theorem dX6_masks_24 : decode cX6_masks 24 = .ok (.iload 4, 2) := by decide +kernel
theorem dX6_masks_26 : decode cX6_masks 26 = .ok (.iaload, 1) := by decide +kernel
theorem dX6_masks_27 : decode cX6_masks 27 = .ok (.if_icmp .ge 65, 3) := by decide +kernel
theorem dX6_masks_30 : decode cX6_masks 30 = .ok (.iconst 0, 1) := by decide +kernel
theorem dX6_masks_31 : decode cX6_masks 31 = .ok (.istore 7, 2) := by decide +kernel
theorem dX6_masks_33 : decode cX6_masks 33 = .ok (.iload 7, 2) := by decide +kernel
theorem dX6_masks_35 : decode cX6_masks 35 = .ok (.aload_n 0, 1) := by decide +kernel
theorem dX6_masks_36 : decode cX6_masks 36 = .ok (.getfield 63, 3) := by decide +kernel
theorem dX6_masks_39 : decode cX6_masks 39 = .ok (.iload 5, 2) := by decide +kernel
theorem dX6_masks_41 : decode cX6_masks 41 = .ok (.iaload, 1) := by decide +kernel
theorem dX6_masks_42 : decode cX6_masks 42 = .ok (.if_icmp .ge 44, 3) := by decide +kernel
theorem dX6_masks_45 : decode cX6_masks 45 = .ok (.aload_n 0, 1) := by decide +kernel
theorem dX6_masks_46 : decode cX6_masks 46 = .ok (.getfield 53, 3) := by decide +kernel
theorem dX6_masks_49 : decode cX6_masks 49 = .ok (.aload_n 0, 1) := by decide +kernel
theorem dX6_masks_50 : decode cX6_masks 50 = .ok (.getfield 60, 3) := by decide +kernel
theorem dX6_masks_53 : decode cX6_masks 53 = .ok (.bipush 101, 2) := by decide +kernel
theorem dX6_masks_55 : decode cX6_masks 55 = .ok (.iload 4, 2) := by decide +kernel
theorem dX6_masks_57 : decode cX6_masks 57 = .ok (.imul, 1) := by decide +kernel
theorem dX6_masks_58 : decode cX6_masks 58 = .ok (.iload 6, 2) := by decide +kernel
theorem dX6_masks_60 : decode cX6_masks 60 = .ok (.iadd, 1) := by decide +kernel
theorem dX6_masks_61 : decode cX6_masks 61 = .ok (.iaload, 1) := by decide +kernel
theorem dX6_masks_62 : decode cX6_masks 62 = .ok (.aload_n 0, 1) := by decide +kernel
theorem dX6_masks_63 : decode cX6_masks 63 = .ok (.getfield 60, 3) := by decide +kernel
theorem dX6_masks_66 : decode cX6_masks 66 = .ok (.bipush 101, 2) := by decide +kernel
theorem dX6_masks_68 : decode cX6_masks 68 = .ok (.iload 5, 2) := by decide +kernel
theorem dX6_masks_70 : decode cX6_masks 70 = .ok (.imul, 1) := by decide +kernel
theorem dX6_masks_71 : decode cX6_masks 71 = .ok (.iload 7, 2) := by decide +kernel
theorem dX6_masks_73 : decode cX6_masks 73 = .ok (.iadd, 1) := by decide +kernel
theorem dX6_masks_74 : decode cX6_masks 74 = .ok (.iaload, 1) := by decide +kernel
theorem dX6_masks_75 : decode cX6_masks 75 = .ok (.ior, 1) := by decide +kernel
theorem dX6_masks_76 : decode cX6_masks 76 = .ok (.iload_n 3, 1) := by decide +kernel
theorem dX6_masks_77 : decode cX6_masks 77 = .ok (.ior, 1) := by decide +kernel
theorem dX6_masks_78 : decode cX6_masks 78 = .ok (.iconst 1, 1) := by decide +kernel
theorem dX6_masks_79 : decode cX6_masks 79 = .ok (.bastore, 1) := by decide +kernel
theorem dX6_masks_80 : decode cX6_masks 80 = .ok (.iinc 7 1, 3) := by decide +kernel
theorem dX6_masks_83 : decode cX6_masks 83 = .ok (.goto (-50), 3) := by decide +kernel
theorem dX6_masks_86 : decode cX6_masks 86 = .ok (.iinc 6 1, 3) := by decide +kernel
theorem dX6_masks_89 : decode cX6_masks 89 = .ok (.goto (-71), 3) := by decide +kernel
theorem dX6_masks_92 : decode cX6_masks 92 = .ok (.return_, 1) := by decide +kernel
theorem dX6_all_0 : decode cX6_all 0 = .ok (.iconst 1, 1) := by decide +kernel
theorem dX6_all_1 : decode cX6_all 1 = .ok (.aload_n 0, 1) := by decide +kernel
theorem dX6_all_2 : decode cX6_all 2 = .ok (.getfield 92, 3) := by decide +kernel
theorem dX6_all_5 : decode cX6_all 5 = .ok (.ishl, 1) := by decide +kernel
theorem dX6_all_6 : decode cX6_all 6 = .ok (.iconst 1, 1) := by decide +kernel
theorem dX6_all_7 : decode cX6_all 7 = .ok (.isub, 1) := by decide +kernel
theorem dX6_all_8 : decode cX6_all 8 = .ok (.ireturn, 1) := by decide +kernel
set_option maxRecDepth 20000 in
theorem ggX6_look_X6_in : GoodIn wsX6_look wsX6_in := goodIn_r _ [11] (by decide +kernel) (by decide +kernel)
set_option maxRecDepth 20000 in
theorem gX6_look_X6_in : GoodIn wsX6_look (va_wsS RX6 70 yX6_in wsX6_in) := goodIn_app (goodIn_of _ (by decide +kernel)) ggX6_look_X6_in
set_option maxRecDepth 20000 in
theorem ggX6_look_X6_throwsIf : GoodIn wsX6_look wsX6_throwsIf := goodIn_r _ [15, 1, 16, 17, 18, 19, 20, 21, 22, 23, 24, 25, 26, 27, 28, 29, 30, 31, 32, 33, 34, 35, 36, 37, 38] (by decide +kernel) (by decide +kernel)
set_option maxRecDepth 20000 in
theorem gX6_look_X6_throwsIf : GoodIn wsX6_look (wsV RX6 78 RX6 yX6_throwsIf wsX6_throwsIf) := goodIn_app (goodIn_of _ (by decide +kernel)) ggX6_look_X6_throwsIf
theorem dX6_look_0 : decode cX6_look 0 = .ok (.aload_n 0, 1) := by decide +kernel
theorem dX6_look_1 : decode cX6_look 1 = .ok (.iconst 0, 1) := by decide +kernel
theorem dX6_look_2 : decode cX6_look 2 = .ok (.putfield 66, 3) := by decide +kernel
theorem dX6_look_5 : decode cX6_look 5 = .ok (.aload_n 0, 1) := by decide +kernel
theorem dX6_look_6 : decode cX6_look 6 = .ok (.iload_n 1, 1) := by decide +kernel
theorem dX6_look_7 : decode cX6_look 7 = .ok (.iconst 0, 1) := by decide +kernel
theorem dX6_look_8 : decode cX6_look 8 = .ok (.aload_n 0, 1) := by decide +kernel
theorem dX6_look_9 : decode cX6_look 9 = .ok (.getfield 82, 3) := by decide +kernel
theorem dX6_look_12 : decode cX6_look 12 = .ok (.iconst 1, 1) := by decide +kernel
theorem dX6_look_13 : decode cX6_look 13 = .ok (.isub, 1) := by decide +kernel
theorem dX6_look_14 : decode cX6_look 14 = .ok (.invokestatic 70, 3) := by decide +kernel
theorem dX6_look_17 : decode cX6_look 17 = .ok (.ifCond .ne 7, 3) := by decide +kernel
theorem dX6_look_20 : decode cX6_look 20 = .ok (.iconst 1, 1) := by decide +kernel
theorem dX6_look_21 : decode cX6_look 21 = .ok (.goto 4, 3) := by decide +kernel
theorem dX6_look_24 : decode cX6_look 24 = .ok (.iconst 0, 1) := by decide +kernel
theorem dX6_look_25 : decode cX6_look 25 = .ok (.iconst 1, 1) := by decide +kernel
theorem dX6_look_26 : decode cX6_look 26 = .ok (.invokevirtual 78, 3) := by decide +kernel
theorem dX6_look_29 : decode cX6_look 29 = .ok (.ifCond .eq 5, 3) := by decide +kernel
theorem dX6_look_32 : decode cX6_look 32 = .ok (.iconst 0, 1) := by decide +kernel
theorem dX6_look_33 : decode cX6_look 33 = .ok (.ireturn, 1) := by decide +kernel
theorem dX6_look_34 : decode cX6_look 34 = .ok (.iload_n 2, 1) := by decide +kernel
theorem dX6_look_35 : decode cX6_look 35 = .ok (.tableswitch 84 0 4 #[33, 40, 55, 62, 69], 33) := by decide +kernel
theorem dX6_look_68 : decode cX6_look 68 = .ok (.aload_n 0, 1) := by decide +kernel
theorem dX6_look_69 : decode cX6_look 69 = .ok (.getfield 13, 3) := by decide +kernel
theorem dX6_look_72 : decode cX6_look 72 = .ok (.iload_n 1, 1) := by decide +kernel
theorem dX6_look_73 : decode cX6_look 73 = .ok (.iaload, 1) := by decide +kernel
theorem dX6_look_74 : decode cX6_look 74 = .ok (.ireturn, 1) := by decide +kernel
theorem dX6_look_75 : decode cX6_look 75 = .ok (.aload_n 0, 1) := by decide +kernel
theorem dX6_look_76 : decode cX6_look 76 = .ok (.getfield 16, 3) := by decide +kernel
theorem dX6_look_79 : decode cX6_look 79 = .ok (.iload_n 1, 1) := by decide +kernel
theorem dX6_look_80 : decode cX6_look 80 = .ok (.baload, 1) := by decide +kernel
theorem dX6_look_81 : decode cX6_look 81 = .ok (.ifCond .eq 7, 3) := by decide +kernel
theorem dX6_look_84 : decode cX6_look 84 = .ok (.iconst 1, 1) := by decide +kernel
theorem dX6_look_85 : decode cX6_look 85 = .ok (.goto 4, 3) := by decide +kernel
theorem dX6_look_88 : decode cX6_look 88 = .ok (.iconst 0, 1) := by decide +kernel
theorem dX6_look_89 : decode cX6_look 89 = .ok (.ireturn, 1) := by decide +kernel
theorem dX6_look_90 : decode cX6_look 90 = .ok (.aload_n 0, 1) := by decide +kernel
theorem dX6_look_91 : decode cX6_look 91 = .ok (.getfield 20, 3) := by decide +kernel
theorem dX6_look_94 : decode cX6_look 94 = .ok (.iload_n 1, 1) := by decide +kernel
theorem dX6_look_95 : decode cX6_look 95 = .ok (.iaload, 1) := by decide +kernel
theorem dX6_look_96 : decode cX6_look 96 = .ok (.ireturn, 1) := by decide +kernel
theorem dX6_look_97 : decode cX6_look 97 = .ok (.aload_n 0, 1) := by decide +kernel
theorem dX6_look_98 : decode cX6_look 98 = .ok (.getfield 23, 3) := by decide +kernel
theorem dX6_look_101 : decode cX6_look 101 = .ok (.iload_n 1, 1) := by decide +kernel
theorem dX6_look_102 : decode cX6_look 102 = .ok (.iaload, 1) := by decide +kernel
theorem dX6_look_103 : decode cX6_look 103 = .ok (.ireturn, 1) := by decide +kernel
theorem dX6_look_104 : decode cX6_look 104 = .ok (.aload_n 0, 1) := by decide +kernel
theorem dX6_look_105 : decode cX6_look 105 = .ok (.getfield 26, 3) := by decide +kernel
theorem dX6_look_108 : decode cX6_look 108 = .ok (.iload_n 1, 1) := by decide +kernel
theorem dX6_look_109 : decode cX6_look 109 = .ok (.baload, 1) := by decide +kernel
theorem dX6_look_110 : decode cX6_look 110 = .ok (.ifCond .eq 7, 3) := by decide +kernel
theorem dX6_look_113 : decode cX6_look 113 = .ok (.iconst 0, 1) := by decide +kernel
theorem dX6_look_114 : decode cX6_look 114 = .ok (.goto 4, 3) := by decide +kernel
theorem dX6_look_117 : decode cX6_look 117 = .ok (.iconst 1, 1) := by decide +kernel
theorem dX6_look_118 : decode cX6_look 118 = .ok (.ireturn, 1) := by decide +kernel
theorem dX6_look_119 : decode cX6_look 119 = .ok (.aload_n 0, 1) := by decide +kernel
theorem dX6_look_120 : decode cX6_look 120 = .ok (.iconst 2, 1) := by decide +kernel
theorem dX6_look_121 : decode cX6_look 121 = .ok (.putfield 66, 3) := by decide +kernel
theorem dX6_look_124 : decode cX6_look 124 = .ok (.iconst 0, 1) := by decide +kernel
theorem dX6_look_125 : decode cX6_look 125 = .ok (.ireturn, 1) := by decide +kernel
theorem dX6_count_0 : decode cX6_count 0 = .ok (.aload_n 0, 1) := by decide +kernel
theorem dX6_count_1 : decode cX6_count 1 = .ok (.iconst 0, 1) := by decide +kernel
theorem dX6_count_2 : decode cX6_count 2 = .ok (.putfield 66, 3) := by decide +kernel
theorem dX6_count_5 : decode cX6_count 5 = .ok (.iconst 0, 1) := by decide +kernel
theorem dX6_count_6 : decode cX6_count 6 = .ok (.istore_n 2, 1) := by decide +kernel
theorem dX6_count_7 : decode cX6_count 7 = .ok (.iload_n 1, 1) := by decide +kernel
theorem dX6_count_8 : decode cX6_count 8 = .ok (.tableswitch 90 0 4 #[36, 41, 76, 81, 81], 36) := by decide +kernel
theorem dX6_count_44 : decode cX6_count 44 = .ok (.aload_n 0, 1) := by decide +kernel
theorem dX6_count_45 : decode cX6_count 45 = .ok (.getfield 82, 3) := by decide +kernel
theorem dX6_count_48 : decode cX6_count 48 = .ok (.ireturn, 1) := by decide +kernel
theorem dX6_count_49 : decode cX6_count 49 = .ok (.iconst 0, 1) := by decide +kernel
theorem dX6_count_50 : decode cX6_count 50 = .ok (.istore_n 3, 1) := by decide +kernel
theorem dX6_count_51 : decode cX6_count 51 = .ok (.iload_n 3, 1) := by decide +kernel
theorem dX6_count_52 : decode cX6_count 52 = .ok (.aload_n 0, 1) := by decide +kernel
theorem dX6_count_53 : decode cX6_count 53 = .ok (.getfield 82, 3) := by decide +kernel
theorem dX6_count_56 : decode cX6_count 56 = .ok (.if_icmp .ge 26, 3) := by decide +kernel
theorem dX6_count_59 : decode cX6_count 59 = .ok (.iload_n 2, 1) := by decide +kernel
theorem dX6_count_60 : decode cX6_count 60 = .ok (.aload_n 0, 1) := by decide +kernel
theorem dX6_count_61 : decode cX6_count 61 = .ok (.getfield 26, 3) := by decide +kernel
theorem dX6_count_64 : decode cX6_count 64 = .ok (.iload_n 3, 1) := by decide +kernel
theorem dX6_count_65 : decode cX6_count 65 = .ok (.baload, 1) := by decide +kernel
theorem dX6_count_66 : decode cX6_count 66 = .ok (.ifCond .eq 7, 3) := by decide +kernel
theorem dX6_count_69 : decode cX6_count 69 = .ok (.iconst 0, 1) := by decide +kernel
theorem dX6_count_70 : decode cX6_count 70 = .ok (.goto 4, 3) := by decide +kernel
theorem dX6_count_73 : decode cX6_count 73 = .ok (.iconst 1, 1) := by decide +kernel
theorem dX6_count_74 : decode cX6_count 74 = .ok (.iadd, 1) := by decide +kernel
theorem dX6_count_75 : decode cX6_count 75 = .ok (.istore_n 2, 1) := by decide +kernel
theorem dX6_count_76 : decode cX6_count 76 = .ok (.iinc 3 1, 3) := by decide +kernel
theorem dX6_count_79 : decode cX6_count 79 = .ok (.goto (-28), 3) := by decide +kernel
theorem dX6_count_82 : decode cX6_count 82 = .ok (.iload_n 2, 1) := by decide +kernel
theorem dX6_count_83 : decode cX6_count 83 = .ok (.ireturn, 1) := by decide +kernel
theorem dX6_count_84 : decode cX6_count 84 = .ok (.aload_n 0, 1) := by decide +kernel
theorem dX6_count_85 : decode cX6_count 85 = .ok (.getfield 92, 3) := by decide +kernel
theorem dX6_count_88 : decode cX6_count 88 = .ok (.ireturn, 1) := by decide +kernel
theorem dX6_count_89 : decode cX6_count 89 = .ok (.aload_n 0, 1) := by decide +kernel
theorem dX6_count_90 : decode cX6_count 90 = .ok (.getfield 7, 3) := by decide +kernel
theorem dX6_count_93 : decode cX6_count 93 = .ok (.iload_n 1, 1) := by decide +kernel
theorem dX6_count_94 : decode cX6_count 94 = .ok (.iconst 3, 1) := by decide +kernel
theorem dX6_count_95 : decode cX6_count 95 = .ok (.isub, 1) := by decide +kernel
theorem dX6_count_96 : decode cX6_count 96 = .ok (.iaload, 1) := by decide +kernel
theorem dX6_count_97 : decode cX6_count 97 = .ok (.ireturn, 1) := by decide +kernel
theorem dX6_count_98 : decode cX6_count 98 = .ok (.iconst (-1), 1) := by decide +kernel
theorem dX6_count_99 : decode cX6_count 99 = .ok (.ireturn, 1) := by decide +kernel
theorem dJ6_bitCount_0f7a4_0 : decode cJ6_bitCount_0f7a4 0 = .ok (.iload_n 0, 1) := by decide +kernel
theorem dJ6_bitCount_0f7a4_1 : decode cJ6_bitCount_0f7a4 1 = .ok (.iload_n 0, 1) := by decide +kernel
theorem dJ6_bitCount_0f7a4_2 : decode cJ6_bitCount_0f7a4 2 = .ok (.iconst 1, 1) := by decide +kernel
theorem dJ6_bitCount_0f7a4_3 : decode cJ6_bitCount_0f7a4 3 = .ok (.iushr, 1) := by decide +kernel
theorem dJ6_bitCount_0f7a4_4 : decode cJ6_bitCount_0f7a4 4 = .ok (.ldc_w 265, 3) := by decide +kernel
theorem dJ6_bitCount_0f7a4_7 : decode cJ6_bitCount_0f7a4 7 = .ok (.iand, 1) := by decide +kernel
theorem dJ6_bitCount_0f7a4_8 : decode cJ6_bitCount_0f7a4 8 = .ok (.isub, 1) := by decide +kernel
theorem dJ6_bitCount_0f7a4_9 : decode cJ6_bitCount_0f7a4 9 = .ok (.istore_n 0, 1) := by decide +kernel
theorem dJ6_bitCount_0f7a4_10 : decode cJ6_bitCount_0f7a4 10 = .ok (.iload_n 0, 1) := by decide +kernel
theorem dJ6_bitCount_0f7a4_11 : decode cJ6_bitCount_0f7a4 11 = .ok (.ldc_w 266, 3) := by decide +kernel
theorem dJ6_bitCount_0f7a4_14 : decode cJ6_bitCount_0f7a4 14 = .ok (.iand, 1) := by decide +kernel
theorem dJ6_bitCount_0f7a4_15 : decode cJ6_bitCount_0f7a4 15 = .ok (.iload_n 0, 1) := by decide +kernel
theorem dJ6_bitCount_0f7a4_16 : decode cJ6_bitCount_0f7a4 16 = .ok (.iconst 2, 1) := by decide +kernel
theorem dJ6_bitCount_0f7a4_17 : decode cJ6_bitCount_0f7a4 17 = .ok (.iushr, 1) := by decide +kernel
theorem dJ6_bitCount_0f7a4_18 : decode cJ6_bitCount_0f7a4 18 = .ok (.ldc_w 266, 3) := by decide +kernel
theorem dJ6_bitCount_0f7a4_21 : decode cJ6_bitCount_0f7a4 21 = .ok (.iand, 1) := by decide +kernel
theorem dJ6_bitCount_0f7a4_22 : decode cJ6_bitCount_0f7a4 22 = .ok (.iadd, 1) := by decide +kernel
theorem dJ6_bitCount_0f7a4_23 : decode cJ6_bitCount_0f7a4 23 = .ok (.istore_n 0, 1) := by decide +kernel
theorem dJ6_bitCount_0f7a4_24 : decode cJ6_bitCount_0f7a4 24 = .ok (.iload_n 0, 1) := by decide +kernel
theorem dJ6_bitCount_0f7a4_25 : decode cJ6_bitCount_0f7a4 25 = .ok (.iload_n 0, 1) := by decide +kernel
theorem dJ6_bitCount_0f7a4_26 : decode cJ6_bitCount_0f7a4 26 = .ok (.iconst 4, 1) := by decide +kernel
theorem dJ6_bitCount_0f7a4_27 : decode cJ6_bitCount_0f7a4 27 = .ok (.iushr, 1) := by decide +kernel
theorem dJ6_bitCount_0f7a4_28 : decode cJ6_bitCount_0f7a4 28 = .ok (.iadd, 1) := by decide +kernel
theorem dJ6_bitCount_0f7a4_29 : decode cJ6_bitCount_0f7a4 29 = .ok (.ldc_w 267, 3) := by decide +kernel
theorem dJ6_bitCount_0f7a4_32 : decode cJ6_bitCount_0f7a4 32 = .ok (.iand, 1) := by decide +kernel
theorem dJ6_bitCount_0f7a4_33 : decode cJ6_bitCount_0f7a4 33 = .ok (.istore_n 0, 1) := by decide +kernel
theorem dJ6_bitCount_0f7a4_34 : decode cJ6_bitCount_0f7a4 34 = .ok (.iload_n 0, 1) := by decide +kernel
theorem dJ6_bitCount_0f7a4_35 : decode cJ6_bitCount_0f7a4 35 = .ok (.iload_n 0, 1) := by decide +kernel
theorem dJ6_bitCount_0f7a4_36 : decode cJ6_bitCount_0f7a4 36 = .ok (.bipush 8, 2) := by decide +kernel
theorem dJ6_bitCount_0f7a4_38 : decode cJ6_bitCount_0f7a4 38 = .ok (.iushr, 1) := by decide +kernel
theorem dJ6_bitCount_0f7a4_39 : decode cJ6_bitCount_0f7a4 39 = .ok (.iadd, 1) := by decide +kernel
theorem dJ6_bitCount_0f7a4_40 : decode cJ6_bitCount_0f7a4 40 = .ok (.istore_n 0, 1) := by decide +kernel
theorem dJ6_bitCount_0f7a4_41 : decode cJ6_bitCount_0f7a4 41 = .ok (.iload_n 0, 1) := by decide +kernel
theorem dJ6_bitCount_0f7a4_42 : decode cJ6_bitCount_0f7a4 42 = .ok (.iload_n 0, 1) := by decide +kernel
theorem dJ6_bitCount_0f7a4_43 : decode cJ6_bitCount_0f7a4 43 = .ok (.bipush 16, 2) := by decide +kernel
theorem dJ6_bitCount_0f7a4_45 : decode cJ6_bitCount_0f7a4 45 = .ok (.iushr, 1) := by decide +kernel
theorem dJ6_bitCount_0f7a4_46 : decode cJ6_bitCount_0f7a4 46 = .ok (.iadd, 1) := by decide +kernel
theorem dJ6_bitCount_0f7a4_47 : decode cJ6_bitCount_0f7a4 47 = .ok (.istore_n 0, 1) := by decide +kernel
theorem dJ6_bitCount_0f7a4_48 : decode cJ6_bitCount_0f7a4 48 = .ok (.iload_n 0, 1) := by decide +kernel
theorem dJ6_bitCount_0f7a4_49 : decode cJ6_bitCount_0f7a4 49 = .ok (.bipush 63, 2) := by decide +kernel
theorem dJ6_bitCount_0f7a4_51 : decode cJ6_bitCount_0f7a4 51 = .ok (.iand, 1) := by decide +kernel
theorem dJ6_bitCount_0f7a4_52 : decode cJ6_bitCount_0f7a4 52 = .ok (.ireturn, 1) := by decide +kernel
theorem dJ9_abs_0f7a4_0 : decode cJ9_abs_0f7a4 0 = .ok (.iload_n 0, 1) := by decide +kernel
theorem dJ9_abs_0f7a4_1 : decode cJ9_abs_0f7a4 1 = .ok (.ifCond .ge 8, 3) := by decide +kernel
theorem dJ9_abs_0f7a4_4 : decode cJ9_abs_0f7a4 4 = .ok (.iload_n 0, 1) := by decide +kernel
theorem dJ9_abs_0f7a4_5 : decode cJ9_abs_0f7a4 5 = .ok (.ineg, 1) := by decide +kernel
theorem dJ9_abs_0f7a4_6 : decode cJ9_abs_0f7a4 6 = .ok (.goto 4, 3) := by decide +kernel
theorem dJ9_abs_0f7a4_9 : decode cJ9_abs_0f7a4 9 = .ok (.iload_n 0, 1) := by decide +kernel
theorem dJ9_abs_0f7a4_10 : decode cJ9_abs_0f7a4 10 = .ok (.ireturn, 1) := by decide +kernel
theorem dJ9_max_7cf53_0 : decode cJ9_max_7cf53 0 = .ok (.iload_n 0, 1) := by decide +kernel
theorem dJ9_max_7cf53_1 : decode cJ9_max_7cf53 1 = .ok (.iload_n 1, 1) := by decide +kernel
theorem dJ9_max_7cf53_2 : decode cJ9_max_7cf53 2 = .ok (.if_icmp .lt 7, 3) := by decide +kernel
theorem dJ9_max_7cf53_5 : decode cJ9_max_7cf53 5 = .ok (.iload_n 0, 1) := by decide +kernel
theorem dJ9_max_7cf53_6 : decode cJ9_max_7cf53 6 = .ok (.goto 4, 3) := by decide +kernel
theorem dJ9_max_7cf53_9 : decode cJ9_max_7cf53 9 = .ok (.iload_n 1, 1) := by decide +kernel
theorem dJ9_max_7cf53_10 : decode cJ9_max_7cf53 10 = .ok (.ireturn, 1) := by decide +kernel
theorem dJ9_min_7cf53_0 : decode cJ9_min_7cf53 0 = .ok (.iload_n 0, 1) := by decide +kernel
theorem dJ9_min_7cf53_1 : decode cJ9_min_7cf53 1 = .ok (.iload_n 1, 1) := by decide +kernel
theorem dJ9_min_7cf53_2 : decode cJ9_min_7cf53 2 = .ok (.if_icmp .gt 7, 3) := by decide +kernel
theorem dJ9_min_7cf53_5 : decode cJ9_min_7cf53 5 = .ok (.iload_n 0, 1) := by decide +kernel
theorem dJ9_min_7cf53_6 : decode cJ9_min_7cf53 6 = .ok (.goto 4, 3) := by decide +kernel
theorem dJ9_min_7cf53_9 : decode cJ9_min_7cf53 9 = .ok (.iload_n 1, 1) := by decide +kernel
theorem dJ9_min_7cf53_10 : decode cJ9_min_7cf53 10 = .ok (.ireturn, 1) := by decide +kernel
