theorem dX7_set_0 : decode cX7_set 0 = .ok (.aload_n 0, 1) := by decide +kernel
theorem dX7_set_1 : decode cX7_set 1 = .ok (.getfield 10, 3) := by decide +kernel
theorem dX7_set_4 : decode cX7_set 4 = .ok (.iload_n 1, 1) := by decide +kernel
theorem dX7_set_5 : decode cX7_set 5 = .ok (.iload_n 2, 1) := by decide +kernel
theorem dX7_set_6 : decode cX7_set 6 = .ok (.invokevirtual 47, 3) := by decide +kernel
theorem dX7_set_9 : decode cX7_set 9 = .ok (.istore_n 3, 1) := by decide +kernel
theorem dX7_set_10 : decode cX7_set 10 = .ok (.iload_n 3, 1) := by decide +kernel
theorem dX7_set_11 : decode cX7_set 11 = .ok (.ifCond .eq 5, 3) := by decide +kernel
theorem dX7_set_14 : decode cX7_set 14 = .ok (.iload_n 3, 1) := by decide +kernel
theorem dX7_set_15 : decode cX7_set 15 = .ok (.ireturn, 1) := by decide +kernel
theorem dX7_set_16 : decode cX7_set 16 = .ok (.aload_n 0, 1) := by decide +kernel
theorem dX7_set_17 : decode cX7_set 17 = .ok (.getfield 19, 3) := by decide +kernel
theorem dX7_set_20 : decode cX7_set 20 = .ok (.aload_n 0, 1) := by decide +kernel
theorem dX7_set_21 : decode cX7_set 21 = .ok (.getfield 10, 3) := by decide +kernel
theorem dX7_set_24 : decode cX7_set 24 = .ok (.invokevirtual 51, 3) := by decide +kernel
theorem dX7_set_27 : decode cX7_set 27 = .ok (.aload_n 0, 1) := by decide +kernel
theorem dX7_set_28 : decode cX7_set 28 = .ok (.getfield 10, 3) := by decide +kernel
theorem dX7_set_31 : decode cX7_set 31 = .ok (.iload_n 1, 1) := by decide +kernel
theorem dX7_set_32 : decode cX7_set 32 = .ok (.iload_n 2, 1) := by decide +kernel
theorem dX7_set_33 : decode cX7_set 33 = .ok (.invokevirtual 55, 3) := by decide +kernel
theorem dX7_set_36 : decode cX7_set 36 = .ok (.sipush 1000, 3) := by decide +kernel
theorem dX7_set_39 : decode cX7_set 39 = .ok (.iadd, 1) := by decide +kernel
theorem dX7_set_40 : decode cX7_set 40 = .ok (.ireturn, 1) := by decide +kernel
set_option maxRecDepth 20000 in
theorem ggX7_weight_X0_errorOfWeight : GoodIn wsX7_weight wsX0_errorOfWeight := goodIn_r _ [7] (by decide +kernel) (by decide +kernel)
set_option maxRecDepth 20000 in
theorem gX7_weight_X0_errorOfWeight : GoodIn wsX7_weight (wsV RX7 58 RX0 yX0_errorOfWeight wsX0_errorOfWeight) := goodIn_app (goodIn_of _ (by decide +kernel)) ggX7_weight_X0_errorOfWeight
set_option maxRecDepth 20000 in
theorem ggX7_weight_X2_record : GoodIn wsX7_weight wsX2_record := goodIn_r _ [12, 13, 14, 15, 16, 17, 18, 19, 20, 21, 6, 22, 23, 24, 25, 26, 27, 28, 29, 30, 31, 32, 33, 34, 35, 36, 37, 38, 39, 40, 41, 42, 43, 44, 45, 46, 47, 48, 59, 60, 61, 62, 63, 64, 65, 66, 67, 68, 69, 70, 71] (by decide +kernel) (by decide +kernel)
set_option maxRecDepth 20000 in
theorem gX7_weight_X2_record : GoodIn wsX7_weight (wsV RX7 51 RX2 yX2_record wsX2_record) := goodIn_app (goodIn_of _ (by decide +kernel)) ggX7_weight_X2_record
set_option maxRecDepth 20000 in
theorem ggX7_weight_X0_moveWeight : GoodIn wsX7_weight wsX0_moveWeight := goodIn_r _ [52, 30, 61, 62, 63, 64, 65, 66, 67] (by decide +kernel) (by decide +kernel)
set_option maxRecDepth 20000 in
theorem gX7_weight_X0_moveWeight : GoodIn wsX7_weight (wsV RX7 62 RX0 yX0_moveWeight wsX0_moveWeight) := goodIn_app (goodIn_of _ (by decide +kernel)) ggX7_weight_X0_moveWeight
theorem dX7_weight_0 : decode cX7_weight 0 = .ok (.aload_n 0, 1) := by decide +kernel
theorem dX7_weight_1 : decode cX7_weight 1 = .ok (.getfield 10, 3) := by decide +kernel
theorem dX7_weight_4 : decode cX7_weight 4 = .ok (.iload_n 1, 1) := by decide +kernel
theorem dX7_weight_5 : decode cX7_weight 5 = .ok (.invokevirtual 58, 3) := by decide +kernel
theorem dX7_weight_8 : decode cX7_weight 8 = .ok (.istore_n 2, 1) := by decide +kernel
theorem dX7_weight_9 : decode cX7_weight 9 = .ok (.iload_n 2, 1) := by decide +kernel
theorem dX7_weight_10 : decode cX7_weight 10 = .ok (.ifCond .eq 5, 3) := by decide +kernel
theorem dX7_weight_13 : decode cX7_weight 13 = .ok (.iload_n 2, 1) := by decide +kernel
theorem dX7_weight_14 : decode cX7_weight 14 = .ok (.ireturn, 1) := by decide +kernel
theorem dX7_weight_15 : decode cX7_weight 15 = .ok (.aload_n 0, 1) := by decide +kernel
theorem dX7_weight_16 : decode cX7_weight 16 = .ok (.getfield 19, 3) := by decide +kernel
theorem dX7_weight_19 : decode cX7_weight 19 = .ok (.aload_n 0, 1) := by decide +kernel
theorem dX7_weight_20 : decode cX7_weight 20 = .ok (.getfield 10, 3) := by decide +kernel
theorem dX7_weight_23 : decode cX7_weight 23 = .ok (.invokevirtual 51, 3) := by decide +kernel
theorem dX7_weight_26 : decode cX7_weight 26 = .ok (.aload_n 0, 1) := by decide +kernel
theorem dX7_weight_27 : decode cX7_weight 27 = .ok (.getfield 10, 3) := by decide +kernel
theorem dX7_weight_30 : decode cX7_weight 30 = .ok (.iload_n 1, 1) := by decide +kernel
theorem dX7_weight_31 : decode cX7_weight 31 = .ok (.invokevirtual 62, 3) := by decide +kernel
theorem dX7_weight_34 : decode cX7_weight 34 = .ok (.ireturn, 1) := by decide +kernel
set_option maxRecDepth 20000 in
theorem ggX7_pass_X0_errorOfHours : GoodIn wsX7_pass wsX0_errorOfHours := goodIn_r _ [7, 8, 9, 10, 11, 12, 13, 109, 110, 111, 112, 113, 114, 115] (by decide +kernel) (by decide +kernel)
set_option maxRecDepth 20000 in
theorem gX7_pass_X0_errorOfHours : GoodIn wsX7_pass (wsV RX7 65 RX0 yX0_errorOfHours wsX0_errorOfHours) := goodIn_app (goodIn_of _ (by decide +kernel)) ggX7_pass_X0_errorOfHours
set_option maxRecDepth 20000 in
theorem ggX7_pass_X2_record : GoodIn wsX7_pass wsX2_record := goodIn_r _ [18, 19, 20, 21, 22, 23, 24, 25, 26, 27, 6, 28, 29, 30, 31, 32, 33, 34, 35, 36, 8, 37, 38, 39, 40, 41, 42, 43, 44, 45, 46, 47, 48, 49, 50, 51, 52, 53, 116, 117, 109, 110, 111, 112, 113, 114, 115, 118, 119, 120, 121] (by decide +kernel) (by decide +kernel)
set_option maxRecDepth 20000 in
theorem gX7_pass_X2_record : GoodIn wsX7_pass (wsV RX7 51 RX2 yX2_record wsX2_record) := goodIn_app (goodIn_of _ (by decide +kernel)) ggX7_pass_X2_record
set_option maxRecDepth 20000 in
theorem ggX7_pass_X0_goHours : GoodIn wsX7_pass wsX0_goHours := goodIn_r _ [57, 38, 58, 59, 60, 6, 61, 34, 35, 62, 36, 8, 37, 63, 64, 65, 66, 67, 68, 69, 70, 71, 72, 73, 74, 29, 75, 76, 77, 42, 78, 45, 44, 79, 80, 81, 82, 83, 84, 85, 49, 86, 53, 87, 88, 89, 90, 51, 91, 92, 93, 94, 95, 96, 97, 98, 99, 100, 101, 102, 109, 110, 111, 112, 113, 114, 115, 118, 119, 120, 121] (by decide +kernel) (by decide +kernel)
set_option maxRecDepth 20000 in
theorem gX7_pass_X0_goHours : GoodIn wsX7_pass (wsV RX7 69 RX0 yX0_goHours wsX0_goHours) := goodIn_app (goodIn_of _ (by decide +kernel)) ggX7_pass_X0_goHours
theorem dX7_pass_0 : decode cX7_pass 0 = .ok (.aload_n 0, 1) := by decide +kernel
theorem dX7_pass_1 : decode cX7_pass 1 = .ok (.getfield 10, 3) := by decide +kernel
theorem dX7_pass_4 : decode cX7_pass 4 = .ok (.iload_n 1, 1) := by decide +kernel
theorem dX7_pass_5 : decode cX7_pass 5 = .ok (.iload_n 2, 1) := by decide +kernel
theorem dX7_pass_6 : decode cX7_pass 6 = .ok (.iload_n 3, 1) := by decide +kernel
theorem dX7_pass_7 : decode cX7_pass 7 = .ok (.iload 4, 2) := by decide +kernel
theorem dX7_pass_9 : decode cX7_pass 9 = .ok (.invokevirtual 65, 3) := by decide +kernel
theorem dX7_pass_12 : decode cX7_pass 12 = .ok (.istore 5, 2) := by decide +kernel
theorem dX7_pass_14 : decode cX7_pass 14 = .ok (.iload 5, 2) := by decide +kernel
theorem dX7_pass_16 : decode cX7_pass 16 = .ok (.ifCond .eq 6, 3) := by decide +kernel
theorem dX7_pass_19 : decode cX7_pass 19 = .ok (.iload 5, 2) := by decide +kernel
theorem dX7_pass_21 : decode cX7_pass 21 = .ok (.ireturn, 1) := by decide +kernel
theorem dX7_pass_22 : decode cX7_pass 22 = .ok (.aload_n 0, 1) := by decide +kernel
theorem dX7_pass_23 : decode cX7_pass 23 = .ok (.getfield 19, 3) := by decide +kernel
theorem dX7_pass_26 : decode cX7_pass 26 = .ok (.aload_n 0, 1) := by decide +kernel
theorem dX7_pass_27 : decode cX7_pass 27 = .ok (.getfield 10, 3) := by decide +kernel
theorem dX7_pass_30 : decode cX7_pass 30 = .ok (.invokevirtual 51, 3) := by decide +kernel
theorem dX7_pass_33 : decode cX7_pass 33 = .ok (.aload_n 0, 1) := by decide +kernel
theorem dX7_pass_34 : decode cX7_pass 34 = .ok (.getfield 10, 3) := by decide +kernel
theorem dX7_pass_37 : decode cX7_pass 37 = .ok (.iload_n 1, 1) := by decide +kernel
theorem dX7_pass_38 : decode cX7_pass 38 = .ok (.iload_n 2, 1) := by decide +kernel
theorem dX7_pass_39 : decode cX7_pass 39 = .ok (.iload_n 3, 1) := by decide +kernel
theorem dX7_pass_40 : decode cX7_pass 40 = .ok (.iload 4, 2) := by decide +kernel
theorem dX7_pass_42 : decode cX7_pass 42 = .ok (.invokevirtual 69, 3) := by decide +kernel
theorem dX7_pass_45 : decode cX7_pass 45 = .ok (.ireturn, 1) := by decide +kernel
set_option maxRecDepth 20000 in
theorem ggX7_zero_X2_record : GoodIn wsX7_zero wsX2_record := goodIn_r _ [9, 10, 11, 12, 13, 14, 15, 16, 17, 18, 19, 20, 21, 22, 23, 24, 25, 26, 27, 28, 29, 30, 31, 32, 33, 34, 35, 36, 37, 38, 39, 40, 41, 42, 43, 44, 45, 46, 66, 67, 57, 58, 59, 60, 61, 62, 63, 64, 65, 68, 69] (by decide +kernel) (by decide +kernel)
set_option maxRecDepth 20000 in
theorem gX7_zero_X2_record : GoodIn wsX7_zero (wsV RX7 51 RX2 yX2_record wsX2_record) := goodIn_app (goodIn_of _ (by decide +kernel)) ggX7_zero_X2_record
set_option maxRecDepth 20000 in
theorem ggX7_zero_X1_clear : GoodIn wsX7_zero wsX1_clear := goodIn_r _ [50, 37, 38, 64, 65] (by decide +kernel) (by decide +kernel)
set_option maxRecDepth 20000 in
theorem gX7_zero_X1_clear : GoodIn wsX7_zero (wsV RX7 79 RX1 yX1_clear wsX1_clear) := goodIn_app (goodIn_of _ (by decide +kernel)) ggX7_zero_X1_clear
theorem dX7_zero_0 : decode cX7_zero 0 = .ok (.aload_n 0, 1) := by decide +kernel
theorem dX7_zero_1 : decode cX7_zero 1 = .ok (.getfield 19, 3) := by decide +kernel
theorem dX7_zero_4 : decode cX7_zero 4 = .ok (.aload_n 0, 1) := by decide +kernel
theorem dX7_zero_5 : decode cX7_zero 5 = .ok (.getfield 10, 3) := by decide +kernel
theorem dX7_zero_8 : decode cX7_zero 8 = .ok (.invokevirtual 51, 3) := by decide +kernel
theorem dX7_zero_11 : decode cX7_zero 11 = .ok (.aload_n 0, 1) := by decide +kernel
theorem dX7_zero_12 : decode cX7_zero 12 = .ok (.getfield 10, 3) := by decide +kernel
theorem dX7_zero_15 : decode cX7_zero 15 = .ok (.getfield 72, 3) := by decide +kernel
theorem dX7_zero_18 : decode cX7_zero 18 = .ok (.getfield 75, 3) := by decide +kernel
theorem dX7_zero_21 : decode cX7_zero 21 = .ok (.istore_n 1, 1) := by decide +kernel
theorem dX7_zero_22 : decode cX7_zero 22 = .ok (.aload_n 0, 1) := by decide +kernel
theorem dX7_zero_23 : decode cX7_zero 23 = .ok (.getfield 10, 3) := by decide +kernel
theorem dX7_zero_26 : decode cX7_zero 26 = .ok (.getfield 72, 3) := by decide +kernel
theorem dX7_zero_29 : decode cX7_zero 29 = .ok (.invokevirtual 79, 3) := by decide +kernel
theorem dX7_zero_32 : decode cX7_zero 32 = .ok (.iload_n 1, 1) := by decide +kernel
theorem dX7_zero_33 : decode cX7_zero 33 = .ok (.ldc 82, 2) := by decide +kernel
theorem dX7_zero_35 : decode cX7_zero 35 = .ok (.iadd, 1) := by decide +kernel
theorem dX7_zero_36 : decode cX7_zero 36 = .ok (.ireturn, 1) := by decide +kernel
set_option maxRecDepth 20000 in
theorem ggX7_hour_X3_length : GoodIn wsX7_hour wsX3_length := goodIn_r _ [7, 8, 9, 10, 11, 12, 35, 36] (by decide +kernel) (by decide +kernel)
set_option maxRecDepth 20000 in
theorem gX7_hour_X3_length : GoodIn wsX7_hour (wsV RX7 87 RX3 yX3_length wsX3_length) := goodIn_app (goodIn_of _ (by decide +kernel)) ggX7_hour_X3_length
set_option maxRecDepth 20000 in
theorem ggX7_hour_X3_fact : GoodIn wsX7_hour wsX3_fact := goodIn_r _ [16, 17, 18, 19, 20, 6, 21, 8, 35, 36] (by decide +kernel) (by decide +kernel)
set_option maxRecDepth 20000 in
theorem gX7_hour_X3_fact : GoodIn wsX7_hour (wsV RX7 97 RX3 yX3_fact wsX3_fact) := goodIn_app (goodIn_of _ (by decide +kernel)) ggX7_hour_X3_fact
theorem dX7_hour_0 : decode cX7_hour 0 = .ok (.iload_n 1, 1) := by decide +kernel
theorem dX7_hour_1 : decode cX7_hour 1 = .ok (.ifCond .lt 17, 3) := by decide +kernel
theorem dX7_hour_4 : decode cX7_hour 4 = .ok (.iload_n 1, 1) := by decide +kernel
theorem dX7_hour_5 : decode cX7_hour 5 = .ok (.aload_n 0, 1) := by decide +kernel
theorem dX7_hour_6 : decode cX7_hour 6 = .ok (.getfield 10, 3) := by decide +kernel
theorem dX7_hour_9 : decode cX7_hour 9 = .ok (.getfield 83, 3) := by decide +kernel
theorem dX7_hour_12 : decode cX7_hour 12 = .ok (.invokevirtual 87, 3) := by decide +kernel
theorem dX7_hour_15 : decode cX7_hour 15 = .ok (.if_icmp .lt 5, 3) := by decide +kernel
theorem dX7_hour_18 : decode cX7_hour 18 = .ok (.iconst (-1), 1) := by decide +kernel
theorem dX7_hour_19 : decode cX7_hour 19 = .ok (.ireturn, 1) := by decide +kernel
theorem dX7_hour_20 : decode cX7_hour 20 = .ok (.iload_n 2, 1) := by decide +kernel
theorem dX7_hour_21 : decode cX7_hour 21 = .ok (.ifCond .lt 11, 3) := by decide +kernel
theorem dX7_hour_24 : decode cX7_hour 24 = .ok (.iload_n 2, 1) := by decide +kernel
theorem dX7_hour_25 : decode cX7_hour 25 = .ok (.getstatic 93, 3) := by decide +kernel
theorem dX7_hour_28 : decode cX7_hour 28 = .ok (.arraylength, 1) := by decide +kernel
theorem dX7_hour_29 : decode cX7_hour 29 = .ok (.if_icmp .lt 6, 3) := by decide +kernel
theorem dX7_hour_32 : decode cX7_hour 32 = .ok (.bipush (-2), 2) := by decide +kernel
theorem dX7_hour_34 : decode cX7_hour 34 = .ok (.ireturn, 1) := by decide +kernel
theorem dX7_hour_35 : decode cX7_hour 35 = .ok (.aload_n 0, 1) := by decide +kernel
theorem dX7_hour_36 : decode cX7_hour 36 = .ok (.getfield 10, 3) := by decide +kernel
theorem dX7_hour_39 : decode cX7_hour 39 = .ok (.getfield 83, 3) := by decide +kernel
theorem dX7_hour_42 : decode cX7_hour 42 = .ok (.iload_n 1, 1) := by decide +kernel
theorem dX7_hour_43 : decode cX7_hour 43 = .ok (.iload_n 2, 1) := by decide +kernel
theorem dX7_hour_44 : decode cX7_hour 44 = .ok (.invokevirtual 97, 3) := by decide +kernel
theorem dX7_hour_47 : decode cX7_hour 47 = .ok (.getstatic 93, 3) := by decide +kernel
theorem dX7_hour_50 : decode cX7_hour 50 = .ok (.iload_n 2, 1) := by decide +kernel
theorem dX7_hour_51 : decode cX7_hour 51 = .ok (.iaload, 1) := by decide +kernel
theorem dX7_hour_52 : decode cX7_hour 52 = .ok (.iadd, 1) := by decide +kernel
theorem dX7_hour_53 : decode cX7_hour 53 = .ok (.ireturn, 1) := by decide +kernel
set_option maxRecDepth 20000 in
theorem ggX7_count_X3_length : GoodIn wsX7_count wsX3_length := goodIn_r _ [11, 12, 13, 14, 15, 16, 50, 51] (by decide +kernel) (by decide +kernel)
set_option maxRecDepth 20000 in
theorem gX7_count_X3_length : GoodIn wsX7_count (wsV RX7 87 RX3 yX3_length wsX3_length) := goodIn_app (goodIn_of _ (by decide +kernel)) ggX7_count_X3_length
set_option maxRecDepth 20000 in
theorem ggX7_count_X0_setting : GoodIn wsX7_count wsX0_setting := goodIn_r _ [21, 22, 29, 30, 31, 32, 33, 34, 35] (by decide +kernel) (by decide +kernel)
set_option maxRecDepth 20000 in
theorem gX7_count_X0_setting : GoodIn wsX7_count (wsV RX7 115 RX0 yX0_setting wsX0_setting) := goodIn_app (goodIn_of _ (by decide +kernel)) ggX7_count_X0_setting
theorem dX7_count_0 : decode cX7_count 0 = .ok (.iload_n 1, 1) := by decide +kernel
theorem dX7_count_1 : decode cX7_count 1 = .ok (.tableswitch 210 0 12 #[67, 75, 89, 104, 112, 120, 131, 139, 152, 165, 178, 191, 202], 67) := by decide +kernel
theorem dX7_count_68 : decode cX7_count 68 = .ok (.aload_n 0, 1) := by decide +kernel
theorem dX7_count_69 : decode cX7_count 69 = .ok (.getfield 10, 3) := by decide +kernel
theorem dX7_count_72 : decode cX7_count 72 = .ok (.getfield 100, 3) := by decide +kernel
theorem dX7_count_75 : decode cX7_count 75 = .ok (.ireturn, 1) := by decide +kernel
theorem dX7_count_76 : decode cX7_count 76 = .ok (.aload_n 0, 1) := by decide +kernel
theorem dX7_count_77 : decode cX7_count 77 = .ok (.getfield 10, 3) := by decide +kernel
theorem dX7_count_80 : decode cX7_count 80 = .ok (.getfield 72, 3) := by decide +kernel
theorem dX7_count_83 : decode cX7_count 83 = .ok (.getfield 75, 3) := by decide +kernel
theorem dX7_count_86 : decode cX7_count 86 = .ok (.ldc 82, 2) := by decide +kernel
theorem dX7_count_88 : decode cX7_count 88 = .ok (.iadd, 1) := by decide +kernel
theorem dX7_count_89 : decode cX7_count 89 = .ok (.ireturn, 1) := by decide +kernel
theorem dX7_count_90 : decode cX7_count 90 = .ok (.aload_n 0, 1) := by decide +kernel
theorem dX7_count_91 : decode cX7_count 91 = .ok (.getfield 10, 3) := by decide +kernel
theorem dX7_count_94 : decode cX7_count 94 = .ok (.getfield 72, 3) := by decide +kernel
theorem dX7_count_97 : decode cX7_count 97 = .ok (.getfield 103, 3) := by decide +kernel
theorem dX7_count_100 : decode cX7_count 100 = .ok (.sipush 1000, 3) := by decide +kernel
theorem dX7_count_103 : decode cX7_count 103 = .ok (.iadd, 1) := by decide +kernel
theorem dX7_count_104 : decode cX7_count 104 = .ok (.ireturn, 1) := by decide +kernel
theorem dX7_count_105 : decode cX7_count 105 = .ok (.aload_n 0, 1) := by decide +kernel
theorem dX7_count_106 : decode cX7_count 106 = .ok (.getfield 10, 3) := by decide +kernel
theorem dX7_count_109 : decode cX7_count 109 = .ok (.getfield 106, 3) := by decide +kernel
theorem dX7_count_112 : decode cX7_count 112 = .ok (.ireturn, 1) := by decide +kernel
theorem dX7_count_113 : decode cX7_count 113 = .ok (.aload_n 0, 1) := by decide +kernel
theorem dX7_count_114 : decode cX7_count 114 = .ok (.getfield 10, 3) := by decide +kernel
theorem dX7_count_117 : decode cX7_count 117 = .ok (.getfield 109, 3) := by decide +kernel
theorem dX7_count_120 : decode cX7_count 120 = .ok (.ireturn, 1) := by decide +kernel
theorem dX7_count_121 : decode cX7_count 121 = .ok (.aload_n 0, 1) := by decide +kernel
theorem dX7_count_122 : decode cX7_count 122 = .ok (.getfield 10, 3) := by decide +kernel
theorem dX7_count_125 : decode cX7_count 125 = .ok (.getfield 83, 3) := by decide +kernel
theorem dX7_count_128 : decode cX7_count 128 = .ok (.invokevirtual 87, 3) := by decide +kernel
theorem dX7_count_131 : decode cX7_count 131 = .ok (.ireturn, 1) := by decide +kernel
theorem dX7_count_132 : decode cX7_count 132 = .ok (.aload_n 0, 1) := by decide +kernel
theorem dX7_count_133 : decode cX7_count 133 = .ok (.getfield 10, 3) := by decide +kernel
theorem dX7_count_136 : decode cX7_count 136 = .ok (.getfield 112, 3) := by decide +kernel
theorem dX7_count_139 : decode cX7_count 139 = .ok (.ireturn, 1) := by decide +kernel
theorem dX7_count_140 : decode cX7_count 140 = .ok (.aload_n 0, 1) := by decide +kernel
theorem dX7_count_141 : decode cX7_count 141 = .ok (.getfield 10, 3) := by decide +kernel
theorem dX7_count_144 : decode cX7_count 144 = .ok (.iconst 0, 1) := by decide +kernel
theorem dX7_count_145 : decode cX7_count 145 = .ok (.invokevirtual 115, 3) := by decide +kernel
theorem dX7_count_148 : decode cX7_count 148 = .ok (.sipush 1000, 3) := by decide +kernel
theorem dX7_count_151 : decode cX7_count 151 = .ok (.iadd, 1) := by decide +kernel
theorem dX7_count_152 : decode cX7_count 152 = .ok (.ireturn, 1) := by decide +kernel
theorem dX7_count_153 : decode cX7_count 153 = .ok (.aload_n 0, 1) := by decide +kernel
theorem dX7_count_154 : decode cX7_count 154 = .ok (.getfield 10, 3) := by decide +kernel
theorem dX7_count_157 : decode cX7_count 157 = .ok (.iconst 1, 1) := by decide +kernel
theorem dX7_count_158 : decode cX7_count 158 = .ok (.invokevirtual 115, 3) := by decide +kernel
theorem dX7_count_161 : decode cX7_count 161 = .ok (.sipush 1000, 3) := by decide +kernel
theorem dX7_count_164 : decode cX7_count 164 = .ok (.iadd, 1) := by decide +kernel
theorem dX7_count_165 : decode cX7_count 165 = .ok (.ireturn, 1) := by decide +kernel
theorem dX7_count_166 : decode cX7_count 166 = .ok (.aload_n 0, 1) := by decide +kernel
theorem dX7_count_167 : decode cX7_count 167 = .ok (.getfield 10, 3) := by decide +kernel
theorem dX7_count_170 : decode cX7_count 170 = .ok (.iconst 2, 1) := by decide +kernel
theorem dX7_count_171 : decode cX7_count 171 = .ok (.invokevirtual 115, 3) := by decide +kernel
theorem dX7_count_174 : decode cX7_count 174 = .ok (.sipush 1000, 3) := by decide +kernel
theorem dX7_count_177 : decode cX7_count 177 = .ok (.iadd, 1) := by decide +kernel
theorem dX7_count_178 : decode cX7_count 178 = .ok (.ireturn, 1) := by decide +kernel
theorem dX7_count_179 : decode cX7_count 179 = .ok (.aload_n 0, 1) := by decide +kernel
theorem dX7_count_180 : decode cX7_count 180 = .ok (.getfield 10, 3) := by decide +kernel
theorem dX7_count_183 : decode cX7_count 183 = .ok (.iconst 3, 1) := by decide +kernel
theorem dX7_count_184 : decode cX7_count 184 = .ok (.invokevirtual 115, 3) := by decide +kernel
theorem dX7_count_187 : decode cX7_count 187 = .ok (.sipush 1000, 3) := by decide +kernel
theorem dX7_count_190 : decode cX7_count 190 = .ok (.iadd, 1) := by decide +kernel
theorem dX7_count_191 : decode cX7_count 191 = .ok (.ireturn, 1) := by decide +kernel
theorem dX7_count_192 : decode cX7_count 192 = .ok (.aload_n 0, 1) := by decide +kernel
theorem dX7_count_193 : decode cX7_count 193 = .ok (.getfield 36, 3) := by decide +kernel
theorem dX7_count_196 : decode cX7_count 196 = .ok (.getfield 118, 3) := by decide +kernel
theorem dX7_count_199 : decode cX7_count 199 = .ok (.getfield 122, 3) := by decide +kernel
theorem dX7_count_202 : decode cX7_count 202 = .ok (.ireturn, 1) := by decide +kernel
theorem dX7_count_203 : decode cX7_count 203 = .ok (.aload_n 0, 1) := by decide +kernel
theorem dX7_count_204 : decode cX7_count 204 = .ok (.getfield 19, 3) := by decide +kernel
theorem dX7_count_207 : decode cX7_count 207 = .ok (.getfield 126, 3) := by decide +kernel
theorem dX7_count_210 : decode cX7_count 210 = .ok (.ireturn, 1) := by decide +kernel
theorem dX7_count_211 : decode cX7_count 211 = .ok (.bipush (-2), 2) := by decide +kernel
theorem dX7_count_213 : decode cX7_count 213 = .ok (.ireturn, 1) := by decide +kernel
set_option maxRecDepth 20000 in
theorem ggX7_meanRate_X3_length : GoodIn wsX7_meanRate wsX3_length := goodIn_r _ [6, 7, 8, 9, 10, 11, 48, 49] (by decide +kernel) (by decide +kernel)
set_option maxRecDepth 20000 in
theorem gX7_meanRate_X3_length : GoodIn wsX7_meanRate (wsV RX7 87 RX3 yX3_length wsX3_length) := goodIn_app (goodIn_of _ (by decide +kernel)) ggX7_meanRate_X3_length
set_option maxRecDepth 20000 in
theorem ggX7_meanRate_X3_sumOfRates : GoodIn wsX7_meanRate wsX3_sumOfRates := goodIn_r _ [15, 16, 3, 4, 5, 6, 7, 8, 9, 10, 11, 17, 18, 19, 20, 21, 22, 23, 24, 25, 48, 49] (by decide +kernel) (by decide +kernel)
set_option maxRecDepth 20000 in
theorem gX7_meanRate_X3_sumOfRates : GoodIn wsX7_meanRate (wsV RX7 129 RX3 yX3_sumOfRates wsX3_sumOfRates) := goodIn_app (goodIn_of _ (by decide +kernel)) ggX7_meanRate_X3_sumOfRates
set_option maxRecDepth 20000 in
theorem ggX7_meanRate_X7_bitsOf : GoodIn wsX7_meanRate wsX7_bitsOf := goodIn_r _ [29, 30, 31, 32, 33, 34] (by decide +kernel) (by decide +kernel)
set_option maxRecDepth 20000 in
theorem gX7_meanRate_X7_bitsOf : GoodIn wsX7_meanRate (va_wsS RX7 132 yX7_bitsOf wsX7_bitsOf) := goodIn_app (goodIn_of _ (by decide +kernel)) ggX7_meanRate_X7_bitsOf
theorem dX7_meanRate_0 : decode cX7_meanRate 0 = .ok (.aload_n 0, 1) := by decide +kernel
theorem dX7_meanRate_1 : decode cX7_meanRate 1 = .ok (.getfield 10, 3) := by decide +kernel
theorem dX7_meanRate_4 : decode cX7_meanRate 4 = .ok (.getfield 83, 3) := by decide +kernel
theorem dX7_meanRate_7 : decode cX7_meanRate 7 = .ok (.invokevirtual 87, 3) := by decide +kernel
theorem dX7_meanRate_10 : decode cX7_meanRate 10 = .ok (.istore_n 1, 1) := by decide +kernel
theorem dX7_meanRate_11 : decode cX7_meanRate 11 = .ok (.iload_n 1, 1) := by decide +kernel
theorem dX7_meanRate_12 : decode cX7_meanRate 12 = .ok (.ifCond .ne 5, 3) := by decide +kernel
theorem dX7_meanRate_15 : decode cX7_meanRate 15 = .ok (.lconst 0, 1) := by decide +kernel
theorem dX7_meanRate_16 : decode cX7_meanRate 16 = .ok (.lreturn, 1) := by decide +kernel
theorem dX7_meanRate_17 : decode cX7_meanRate 17 = .ok (.aload_n 0, 1) := by decide +kernel
theorem dX7_meanRate_18 : decode cX7_meanRate 18 = .ok (.getfield 10, 3) := by decide +kernel
theorem dX7_meanRate_21 : decode cX7_meanRate 21 = .ok (.getfield 83, 3) := by decide +kernel
theorem dX7_meanRate_24 : decode cX7_meanRate 24 = .ok (.invokevirtual 129, 3) := by decide +kernel
theorem dX7_meanRate_27 : decode cX7_meanRate 27 = .ok (.i2d, 1) := by decide +kernel
theorem dX7_meanRate_28 : decode cX7_meanRate 28 = .ok (.iload_n 1, 1) := by decide +kernel
theorem dX7_meanRate_29 : decode cX7_meanRate 29 = .ok (.i2d, 1) := by decide +kernel
theorem dX7_meanRate_30 : decode cX7_meanRate 30 = .ok (.ddiv, 1) := by decide +kernel
theorem dX7_meanRate_31 : decode cX7_meanRate 31 = .ok (.invokestatic 132, 3) := by decide +kernel
theorem dX7_meanRate_34 : decode cX7_meanRate 34 = .ok (.lreturn, 1) := by decide +kernel
set_option maxRecDepth 20000 in
theorem ggX7_ofLog_X3_length : GoodIn wsX7_ofLog wsX3_length := goodIn_r _ [7, 8, 9, 10, 11, 12, 55, 56] (by decide +kernel) (by decide +kernel)
set_option maxRecDepth 20000 in
theorem gX7_ofLog_X3_length : GoodIn wsX7_ofLog (wsV RX7 87 RX3 yX3_length wsX3_length) := goodIn_app (goodIn_of _ (by decide +kernel)) ggX7_ofLog_X3_length
set_option maxRecDepth 20000 in
theorem ggX7_ofLog_X3_greatestRate : GoodIn wsX7_ofLog wsX3_greatestRate := goodIn_r _ [16, 17, 18, 11, 19, 20, 21, 22, 6, 23, 24, 25, 26, 27, 28, 8, 29, 4, 5, 7, 9, 10, 12, 55, 56] (by decide +kernel) (by decide +kernel)
set_option maxRecDepth 20000 in
theorem gX7_ofLog_X3_greatestRate : GoodIn wsX7_ofLog (wsV RX7 136 RX3 yX3_greatestRate wsX3_greatestRate) := goodIn_app (goodIn_of _ (by decide +kernel)) ggX7_ofLog_X3_greatestRate
set_option maxRecDepth 20000 in
theorem ggX7_ofLog_X3_leastRate : GoodIn wsX7_ofLog wsX3_leastRate := goodIn_r _ [33, 9, 10, 11, 12, 20, 21, 22, 6, 23, 24, 25, 26, 27, 28, 8, 29, 4, 5, 7, 55, 56] (by decide +kernel) (by decide +kernel)
set_option maxRecDepth 20000 in
theorem gX7_ofLog_X3_leastRate : GoodIn wsX7_ofLog (wsV RX7 140 RX3 yX3_leastRate wsX3_leastRate) := goodIn_app (goodIn_of _ (by decide +kernel)) ggX7_ofLog_X3_leastRate
set_option maxRecDepth 20000 in
theorem ggX7_ofLog_X3_countAboveZero : GoodIn wsX7_ofLog wsX3_countAboveZero := goodIn_r _ [37, 29, 4, 5, 6, 7, 8, 9, 10, 11, 12, 20, 21, 22, 23, 24, 25, 26, 27, 28, 55, 56] (by decide +kernel) (by decide +kernel)
set_option maxRecDepth 20000 in
theorem gX7_ofLog_X3_countAboveZero : GoodIn wsX7_ofLog (wsV RX7 143 RX3 yX3_countAboveZero wsX3_countAboveZero) := goodIn_app (goodIn_of _ (by decide +kernel)) ggX7_ofLog_X3_countAboveZero
set_option maxRecDepth 20000 in
theorem ggX7_ofLog_X3_countOtherTrays : GoodIn wsX7_ofLog wsX3_countOtherTrays := goodIn_r _ [41, 29, 4, 5, 6, 7, 8, 9, 10, 11, 12, 20, 21, 22, 23, 24, 25, 26, 27, 28, 55, 56] (by decide +kernel) (by decide +kernel)
set_option maxRecDepth 20000 in
theorem gX7_ofLog_X3_countOtherTrays : GoodIn wsX7_ofLog (wsV RX7 146 RX3 yX3_countOtherTrays wsX3_countOtherTrays) := goodIn_app (goodIn_of _ (by decide +kernel)) ggX7_ofLog_X3_countOtherTrays
theorem dX7_ofLog_0 : decode cX7_ofLog 0 = .ok (.iload_n 1, 1) := by decide +kernel
theorem dX7_ofLog_1 : decode cX7_ofLog 1 = .ok (.ifCond .lt 8, 3) := by decide +kernel
theorem dX7_ofLog_4 : decode cX7_ofLog 4 = .ok (.iload_n 1, 1) := by decide +kernel
theorem dX7_ofLog_5 : decode cX7_ofLog 5 = .ok (.iconst 4, 1) := by decide +kernel
theorem dX7_ofLog_6 : decode cX7_ofLog 6 = .ok (.if_icmp .le 6, 3) := by decide +kernel
theorem dX7_ofLog_9 : decode cX7_ofLog 9 = .ok (.bipush (-2), 2) := by decide +kernel
theorem dX7_ofLog_11 : decode cX7_ofLog 11 = .ok (.ireturn, 1) := by decide +kernel
theorem dX7_ofLog_12 : decode cX7_ofLog 12 = .ok (.aload_n 0, 1) := by decide +kernel
theorem dX7_ofLog_13 : decode cX7_ofLog 13 = .ok (.getfield 10, 3) := by decide +kernel
theorem dX7_ofLog_16 : decode cX7_ofLog 16 = .ok (.getfield 83, 3) := by decide +kernel
theorem dX7_ofLog_19 : decode cX7_ofLog 19 = .ok (.invokevirtual 87, 3) := by decide +kernel
theorem dX7_ofLog_22 : decode cX7_ofLog 22 = .ok (.ifCond .ne 6, 3) := by decide +kernel
theorem dX7_ofLog_25 : decode cX7_ofLog 25 = .ok (.bipush (-6), 2) := by decide +kernel
theorem dX7_ofLog_27 : decode cX7_ofLog 27 = .ok (.ireturn, 1) := by decide +kernel
theorem dX7_ofLog_28 : decode cX7_ofLog 28 = .ok (.iload_n 1, 1) := by decide +kernel
theorem dX7_ofLog_29 : decode cX7_ofLog 29 = .ok (.tableswitch 83 0 3 #[31, 45, 59, 71], 31) := by decide +kernel
theorem dX7_ofLog_60 : decode cX7_ofLog 60 = .ok (.aload_n 0, 1) := by decide +kernel
theorem dX7_ofLog_61 : decode cX7_ofLog 61 = .ok (.getfield 10, 3) := by decide +kernel
theorem dX7_ofLog_64 : decode cX7_ofLog 64 = .ok (.getfield 83, 3) := by decide +kernel
theorem dX7_ofLog_67 : decode cX7_ofLog 67 = .ok (.invokevirtual 136, 3) := by decide +kernel
theorem dX7_ofLog_70 : decode cX7_ofLog 70 = .ok (.ldc 139, 2) := by decide +kernel
theorem dX7_ofLog_72 : decode cX7_ofLog 72 = .ok (.iadd, 1) := by decide +kernel
theorem dX7_ofLog_73 : decode cX7_ofLog 73 = .ok (.ireturn, 1) := by decide +kernel
theorem dX7_ofLog_74 : decode cX7_ofLog 74 = .ok (.aload_n 0, 1) := by decide +kernel
theorem dX7_ofLog_75 : decode cX7_ofLog 75 = .ok (.getfield 10, 3) := by decide +kernel
theorem dX7_ofLog_78 : decode cX7_ofLog 78 = .ok (.getfield 83, 3) := by decide +kernel
theorem dX7_ofLog_81 : decode cX7_ofLog 81 = .ok (.invokevirtual 140, 3) := by decide +kernel
theorem dX7_ofLog_84 : decode cX7_ofLog 84 = .ok (.ldc 139, 2) := by decide +kernel
theorem dX7_ofLog_86 : decode cX7_ofLog 86 = .ok (.iadd, 1) := by decide +kernel
theorem dX7_ofLog_87 : decode cX7_ofLog 87 = .ok (.ireturn, 1) := by decide +kernel
theorem dX7_ofLog_88 : decode cX7_ofLog 88 = .ok (.aload_n 0, 1) := by decide +kernel
theorem dX7_ofLog_89 : decode cX7_ofLog 89 = .ok (.getfield 10, 3) := by decide +kernel
theorem dX7_ofLog_92 : decode cX7_ofLog 92 = .ok (.getfield 83, 3) := by decide +kernel
theorem dX7_ofLog_95 : decode cX7_ofLog 95 = .ok (.iconst 3, 1) := by decide +kernel
theorem dX7_ofLog_96 : decode cX7_ofLog 96 = .ok (.invokevirtual 143, 3) := by decide +kernel
theorem dX7_ofLog_99 : decode cX7_ofLog 99 = .ok (.ireturn, 1) := by decide +kernel
theorem dX7_ofLog_100 : decode cX7_ofLog 100 = .ok (.aload_n 0, 1) := by decide +kernel
theorem dX7_ofLog_101 : decode cX7_ofLog 101 = .ok (.getfield 10, 3) := by decide +kernel
theorem dX7_ofLog_104 : decode cX7_ofLog 104 = .ok (.getfield 83, 3) := by decide +kernel
theorem dX7_ofLog_107 : decode cX7_ofLog 107 = .ok (.iconst 5, 1) := by decide +kernel
theorem dX7_ofLog_108 : decode cX7_ofLog 108 = .ok (.invokevirtual 143, 3) := by decide +kernel
theorem dX7_ofLog_111 : decode cX7_ofLog 111 = .ok (.ireturn, 1) := by decide +kernel
theorem dX7_ofLog_112 : decode cX7_ofLog 112 = .ok (.aload_n 0, 1) := by decide +kernel
theorem dX7_ofLog_113 : decode cX7_ofLog 113 = .ok (.getfield 10, 3) := by decide +kernel
theorem dX7_ofLog_116 : decode cX7_ofLog 116 = .ok (.getfield 83, 3) := by decide +kernel
theorem dX7_ofLog_119 : decode cX7_ofLog 119 = .ok (.invokevirtual 146, 3) := by decide +kernel
theorem dX7_ofLog_122 : decode cX7_ofLog 122 = .ok (.ireturn, 1) := by decide +kernel
set_option maxRecDepth 20000 in
theorem ggX7_rate_X7_isHeat : GoodIn wsX7_rate wsX7_isHeat := goodIn_r _ [6] (by decide +kernel) (by decide +kernel)
set_option maxRecDepth 20000 in
theorem gX7_rate_X7_isHeat : GoodIn wsX7_rate (va_wsS RX7 149 yX7_isHeat wsX7_isHeat) := goodIn_app (goodIn_of _ (by decide +kernel)) ggX7_rate_X7_isHeat
set_option maxRecDepth 20000 in
theorem ggX7_rate_X7_isAir : GoodIn wsX7_rate wsX7_isAir := goodIn_r _ [9] (by decide +kernel) (by decide +kernel)
set_option maxRecDepth 20000 in
theorem gX7_rate_X7_isAir : GoodIn wsX7_rate (va_wsS RX7 153 yX7_isAir wsX7_isAir) := goodIn_app (goodIn_of _ (by decide +kernel)) ggX7_rate_X7_isAir
set_option maxRecDepth 20000 in
theorem ggX7_rate_X0_rateIn : GoodIn wsX7_rate wsX0_rateIn := goodIn_r _ [14, 15, 16, 17, 18, 13, 19, 20, 21, 22, 23, 24, 31, 32, 33, 34, 35, 36, 37] (by decide +kernel) (by decide +kernel)
set_option maxRecDepth 20000 in
theorem gX7_rate_X0_rateIn : GoodIn wsX7_rate (wsV RX7 156 RX0 yX0_rateIn wsX0_rateIn) := goodIn_app (goodIn_of _ (by decide +kernel)) ggX7_rate_X0_rateIn
theorem dX7_rate_0 : decode cX7_rate 0 = .ok (.iload_n 1, 1) := by decide +kernel
theorem dX7_rate_1 : decode cX7_rate 1 = .ok (.invokestatic 149, 3) := by decide +kernel
theorem dX7_rate_4 : decode cX7_rate 4 = .ok (.ifCond .eq 10, 3) := by decide +kernel
theorem dX7_rate_7 : decode cX7_rate 7 = .ok (.iload_n 2, 1) := by decide +kernel
theorem dX7_rate_8 : decode cX7_rate 8 = .ok (.invokestatic 153, 3) := by decide +kernel
theorem dX7_rate_11 : decode cX7_rate 11 = .ok (.ifCond .ne 6, 3) := by decide +kernel
theorem dX7_rate_14 : decode cX7_rate 14 = .ok (.bipush (-2), 2) := by decide +kernel
theorem dX7_rate_16 : decode cX7_rate 16 = .ok (.ireturn, 1) := by decide +kernel
theorem dX7_rate_17 : decode cX7_rate 17 = .ok (.aload_n 0, 1) := by decide +kernel
theorem dX7_rate_18 : decode cX7_rate 18 = .ok (.getfield 10, 3) := by decide +kernel
theorem dX7_rate_21 : decode cX7_rate 21 = .ok (.iload_n 1, 1) := by decide +kernel
theorem dX7_rate_22 : decode cX7_rate 22 = .ok (.iload_n 2, 1) := by decide +kernel
theorem dX7_rate_23 : decode cX7_rate 23 = .ok (.invokevirtual 156, 3) := by decide +kernel
theorem dX7_rate_26 : decode cX7_rate 26 = .ok (.ldc 139, 2) := by decide +kernel
theorem dX7_rate_28 : decode cX7_rate 28 = .ok (.iadd, 1) := by decide +kernel
theorem dX7_rate_29 : decode cX7_rate 29 = .ok (.ireturn, 1) := by decide +kernel
set_option maxRecDepth 20000 in
theorem ggX7_bestWeights_X7_isHeat : GoodIn wsX7_bestWeights wsX7_isHeat := goodIn_r _ [10] (by decide +kernel) (by decide +kernel)
set_option maxRecDepth 20000 in
theorem gX7_bestWeights_X7_isHeat : GoodIn wsX7_bestWeights (va_wsS RX7 149 yX7_isHeat wsX7_isHeat) := goodIn_app (goodIn_of _ (by decide +kernel)) ggX7_bestWeights_X7_isHeat
set_option maxRecDepth 20000 in
theorem ggX7_bestWeights_X7_isAir : GoodIn wsX7_bestWeights wsX7_isAir := goodIn_r _ [13] (by decide +kernel) (by decide +kernel)
set_option maxRecDepth 20000 in
theorem gX7_bestWeights_X7_isAir : GoodIn wsX7_bestWeights (va_wsS RX7 153 yX7_isAir wsX7_isAir) := goodIn_app (goodIn_of _ (by decide +kernel)) ggX7_bestWeights_X7_isAir
set_option maxRecDepth 20000 in
theorem ggX7_bestWeights_X0_bareRateIn : GoodIn wsX7_bestWeights wsX0_bareRateIn := goodIn_r _ [18, 19, 20, 21, 17, 22, 23, 30, 31, 32, 33, 34, 35, 36] (by decide +kernel) (by decide +kernel)
set_option maxRecDepth 20000 in
theorem gX7_bestWeights_X0_bareRateIn : GoodIn wsX7_bestWeights (wsV RX7 159 RX0 yX0_bareRateIn wsX0_bareRateIn) := goodIn_app (goodIn_of _ (by decide +kernel)) ggX7_bestWeights_X0_bareRateIn
theorem dX7_bestWeights_0 : decode cX7_bestWeights 0 = .ok (.iload_n 1, 1) := by decide +kernel
theorem dX7_bestWeights_1 : decode cX7_bestWeights 1 = .ok (.invokestatic 149, 3) := by decide +kernel
theorem dX7_bestWeights_4 : decode cX7_bestWeights 4 = .ok (.ifCond .eq 19, 3) := by decide +kernel
theorem dX7_bestWeights_7 : decode cX7_bestWeights 7 = .ok (.iload_n 2, 1) := by decide +kernel
theorem dX7_bestWeights_8 : decode cX7_bestWeights 8 = .ok (.invokestatic 153, 3) := by decide +kernel
theorem dX7_bestWeights_11 : decode cX7_bestWeights 11 = .ok (.ifCond .eq 12, 3) := by decide +kernel
theorem dX7_bestWeights_14 : decode cX7_bestWeights 14 = .ok (.iload_n 3, 1) := by decide +kernel
theorem dX7_bestWeights_15 : decode cX7_bestWeights 15 = .ok (.ifCond .lt 8, 3) := by decide +kernel
theorem dX7_bestWeights_18 : decode cX7_bestWeights 18 = .ok (.iload_n 3, 1) := by decide +kernel
theorem dX7_bestWeights_19 : decode cX7_bestWeights 19 = .ok (.iconst 1, 1) := by decide +kernel
theorem dX7_bestWeights_20 : decode cX7_bestWeights 20 = .ok (.if_icmp .le 6, 3) := by decide +kernel
theorem dX7_bestWeights_23 : decode cX7_bestWeights 23 = .ok (.bipush (-2), 2) := by decide +kernel
theorem dX7_bestWeights_25 : decode cX7_bestWeights 25 = .ok (.ireturn, 1) := by decide +kernel
theorem dX7_bestWeights_26 : decode cX7_bestWeights 26 = .ok (.aload_n 0, 1) := by decide +kernel
theorem dX7_bestWeights_27 : decode cX7_bestWeights 27 = .ok (.getfield 10, 3) := by decide +kernel
theorem dX7_bestWeights_30 : decode cX7_bestWeights 30 = .ok (.iload_n 1, 1) := by decide +kernel
theorem dX7_bestWeights_31 : decode cX7_bestWeights 31 = .ok (.iload_n 2, 1) := by decide +kernel
theorem dX7_bestWeights_32 : decode cX7_bestWeights 32 = .ok (.invokevirtual 159, 3) := by decide +kernel
theorem dX7_bestWeights_35 : decode cX7_bestWeights 35 = .ok (.istore 4, 2) := by decide +kernel
theorem dX7_bestWeights_37 : decode cX7_bestWeights 37 = .ok (.iconst 0, 1) := by decide +kernel
theorem dX7_bestWeights_38 : decode cX7_bestWeights 38 = .ok (.istore 5, 2) := by decide +kernel
theorem dX7_bestWeights_40 : decode cX7_bestWeights 40 = .ok (.iconst 1, 1) := by decide +kernel
theorem dX7_bestWeights_41 : decode cX7_bestWeights 41 = .ok (.istore 6, 2) := by decide +kernel
theorem dX7_bestWeights_43 : decode cX7_bestWeights 43 = .ok (.iload 6, 2) := by decide +kernel
theorem dX7_bestWeights_45 : decode cX7_bestWeights 45 = .ok (.sipush 255, 3) := by decide +kernel
theorem dX7_bestWeights_48 : decode cX7_bestWeights 48 = .ok (.if_icmp .gt 32, 3) := by decide +kernel
theorem dX7_bestWeights_51 : decode cX7_bestWeights 51 = .ok (.iload 4, 2) := by decide +kernel
theorem dX7_bestWeights_53 : decode cX7_bestWeights 53 = .ok (.iload 6, 2) := by decide +kernel
theorem dX7_bestWeights_55 : decode cX7_bestWeights 55 = .ok (.iadd, 1) := by decide +kernel
theorem dX7_bestWeights_56 : decode cX7_bestWeights 56 = .ok (.invokestatic 162, 3) := by decide +kernel
theorem dX7_bestWeights_59 : decode cX7_bestWeights 59 = .ok (.iload 4, 2) := by decide +kernel
theorem dX7_bestWeights_61 : decode cX7_bestWeights 61 = .ok (.iload 5, 2) := by decide +kernel
theorem dX7_bestWeights_63 : decode cX7_bestWeights 63 = .ok (.iadd, 1) := by decide +kernel
theorem dX7_bestWeights_64 : decode cX7_bestWeights 64 = .ok (.invokestatic 162, 3) := by decide +kernel
theorem dX7_bestWeights_67 : decode cX7_bestWeights 67 = .ok (.if_icmp .ge 7, 3) := by decide +kernel
theorem dX7_bestWeights_70 : decode cX7_bestWeights 70 = .ok (.iload 6, 2) := by decide +kernel
theorem dX7_bestWeights_72 : decode cX7_bestWeights 72 = .ok (.istore 5, 2) := by decide +kernel
theorem dX7_bestWeights_74 : decode cX7_bestWeights 74 = .ok (.iinc 6 1, 3) := by decide +kernel
theorem dX7_bestWeights_77 : decode cX7_bestWeights 77 = .ok (.goto (-34), 3) := by decide +kernel
theorem dX7_bestWeights_80 : decode cX7_bestWeights 80 = .ok (.iload_n 3, 1) := by decide +kernel
theorem dX7_bestWeights_81 : decode cX7_bestWeights 81 = .ok (.ifCond .ne 8, 3) := by decide +kernel
theorem dX7_bestWeights_84 : decode cX7_bestWeights 84 = .ok (.iload 5, 2) := by decide +kernel
theorem dX7_bestWeights_86 : decode cX7_bestWeights 86 = .ok (.goto 11, 3) := by decide +kernel
theorem dX7_bestWeights_89 : decode cX7_bestWeights 89 = .ok (.iload 4, 2) := by decide +kernel
theorem dX7_bestWeights_91 : decode cX7_bestWeights 91 = .ok (.iload 5, 2) := by decide +kernel
theorem dX7_bestWeights_93 : decode cX7_bestWeights 93 = .ok (.iadd, 1) := by decide +kernel
theorem dX7_bestWeights_94 : decode cX7_bestWeights 94 = .ok (.ldc 139, 2) := by decide +kernel
theorem dX7_bestWeights_96 : decode cX7_bestWeights 96 = .ok (.iadd, 1) := by decide +kernel
theorem dX7_bestWeights_97 : decode cX7_bestWeights 97 = .ok (.ireturn, 1) := by decide +kernel
set_option maxRecDepth 20000 in
theorem ggX7_offIn_X7_isHeat : GoodIn wsX7_offIn wsX7_isHeat := goodIn_r _ [6] (by decide +kernel) (by decide +kernel)
set_option maxRecDepth 20000 in
theorem gX7_offIn_X7_isHeat : GoodIn wsX7_offIn (va_wsS RX7 149 yX7_isHeat wsX7_isHeat) := goodIn_app (goodIn_of _ (by decide +kernel)) ggX7_offIn_X7_isHeat
set_option maxRecDepth 20000 in
theorem ggX7_offIn_X7_isAir : GoodIn wsX7_offIn wsX7_isAir := goodIn_r _ [9] (by decide +kernel) (by decide +kernel)
set_option maxRecDepth 20000 in
theorem gX7_offIn_X7_isAir : GoodIn wsX7_offIn (va_wsS RX7 153 yX7_isAir wsX7_isAir) := goodIn_app (goodIn_of _ (by decide +kernel)) ggX7_offIn_X7_isAir
set_option maxRecDepth 20000 in
theorem ggX7_offIn_X0_rateIn : GoodIn wsX7_offIn wsX0_rateIn := goodIn_r _ [14, 15, 16, 17, 18, 13, 19, 20, 21, 22, 23, 24, 47, 48, 49, 50, 51, 52, 53] (by decide +kernel) (by decide +kernel)
set_option maxRecDepth 20000 in
theorem gX7_offIn_X0_rateIn : GoodIn wsX7_offIn (wsV RX7 156 RX0 yX0_rateIn wsX0_rateIn) := goodIn_app (goodIn_of _ (by decide +kernel)) ggX7_offIn_X0_rateIn
set_option maxRecDepth 20000 in
theorem ggX7_offIn_X0_setting : GoodIn wsX7_offIn wsX0_setting := goodIn_r _ [23, 24, 47, 48, 49, 50, 51, 52, 53] (by decide +kernel) (by decide +kernel)
set_option maxRecDepth 20000 in
theorem gX7_offIn_X0_setting : GoodIn wsX7_offIn (wsV RX7 115 RX0 yX0_setting wsX0_setting) := goodIn_app (goodIn_of _ (by decide +kernel)) ggX7_offIn_X0_setting
set_option maxRecDepth 20000 in
theorem ggX7_offIn_X1_become : GoodIn wsX7_offIn wsX1_become := goodIn_r _ [30, 31, 32, 54, 55] (by decide +kernel) (by decide +kernel)
set_option maxRecDepth 20000 in
theorem gX7_offIn_X1_become : GoodIn wsX7_offIn (wsV RX7 167 RX1 yX1_become wsX1_become) := goodIn_app (goodIn_of _ (by decide +kernel)) ggX7_offIn_X1_become
set_option maxRecDepth 20000 in
theorem ggX7_offIn_X1_isMoreThan : GoodIn wsX7_offIn wsX1_isMoreThan := goodIn_r _ [36, 31, 54, 55] (by decide +kernel) (by decide +kernel)
set_option maxRecDepth 20000 in
theorem gX7_offIn_X1_isMoreThan : GoodIn wsX7_offIn (wsV RX7 171 RX1 yX1_isMoreThan wsX1_isMoreThan) := goodIn_app (goodIn_of _ (by decide +kernel)) ggX7_offIn_X1_isMoreThan
set_option maxRecDepth 20000 in
theorem ggX7_offIn_X1_addHour : GoodIn wsX7_offIn wsX1_addHour := goodIn_r _ [40, 32, 31, 54, 55] (by decide +kernel) (by decide +kernel)
set_option maxRecDepth 20000 in
theorem gX7_offIn_X1_addHour : GoodIn wsX7_offIn (wsV RX7 174 RX1 yX1_addHour wsX1_addHour) := goodIn_app (goodIn_of _ (by decide +kernel)) ggX7_offIn_X1_addHour
theorem dX7_offIn_0 : decode cX7_offIn 0 = .ok (.iload_n 1, 1) := by decide +kernel
theorem dX7_offIn_1 : decode cX7_offIn 1 = .ok (.invokestatic 149, 3) := by decide +kernel
theorem dX7_offIn_4 : decode cX7_offIn 4 = .ok (.ifCond .eq 10, 3) := by decide +kernel
theorem dX7_offIn_7 : decode cX7_offIn 7 = .ok (.iload_n 2, 1) := by decide +kernel
theorem dX7_offIn_8 : decode cX7_offIn 8 = .ok (.invokestatic 153, 3) := by decide +kernel
theorem dX7_offIn_11 : decode cX7_offIn 11 = .ok (.ifCond .ne 6, 3) := by decide +kernel
theorem dX7_offIn_14 : decode cX7_offIn 14 = .ok (.bipush (-2), 2) := by decide +kernel
theorem dX7_offIn_16 : decode cX7_offIn 16 = .ok (.ireturn, 1) := by decide +kernel
theorem dX7_offIn_17 : decode cX7_offIn 17 = .ok (.aload_n 0, 1) := by decide +kernel
theorem dX7_offIn_18 : decode cX7_offIn 18 = .ok (.getfield 10, 3) := by decide +kernel
theorem dX7_offIn_21 : decode cX7_offIn 21 = .ok (.iload_n 1, 1) := by decide +kernel
theorem dX7_offIn_22 : decode cX7_offIn 22 = .ok (.iload_n 2, 1) := by decide +kernel
theorem dX7_offIn_23 : decode cX7_offIn 23 = .ok (.invokevirtual 156, 3) := by decide +kernel
theorem dX7_offIn_26 : decode cX7_offIn 26 = .ok (.istore_n 3, 1) := by decide +kernel
theorem dX7_offIn_27 : decode cX7_offIn 27 = .ok (.aload_n 0, 1) := by decide +kernel
theorem dX7_offIn_28 : decode cX7_offIn 28 = .ok (.getfield 10, 3) := by decide +kernel
theorem dX7_offIn_31 : decode cX7_offIn 31 = .ok (.iconst 3, 1) := by decide +kernel
theorem dX7_offIn_32 : decode cX7_offIn 32 = .ok (.invokevirtual 115, 3) := by decide +kernel
theorem dX7_offIn_35 : decode cX7_offIn 35 = .ok (.istore 4, 2) := by decide +kernel
theorem dX7_offIn_37 : decode cX7_offIn 37 = .ok (.aload_n 0, 1) := by decide +kernel
theorem dX7_offIn_38 : decode cX7_offIn 38 = .ok (.getfield 43, 3) := by decide +kernel
theorem dX7_offIn_41 : decode cX7_offIn 41 = .ok (.aload_n 0, 1) := by decide +kernel
theorem dX7_offIn_42 : decode cX7_offIn 42 = .ok (.getfield 10, 3) := by decide +kernel
theorem dX7_offIn_45 : decode cX7_offIn 45 = .ok (.getfield 72, 3) := by decide +kernel
theorem dX7_offIn_48 : decode cX7_offIn 48 = .ok (.invokevirtual 167, 3) := by decide +kernel
theorem dX7_offIn_51 : decode cX7_offIn 51 = .ok (.iconst 0, 1) := by decide +kernel
theorem dX7_offIn_52 : decode cX7_offIn 52 = .ok (.istore 5, 2) := by decide +kernel
theorem dX7_offIn_54 : decode cX7_offIn 54 = .ok (.iload 5, 2) := by decide +kernel
theorem dX7_offIn_56 : decode cX7_offIn 56 = .ok (.sipush 5000, 3) := by decide +kernel
theorem dX7_offIn_59 : decode cX7_offIn 59 = .ok (.if_icmp .gt 32, 3) := by decide +kernel
theorem dX7_offIn_62 : decode cX7_offIn 62 = .ok (.aload_n 0, 1) := by decide +kernel
theorem dX7_offIn_63 : decode cX7_offIn 63 = .ok (.getfield 43, 3) := by decide +kernel
theorem dX7_offIn_66 : decode cX7_offIn 66 = .ok (.iload 4, 2) := by decide +kernel
theorem dX7_offIn_68 : decode cX7_offIn 68 = .ok (.invokevirtual 171, 3) := by decide +kernel
theorem dX7_offIn_71 : decode cX7_offIn 71 = .ok (.ifCond .eq 6, 3) := by decide +kernel
theorem dX7_offIn_74 : decode cX7_offIn 74 = .ok (.iload 5, 2) := by decide +kernel
theorem dX7_offIn_76 : decode cX7_offIn 76 = .ok (.ireturn, 1) := by decide +kernel
theorem dX7_offIn_77 : decode cX7_offIn 77 = .ok (.aload_n 0, 1) := by decide +kernel
theorem dX7_offIn_78 : decode cX7_offIn 78 = .ok (.getfield 43, 3) := by decide +kernel
theorem dX7_offIn_81 : decode cX7_offIn 81 = .ok (.iload_n 3, 1) := by decide +kernel
theorem dX7_offIn_82 : decode cX7_offIn 82 = .ok (.invokevirtual 174, 3) := by decide +kernel
theorem dX7_offIn_85 : decode cX7_offIn 85 = .ok (.iinc 5 1, 3) := by decide +kernel
theorem dX7_offIn_88 : decode cX7_offIn 88 = .ok (.goto (-34), 3) := by decide +kernel
theorem dX7_offIn_91 : decode cX7_offIn 91 = .ok (.bipush (-6), 2) := by decide +kernel
theorem dX7_offIn_93 : decode cX7_offIn 93 = .ok (.ireturn, 1) := by decide +kernel
set_option maxRecDepth 20000 in
theorem ggX7_replay_X1_clear : GoodIn wsX7_replay wsX1_clear := goodIn_r _ [9, 10, 11, 63, 64] (by decide +kernel) (by decide +kernel)
set_option maxRecDepth 20000 in
theorem gX7_replay_X1_clear : GoodIn wsX7_replay (wsV RX7 79 RX1 yX1_clear wsX1_clear) := goodIn_app (goodIn_of _ (by decide +kernel)) ggX7_replay_X1_clear
set_option maxRecDepth 20000 in
theorem ggX7_replay_X3_length : GoodIn wsX7_replay wsX3_length := goodIn_r _ [16, 17, 18, 19, 20, 21, 65, 66] (by decide +kernel) (by decide +kernel)
set_option maxRecDepth 20000 in
theorem gX7_replay_X3_length : GoodIn wsX7_replay (wsV RX7 87 RX3 yX3_length wsX3_length) := goodIn_app (goodIn_of _ (by decide +kernel)) ggX7_replay_X3_length
set_option maxRecDepth 20000 in
theorem ggX7_replay_X3_fact : GoodIn wsX7_replay wsX3_fact := goodIn_r _ [25, 26, 27, 28, 29, 15, 30, 17, 65, 66] (by decide +kernel) (by decide +kernel)
set_option maxRecDepth 20000 in
theorem gX7_replay_X3_fact : GoodIn wsX7_replay (wsV RX7 97 RX3 yX3_fact wsX3_fact) := goodIn_app (goodIn_of _ (by decide +kernel)) ggX7_replay_X3_fact
set_option maxRecDepth 20000 in
theorem ggX7_replay_X0_rateIn : GoodIn wsX7_replay wsX0_rateIn := goodIn_r _ [35, 36, 37, 38, 39, 34, 40, 41, 42, 43, 44, 45, 56, 57, 58, 59, 60, 61, 62] (by decide +kernel) (by decide +kernel)
set_option maxRecDepth 20000 in
theorem gX7_replay_X0_rateIn : GoodIn wsX7_replay (wsV RX7 156 RX0 yX0_rateIn wsX0_rateIn) := goodIn_app (goodIn_of _ (by decide +kernel)) ggX7_replay_X0_rateIn
set_option maxRecDepth 20000 in
theorem ggX7_replay_X1_addHour : GoodIn wsX7_replay wsX1_addHour := goodIn_r _ [49, 11, 10, 63, 64] (by decide +kernel) (by decide +kernel)
set_option maxRecDepth 20000 in
theorem gX7_replay_X1_addHour : GoodIn wsX7_replay (wsV RX7 174 RX1 yX1_addHour wsX1_addHour) := goodIn_app (goodIn_of _ (by decide +kernel)) ggX7_replay_X1_addHour
theorem dX7_replay_0 : decode cX7_replay 0 = .ok (.aload_n 0, 1) := by decide +kernel
theorem dX7_replay_1 : decode cX7_replay 1 = .ok (.getfield 43, 3) := by decide +kernel
theorem dX7_replay_4 : decode cX7_replay 4 = .ok (.invokevirtual 79, 3) := by decide +kernel
theorem dX7_replay_7 : decode cX7_replay 7 = .ok (.aload_n 0, 1) := by decide +kernel
theorem dX7_replay_8 : decode cX7_replay 8 = .ok (.getfield 10, 3) := by decide +kernel
theorem dX7_replay_11 : decode cX7_replay 11 = .ok (.getfield 83, 3) := by decide +kernel
theorem dX7_replay_14 : decode cX7_replay 14 = .ok (.invokevirtual 87, 3) := by decide +kernel
theorem dX7_replay_17 : decode cX7_replay 17 = .ok (.iconst 1, 1) := by decide +kernel
theorem dX7_replay_18 : decode cX7_replay 18 = .ok (.isub, 1) := by decide +kernel
theorem dX7_replay_19 : decode cX7_replay 19 = .ok (.istore_n 1, 1) := by decide +kernel
theorem dX7_replay_20 : decode cX7_replay 20 = .ok (.iload_n 1, 1) := by decide +kernel
theorem dX7_replay_21 : decode cX7_replay 21 = .ok (.ifCond .lt 47, 3) := by decide +kernel
theorem dX7_replay_24 : decode cX7_replay 24 = .ok (.aload_n 0, 1) := by decide +kernel
theorem dX7_replay_25 : decode cX7_replay 25 = .ok (.getfield 43, 3) := by decide +kernel
theorem dX7_replay_28 : decode cX7_replay 28 = .ok (.aload_n 0, 1) := by decide +kernel
theorem dX7_replay_29 : decode cX7_replay 29 = .ok (.getfield 10, 3) := by decide +kernel
theorem dX7_replay_32 : decode cX7_replay 32 = .ok (.aload_n 0, 1) := by decide +kernel
theorem dX7_replay_33 : decode cX7_replay 33 = .ok (.getfield 10, 3) := by decide +kernel
theorem dX7_replay_36 : decode cX7_replay 36 = .ok (.getfield 83, 3) := by decide +kernel
theorem dX7_replay_39 : decode cX7_replay 39 = .ok (.iload_n 1, 1) := by decide +kernel
theorem dX7_replay_40 : decode cX7_replay 40 = .ok (.iconst 0, 1) := by decide +kernel
theorem dX7_replay_41 : decode cX7_replay 41 = .ok (.invokevirtual 97, 3) := by decide +kernel
theorem dX7_replay_44 : decode cX7_replay 44 = .ok (.aload_n 0, 1) := by decide +kernel
theorem dX7_replay_45 : decode cX7_replay 45 = .ok (.getfield 10, 3) := by decide +kernel
theorem dX7_replay_48 : decode cX7_replay 48 = .ok (.getfield 83, 3) := by decide +kernel
theorem dX7_replay_51 : decode cX7_replay 51 = .ok (.iload_n 1, 1) := by decide +kernel
theorem dX7_replay_52 : decode cX7_replay 52 = .ok (.iconst 1, 1) := by decide +kernel
theorem dX7_replay_53 : decode cX7_replay 53 = .ok (.invokevirtual 97, 3) := by decide +kernel
theorem dX7_replay_56 : decode cX7_replay 56 = .ok (.invokevirtual 156, 3) := by decide +kernel
theorem dX7_replay_59 : decode cX7_replay 59 = .ok (.invokevirtual 174, 3) := by decide +kernel
theorem dX7_replay_62 : decode cX7_replay 62 = .ok (.iinc 1 (-1), 3) := by decide +kernel
theorem dX7_replay_65 : decode cX7_replay 65 = .ok (.goto (-45), 3) := by decide +kernel
theorem dX7_replay_68 : decode cX7_replay 68 = .ok (.aload_n 0, 1) := by decide +kernel
theorem dX7_replay_69 : decode cX7_replay 69 = .ok (.getfield 43, 3) := by decide +kernel
theorem dX7_replay_72 : decode cX7_replay 72 = .ok (.getfield 75, 3) := by decide +kernel
theorem dX7_replay_75 : decode cX7_replay 75 = .ok (.ldc 82, 2) := by decide +kernel
theorem dX7_replay_77 : decode cX7_replay 77 = .ok (.iadd, 1) := by decide +kernel
theorem dX7_replay_78 : decode cX7_replay 78 = .ok (.ireturn, 1) := by decide +kernel
set_option maxRecDepth 20000 in
theorem ggX7_coolest_X7_isAir : GoodIn wsX7_coolest wsX7_isAir := goodIn_r _ [5] (by decide +kernel) (by decide +kernel)
set_option maxRecDepth 20000 in
theorem gX7_coolest_X7_isAir : GoodIn wsX7_coolest (va_wsS RX7 153 yX7_isAir wsX7_isAir) := goodIn_app (goodIn_of _ (by decide +kernel)) ggX7_coolest_X7_isAir
set_option maxRecDepth 20000 in
theorem ggX7_coolest_X0_rateIn : GoodIn wsX7_coolest wsX0_rateIn := goodIn_r _ [10, 11, 12, 13, 14, 9, 15, 16, 17, 18, 19, 20, 27, 28, 29, 30, 31, 32, 33] (by decide +kernel) (by decide +kernel)
set_option maxRecDepth 20000 in
theorem gX7_coolest_X0_rateIn : GoodIn wsX7_coolest (wsV RX7 156 RX0 yX0_rateIn wsX0_rateIn) := goodIn_app (goodIn_of _ (by decide +kernel)) ggX7_coolest_X0_rateIn
theorem dX7_coolest_0 : decode cX7_coolest 0 = .ok (.iload_n 1, 1) := by decide +kernel
theorem dX7_coolest_1 : decode cX7_coolest 1 = .ok (.invokestatic 153, 3) := by decide +kernel
theorem dX7_coolest_4 : decode cX7_coolest 4 = .ok (.ifCond .ne 6, 3) := by decide +kernel
theorem dX7_coolest_7 : decode cX7_coolest 7 = .ok (.bipush (-2), 2) := by decide +kernel
theorem dX7_coolest_9 : decode cX7_coolest 9 = .ok (.ireturn, 1) := by decide +kernel
theorem dX7_coolest_10 : decode cX7_coolest 10 = .ok (.bipush (-20), 2) := by decide +kernel
theorem dX7_coolest_12 : decode cX7_coolest 12 = .ok (.istore_n 2, 1) := by decide +kernel
theorem dX7_coolest_13 : decode cX7_coolest 13 = .ok (.iload_n 2, 1) := by decide +kernel
theorem dX7_coolest_14 : decode cX7_coolest 14 = .ok (.bipush 50, 2) := by decide +kernel
theorem dX7_coolest_16 : decode cX7_coolest 16 = .ok (.if_icmp .gt 26, 3) := by decide +kernel
theorem dX7_coolest_19 : decode cX7_coolest 19 = .ok (.aload_n 0, 1) := by decide +kernel
theorem dX7_coolest_20 : decode cX7_coolest 20 = .ok (.getfield 10, 3) := by decide +kernel
theorem dX7_coolest_23 : decode cX7_coolest 23 = .ok (.iload_n 2, 1) := by decide +kernel
theorem dX7_coolest_24 : decode cX7_coolest 24 = .ok (.iload_n 1, 1) := by decide +kernel
theorem dX7_coolest_25 : decode cX7_coolest 25 = .ok (.invokevirtual 156, 3) := by decide +kernel
theorem dX7_coolest_28 : decode cX7_coolest 28 = .ok (.ifCond .gt 8, 3) := by decide +kernel
theorem dX7_coolest_31 : decode cX7_coolest 31 = .ok (.iload_n 2, 1) := by decide +kernel
theorem dX7_coolest_32 : decode cX7_coolest 32 = .ok (.bipush 100, 2) := by decide +kernel
theorem dX7_coolest_34 : decode cX7_coolest 34 = .ok (.iadd, 1) := by decide +kernel
theorem dX7_coolest_35 : decode cX7_coolest 35 = .ok (.ireturn, 1) := by decide +kernel
theorem dX7_coolest_36 : decode cX7_coolest 36 = .ok (.iinc 2 1, 3) := by decide +kernel
theorem dX7_coolest_39 : decode cX7_coolest 39 = .ok (.goto (-26), 3) := by decide +kernel
theorem dX7_coolest_42 : decode cX7_coolest 42 = .ok (.bipush (-6), 2) := by decide +kernel
theorem dX7_coolest_44 : decode cX7_coolest 44 = .ok (.ireturn, 1) := by decide +kernel
set_option maxRecDepth 20000 in
theorem ggX7_put_X7_signsIn : GoodIn wsX7_put wsX7_signsIn := goodIn_r _ [5, 6, 7, 4, 8] (by decide +kernel) (by decide +kernel)
set_option maxRecDepth 20000 in
theorem gX7_put_X7_signsIn : GoodIn wsX7_put (va_wsS RX7 178 yX7_signsIn wsX7_signsIn) := goodIn_app (goodIn_of _ (by decide +kernel)) ggX7_put_X7_signsIn
set_option maxRecDepth 20000 in
theorem ggX7_put_X7_codeAt : GoodIn wsX7_put wsX7_codeAt := goodIn_r _ [8] (by decide +kernel) (by decide +kernel)
set_option maxRecDepth 20000 in
theorem gX7_put_X7_codeAt : GoodIn wsX7_put (va_wsS RX7 182 yX7_codeAt wsX7_codeAt) := goodIn_app (goodIn_of _ (by decide +kernel)) ggX7_put_X7_codeAt
set_option maxRecDepth 20000 in
theorem ggX7_put_X4_append : GoodIn wsX7_put wsX4_append := goodIn_r _ [13, 14, 15, 30, 31] (by decide +kernel) (by decide +kernel)
set_option maxRecDepth 20000 in
theorem gX7_put_X4_append : GoodIn wsX7_put (wsV RX7 186 RX4 yX4_append wsX4_append) := goodIn_app (goodIn_of _ (by decide +kernel)) ggX7_put_X4_append
theorem dX7_put_0 : decode cX7_put 0 = .ok (.lload_n 1, 1) := by decide +kernel
theorem dX7_put_1 : decode cX7_put 1 = .ok (.invokestatic 178, 3) := by decide +kernel
theorem dX7_put_4 : decode cX7_put 4 = .ok (.istore_n 3, 1) := by decide +kernel
theorem dX7_put_5 : decode cX7_put 5 = .ok (.iload_n 3, 1) := by decide +kernel
theorem dX7_put_6 : decode cX7_put 6 = .ok (.ifCond .ne 6, 3) := by decide +kernel
theorem dX7_put_9 : decode cX7_put 9 = .ok (.bipush (-2), 2) := by decide +kernel
theorem dX7_put_11 : decode cX7_put 11 = .ok (.ireturn, 1) := by decide +kernel
theorem dX7_put_12 : decode cX7_put 12 = .ok (.aload_n 0, 1) := by decide +kernel
theorem dX7_put_13 : decode cX7_put 13 = .ok (.getfield 36, 3) := by decide +kernel
theorem dX7_put_16 : decode cX7_put 16 = .ok (.getfield 118, 3) := by decide +kernel
theorem dX7_put_19 : decode cX7_put 19 = .ok (.getfield 122, 3) := by decide +kernel
theorem dX7_put_22 : decode cX7_put 22 = .ok (.iload_n 3, 1) := by decide +kernel
theorem dX7_put_23 : decode cX7_put 23 = .ok (.iadd, 1) := by decide +kernel
theorem dX7_put_24 : decode cX7_put 24 = .ok (.bipush 80, 2) := by decide +kernel
theorem dX7_put_26 : decode cX7_put 26 = .ok (.if_icmp .le 6, 3) := by decide +kernel
theorem dX7_put_29 : decode cX7_put 29 = .ok (.bipush (-4), 2) := by decide +kernel
theorem dX7_put_31 : decode cX7_put 31 = .ok (.ireturn, 1) := by decide +kernel
theorem dX7_put_32 : decode cX7_put 32 = .ok (.iload_n 3, 1) := by decide +kernel
theorem dX7_put_33 : decode cX7_put 33 = .ok (.iconst 1, 1) := by decide +kernel
theorem dX7_put_34 : decode cX7_put 34 = .ok (.isub, 1) := by decide +kernel
theorem dX7_put_35 : decode cX7_put 35 = .ok (.istore 4, 2) := by decide +kernel
theorem dX7_put_37 : decode cX7_put 37 = .ok (.iload 4, 2) := by decide +kernel
theorem dX7_put_39 : decode cX7_put 39 = .ok (.ifCond .lt 26, 3) := by decide +kernel
theorem dX7_put_42 : decode cX7_put 42 = .ok (.aload_n 0, 1) := by decide +kernel
theorem dX7_put_43 : decode cX7_put 43 = .ok (.getfield 36, 3) := by decide +kernel
theorem dX7_put_46 : decode cX7_put 46 = .ok (.getfield 118, 3) := by decide +kernel
theorem dX7_put_49 : decode cX7_put 49 = .ok (.lload_n 1, 1) := by decide +kernel
theorem dX7_put_50 : decode cX7_put 50 = .ok (.iload 4, 2) := by decide +kernel
theorem dX7_put_52 : decode cX7_put 52 = .ok (.invokestatic 182, 3) := by decide +kernel
theorem dX7_put_55 : decode cX7_put 55 = .ok (.i2c, 1) := by decide +kernel
theorem dX7_put_56 : decode cX7_put 56 = .ok (.invokevirtual 186, 3) := by decide +kernel
theorem dX7_put_59 : decode cX7_put 59 = .ok (.iinc 4 (-1), 3) := by decide +kernel
theorem dX7_put_62 : decode cX7_put 62 = .ok (.goto (-25), 3) := by decide +kernel
theorem dX7_put_65 : decode cX7_put 65 = .ok (.aload_n 0, 1) := by decide +kernel
theorem dX7_put_66 : decode cX7_put 66 = .ok (.getfield 36, 3) := by decide +kernel
theorem dX7_put_69 : decode cX7_put 69 = .ok (.getfield 118, 3) := by decide +kernel
theorem dX7_put_72 : decode cX7_put 72 = .ok (.getfield 122, 3) := by decide +kernel
theorem dX7_put_75 : decode cX7_put 75 = .ok (.ireturn, 1) := by decide +kernel
theorem dX7_wipe_0 : decode cX7_wipe 0 = .ok (.aload_n 0, 1) := by decide +kernel
theorem dX7_wipe_1 : decode cX7_wipe 1 = .ok (.getfield 36, 3) := by decide +kernel
theorem dX7_wipe_4 : decode cX7_wipe 4 = .ok (.getfield 118, 3) := by decide +kernel
theorem dX7_wipe_7 : decode cX7_wipe 7 = .ok (.getfield 122, 3) := by decide +kernel
theorem dX7_wipe_10 : decode cX7_wipe 10 = .ok (.istore_n 1, 1) := by decide +kernel
theorem dX7_wipe_11 : decode cX7_wipe 11 = .ok (.aload_n 0, 1) := by decide +kernel
theorem dX7_wipe_12 : decode cX7_wipe 12 = .ok (.getfield 36, 3) := by decide +kernel
theorem dX7_wipe_15 : decode cX7_wipe 15 = .ok (.getfield 118, 3) := by decide +kernel
theorem dX7_wipe_18 : decode cX7_wipe 18 = .ok (.iconst 0, 1) := by decide +kernel
theorem dX7_wipe_19 : decode cX7_wipe 19 = .ok (.putfield 122, 3) := by decide +kernel
theorem dX7_wipe_22 : decode cX7_wipe 22 = .ok (.iload_n 1, 1) := by decide +kernel
theorem dX7_wipe_23 : decode cX7_wipe 23 = .ok (.ireturn, 1) := by decide +kernel
set_option maxRecDepth 20000 in
theorem ggX7_fault_X5_firstFault : GoodIn wsX7_fault wsX5_firstFault := goodIn_r _ [6, 7, 8, 9, 10, 11, 5, 12, 13, 14, 15, 16, 17, 18, 19, 20, 21, 22, 23, 24, 25, 26, 27, 28, 29, 30, 31, 32, 33, 34, 35, 36, 37, 38, 39, 40, 41, 42, 43, 44, 45, 46, 47, 48, 49, 50, 51, 52, 59, 60, 61, 62, 63, 64, 65, 66, 67, 68] (by decide +kernel) (by decide +kernel)
set_option maxRecDepth 20000 in
theorem gX7_fault_X5_firstFault : GoodIn wsX7_fault (wsV RX7 190 RX5 yX5_firstFault wsX5_firstFault) := goodIn_app (goodIn_of _ (by decide +kernel)) ggX7_fault_X5_firstFault
theorem dX7_fault_0 : decode cX7_fault 0 = .ok (.aload_n 0, 1) := by decide +kernel
theorem dX7_fault_1 : decode cX7_fault 1 = .ok (.getfield 36, 3) := by decide +kernel
theorem dX7_fault_4 : decode cX7_fault 4 = .ok (.invokevirtual 190, 3) := by decide +kernel
theorem dX7_fault_7 : decode cX7_fault 7 = .ok (.ireturn, 1) := by decide +kernel
set_option maxRecDepth 20000 in
theorem ggX7_carryOut_X5_firstFault : GoodIn wsX7_carryOut wsX5_firstFault := goodIn_r _ [8, 9, 10, 11, 12, 13, 7, 14, 15, 16, 17, 18, 19, 20, 21, 22, 23, 24, 25, 26, 27, 28, 29, 30, 31, 32, 33, 34, 35, 36, 37, 38, 39, 40, 41, 42, 43, 44, 45, 46, 47, 48, 49, 50, 51, 52, 53, 54, 185, 186, 187, 188, 189, 190, 191, 192, 193, 194] (by decide +kernel) (by decide +kernel)
set_option maxRecDepth 20000 in
theorem gX7_carryOut_X5_firstFault : GoodIn wsX7_carryOut (wsV RX7 190 RX5 yX5_firstFault wsX5_firstFault) := goodIn_app (goodIn_of _ (by decide +kernel)) ggX7_carryOut_X5_firstFault
set_option maxRecDepth 20000 in
theorem ggX7_carryOut_X2_record : GoodIn wsX7_carryOut wsX2_record := goodIn_r _ [59, 60, 61, 62, 63, 64, 65, 66, 67, 68, 69, 70, 71, 72, 73, 74, 75, 76, 77, 78, 79, 80, 81, 82, 83, 84, 85, 86, 87, 88, 89, 90, 91, 92, 93, 94, 95, 96, 195, 196, 197, 198, 199, 200, 201, 202, 203, 204, 205, 206, 207] (by decide +kernel) (by decide +kernel)
set_option maxRecDepth 20000 in
theorem gX7_carryOut_X2_record : GoodIn wsX7_carryOut (wsV RX7 51 RX2 yX2_record wsX2_record) := goodIn_app (goodIn_of _ (by decide +kernel)) ggX7_carryOut_X2_record
set_option maxRecDepth 20000 in
theorem ggX7_carryOut_X5_start : GoodIn wsX7_carryOut wsX5_start := goodIn_r _ [14, 9, 185, 186, 187, 188, 189, 190, 191, 192] (by decide +kernel) (by decide +kernel)
set_option maxRecDepth 20000 in
theorem gX7_carryOut_X5_start : GoodIn wsX7_carryOut (wsV RX7 193 RX5 yX5_start wsX5_start) := goodIn_app (goodIn_of _ (by decide +kernel)) ggX7_carryOut_X5_start
set_option maxRecDepth 20000 in
theorem ggX7_carryOut_X5_readOrder : GoodIn wsX7_carryOut wsX5_readOrder := goodIn_r _ [18, 10, 9, 19, 20, 21, 22, 23, 24, 25, 26, 27, 28, 29, 7, 30, 31, 32, 33, 34, 35, 36, 37, 38, 39, 40, 41, 42, 43, 44, 45, 46, 47, 48, 49, 50, 51, 52, 53, 54, 185, 186, 187, 188, 189, 190, 191, 192, 193, 194] (by decide +kernel) (by decide +kernel)
set_option maxRecDepth 20000 in
theorem gX7_carryOut_X5_readOrder : GoodIn wsX7_carryOut (wsV RX7 196 RX5 yX5_readOrder wsX5_readOrder) := goodIn_app (goodIn_of _ (by decide +kernel)) ggX7_carryOut_X5_readOrder
set_option maxRecDepth 20000 in
theorem ggX7_carryOut_X7_carryOutOrder : GoodIn wsX7_carryOut wsX7_carryOutOrder := goodIn_r _ [103, 1, 3, 104, 105, 106, 69, 107, 79, 108, 102, 109, 110, 111, 112, 113, 114, 115, 81, 116, 117, 118, 119, 76, 77, 120, 78, 80, 121, 122, 123, 124, 125, 126, 127, 128, 129, 130, 131, 132, 71, 133, 134, 135, 85, 136, 88, 87, 137, 138, 139, 140, 141, 142, 143, 92, 144, 96, 145, 146, 147, 148, 94, 149, 150, 151, 152, 153, 154, 155, 156, 157, 158, 159, 160, 161, 162, 163, 164, 165, 166, 167, 168, 169, 170, 171, 172, 173, 174, 175, 176, 177, 179, 180, 181, 182, 183, 184, 185, 186, 187, 188, 189, 190, 191, 192, 197, 198, 199, 200, 201, 202, 203, 204, 205, 206, 207] (by decide +kernel) (by decide +kernel)
set_option maxRecDepth 20000 in
theorem gX7_carryOut_X7_carryOutOrder : GoodIn wsX7_carryOut (wsV RX7 200 RX7 yX7_carryOutOrder wsX7_carryOutOrder) := goodIn_app (goodIn_of _ (by decide +kernel)) ggX7_carryOut_X7_carryOutOrder
set_option maxRecDepth 20000 in
theorem ggX7_carryOut_X5_readSign : GoodIn wsX7_carryOut wsX5_readSign := goodIn_r _ [43, 10, 9, 20, 21, 22, 23, 24, 25, 26, 185, 186, 187, 188, 189, 190, 191, 192, 193, 194] (by decide +kernel) (by decide +kernel)
set_option maxRecDepth 20000 in
theorem gX7_carryOut_X5_readSign : GoodIn wsX7_carryOut (wsV RX7 203 RX5 yX5_readSign wsX5_readSign) := goodIn_app (goodIn_of _ (by decide +kernel)) ggX7_carryOut_X5_readSign
theorem dX7_carryOut_0 : decode cX7_carryOut 0 = .ok (.aload_n 0, 1) := by decide +kernel
theorem dX7_carryOut_1 : decode cX7_carryOut 1 = .ok (.getfield 36, 3) := by decide +kernel
theorem dX7_carryOut_4 : decode cX7_carryOut 4 = .ok (.invokevirtual 190, 3) := by decide +kernel
theorem dX7_carryOut_7 : decode cX7_carryOut 7 = .ok (.bipush (-6), 2) := by decide +kernel
theorem dX7_carryOut_9 : decode cX7_carryOut 9 = .ok (.if_icmp .eq 6, 3) := by decide +kernel
theorem dX7_carryOut_12 : decode cX7_carryOut 12 = .ok (.bipush (-3), 2) := by decide +kernel
theorem dX7_carryOut_14 : decode cX7_carryOut 14 = .ok (.ireturn, 1) := by decide +kernel
theorem dX7_carryOut_15 : decode cX7_carryOut 15 = .ok (.aload_n 0, 1) := by decide +kernel
theorem dX7_carryOut_16 : decode cX7_carryOut 16 = .ok (.getfield 19, 3) := by decide +kernel
theorem dX7_carryOut_19 : decode cX7_carryOut 19 = .ok (.aload_n 0, 1) := by decide +kernel
theorem dX7_carryOut_20 : decode cX7_carryOut 20 = .ok (.getfield 10, 3) := by decide +kernel
theorem dX7_carryOut_23 : decode cX7_carryOut 23 = .ok (.invokevirtual 51, 3) := by decide +kernel
theorem dX7_carryOut_26 : decode cX7_carryOut 26 = .ok (.iconst 0, 1) := by decide +kernel
theorem dX7_carryOut_27 : decode cX7_carryOut 27 = .ok (.istore_n 1, 1) := by decide +kernel
theorem dX7_carryOut_28 : decode cX7_carryOut 28 = .ok (.aload_n 0, 1) := by decide +kernel
theorem dX7_carryOut_29 : decode cX7_carryOut 29 = .ok (.getfield 36, 3) := by decide +kernel
theorem dX7_carryOut_32 : decode cX7_carryOut 32 = .ok (.invokevirtual 193, 3) := by decide +kernel
theorem dX7_carryOut_35 : decode cX7_carryOut 35 = .ok (.iconst 0, 1) := by decide +kernel
theorem dX7_carryOut_36 : decode cX7_carryOut 36 = .ok (.istore_n 2, 1) := by decide +kernel
theorem dX7_carryOut_37 : decode cX7_carryOut 37 = .ok (.iload_n 2, 1) := by decide +kernel
theorem dX7_carryOut_38 : decode cX7_carryOut 38 = .ok (.bipush 80, 2) := by decide +kernel
theorem dX7_carryOut_40 : decode cX7_carryOut 40 = .ok (.if_icmp .ge 47, 3) := by decide +kernel
theorem dX7_carryOut_43 : decode cX7_carryOut 43 = .ok (.aload_n 0, 1) := by decide +kernel
theorem dX7_carryOut_44 : decode cX7_carryOut 44 = .ok (.getfield 36, 3) := by decide +kernel
theorem dX7_carryOut_47 : decode cX7_carryOut 47 = .ok (.invokevirtual 196, 3) := by decide +kernel
theorem dX7_carryOut_50 : decode cX7_carryOut 50 = .ok (.ifCond .eq 37, 3) := by decide +kernel
theorem dX7_carryOut_53 : decode cX7_carryOut 53 = .ok (.aload_n 0, 1) := by decide +kernel
theorem dX7_carryOut_54 : decode cX7_carryOut 54 = .ok (.invokevirtual 200, 3) := by decide +kernel
theorem dX7_carryOut_57 : decode cX7_carryOut 57 = .ok (.ifCond .ne 6, 3) := by decide +kernel
theorem dX7_carryOut_60 : decode cX7_carryOut 60 = .ok (.goto 27, 3) := by decide +kernel
theorem dX7_carryOut_63 : decode cX7_carryOut 63 = .ok (.iinc 1 1, 3) := by decide +kernel
theorem dX7_carryOut_66 : decode cX7_carryOut 66 = .ok (.aload_n 0, 1) := by decide +kernel
theorem dX7_carryOut_67 : decode cX7_carryOut 67 = .ok (.getfield 36, 3) := by decide +kernel
theorem dX7_carryOut_70 : decode cX7_carryOut 70 = .ok (.bipush 59, 2) := by decide +kernel
theorem dX7_carryOut_72 : decode cX7_carryOut 72 = .ok (.invokevirtual 203, 3) := by decide +kernel
theorem dX7_carryOut_75 : decode cX7_carryOut 75 = .ok (.ifCond .ne 6, 3) := by decide +kernel
theorem dX7_carryOut_78 : decode cX7_carryOut 78 = .ok (.goto 9, 3) := by decide +kernel
theorem dX7_carryOut_81 : decode cX7_carryOut 81 = .ok (.iinc 2 1, 3) := by decide +kernel
theorem dX7_carryOut_84 : decode cX7_carryOut 84 = .ok (.goto (-47), 3) := by decide +kernel
theorem dX7_carryOut_87 : decode cX7_carryOut 87 = .ok (.aload_n 0, 1) := by decide +kernel
theorem dX7_carryOut_88 : decode cX7_carryOut 88 = .ok (.getfield 36, 3) := by decide +kernel
theorem dX7_carryOut_91 : decode cX7_carryOut 91 = .ok (.getfield 118, 3) := by decide +kernel
theorem dX7_carryOut_94 : decode cX7_carryOut 94 = .ok (.iconst 0, 1) := by decide +kernel
theorem dX7_carryOut_95 : decode cX7_carryOut 95 = .ok (.putfield 122, 3) := by decide +kernel
theorem dX7_carryOut_98 : decode cX7_carryOut 98 = .ok (.iload_n 1, 1) := by decide +kernel
theorem dX7_carryOut_99 : decode cX7_carryOut 99 = .ok (.ireturn, 1) := by decide +kernel
set_option maxRecDepth 20000 in
theorem ggX7_undo_X2_takeBack : GoodIn wsX7_undo wsX2_takeBack := goodIn_r _ [7, 8, 9, 10, 11, 12, 13, 14, 15, 16, 17, 18, 19, 20, 21, 22, 23, 24, 25, 26, 27, 28, 29, 30, 31, 32, 33, 34, 35, 36, 37, 38, 39, 40, 47, 48, 49, 50, 51, 52, 53, 54, 55, 56, 57, 58, 59] (by decide +kernel) (by decide +kernel)
set_option maxRecDepth 20000 in
theorem gX7_undo_X2_takeBack : GoodIn wsX7_undo (wsV RX7 207 RX2 yX2_takeBack wsX2_takeBack) := goodIn_app (goodIn_of _ (by decide +kernel)) ggX7_undo_X2_takeBack
theorem dX7_undo_0 : decode cX7_undo 0 = .ok (.aload_n 0, 1) := by decide +kernel
theorem dX7_undo_1 : decode cX7_undo 1 = .ok (.getfield 19, 3) := by decide +kernel
theorem dX7_undo_4 : decode cX7_undo 4 = .ok (.getfield 126, 3) := by decide +kernel
theorem dX7_undo_7 : decode cX7_undo 7 = .ok (.ifCond .ne 6, 3) := by decide +kernel
theorem dX7_undo_10 : decode cX7_undo 10 = .ok (.bipush (-5), 2) := by decide +kernel
theorem dX7_undo_12 : decode cX7_undo 12 = .ok (.ireturn, 1) := by decide +kernel
theorem dX7_undo_13 : decode cX7_undo 13 = .ok (.aload_n 0, 1) := by decide +kernel
theorem dX7_undo_14 : decode cX7_undo 14 = .ok (.getfield 19, 3) := by decide +kernel
theorem dX7_undo_17 : decode cX7_undo 17 = .ok (.aload_n 0, 1) := by decide +kernel
theorem dX7_undo_18 : decode cX7_undo 18 = .ok (.getfield 10, 3) := by decide +kernel
theorem dX7_undo_21 : decode cX7_undo 21 = .ok (.invokevirtual 207, 3) := by decide +kernel
theorem dX7_undo_24 : decode cX7_undo 24 = .ok (.aload_n 0, 1) := by decide +kernel
theorem dX7_undo_25 : decode cX7_undo 25 = .ok (.getfield 19, 3) := by decide +kernel
theorem dX7_undo_28 : decode cX7_undo 28 = .ok (.getfield 126, 3) := by decide +kernel
theorem dX7_undo_31 : decode cX7_undo 31 = .ok (.ireturn, 1) := by decide +kernel
set_option maxRecDepth 20000 in
theorem ggX7_save_X0_become : GoodIn wsX7_save wsX0_become := goodIn_r _ [8, 9, 10, 11, 12, 13, 14, 15, 16, 17, 18, 19, 20, 21, 22, 23, 24, 25, 26, 27, 28, 29, 30, 31, 32, 33, 34, 43, 44, 45, 46, 47, 48, 49, 50, 51, 52, 53] (by decide +kernel) (by decide +kernel)
set_option maxRecDepth 20000 in
theorem gX7_save_X0_become : GoodIn wsX7_save (wsV RX7 213 RX0 yX0_become wsX0_become) := goodIn_app (goodIn_of _ (by decide +kernel)) ggX7_save_X0_become
theorem dX7_save_0 : decode cX7_save 0 = .ok (.iload_n 1, 1) := by decide +kernel
theorem dX7_save_1 : decode cX7_save 1 = .ok (.ifCond .eq 11, 3) := by decide +kernel
theorem dX7_save_4 : decode cX7_save 4 = .ok (.iload_n 1, 1) := by decide +kernel
theorem dX7_save_5 : decode cX7_save 5 = .ok (.iconst 1, 1) := by decide +kernel
theorem dX7_save_6 : decode cX7_save 6 = .ok (.if_icmp .eq 6, 3) := by decide +kernel
theorem dX7_save_9 : decode cX7_save 9 = .ok (.bipush (-2), 2) := by decide +kernel
theorem dX7_save_11 : decode cX7_save 11 = .ok (.ireturn, 1) := by decide +kernel
theorem dX7_save_12 : decode cX7_save 12 = .ok (.iload_n 1, 1) := by decide +kernel
theorem dX7_save_13 : decode cX7_save 13 = .ok (.ifCond .ne 10, 3) := by decide +kernel
theorem dX7_save_16 : decode cX7_save 16 = .ok (.aload_n 0, 1) := by decide +kernel
theorem dX7_save_17 : decode cX7_save 17 = .ok (.getfield 26, 3) := by decide +kernel
theorem dX7_save_20 : decode cX7_save 20 = .ok (.goto 7, 3) := by decide +kernel
theorem dX7_save_23 : decode cX7_save 23 = .ok (.aload_n 0, 1) := by decide +kernel
theorem dX7_save_24 : decode cX7_save 24 = .ok (.getfield 30, 3) := by decide +kernel
theorem dX7_save_27 : decode cX7_save 27 = .ok (.astore_n 2, 1) := by decide +kernel
theorem dX7_save_28 : decode cX7_save 28 = .ok (.aload_n 2, 1) := by decide +kernel
theorem dX7_save_29 : decode cX7_save 29 = .ok (.getfield 210, 3) := by decide +kernel
theorem dX7_save_32 : decode cX7_save 32 = .ok (.aload_n 0, 1) := by decide +kernel
theorem dX7_save_33 : decode cX7_save 33 = .ok (.getfield 10, 3) := by decide +kernel
theorem dX7_save_36 : decode cX7_save 36 = .ok (.invokevirtual 213, 3) := by decide +kernel
theorem dX7_save_39 : decode cX7_save 39 = .ok (.aload_n 2, 1) := by decide +kernel
theorem dX7_save_40 : decode cX7_save 40 = .ok (.iconst 1, 1) := by decide +kernel
theorem dX7_save_41 : decode cX7_save 41 = .ok (.putfield 215, 3) := by decide +kernel
theorem dX7_save_44 : decode cX7_save 44 = .ok (.aload_n 0, 1) := by decide +kernel
theorem dX7_save_45 : decode cX7_save 45 = .ok (.getfield 10, 3) := by decide +kernel
theorem dX7_save_48 : decode cX7_save 48 = .ok (.getfield 106, 3) := by decide +kernel
theorem dX7_save_51 : decode cX7_save 51 = .ok (.ireturn, 1) := by decide +kernel
set_option maxRecDepth 20000 in
theorem ggX7_restore_X2_record : GoodIn wsX7_restore wsX2_record := goodIn_r _ [9, 10, 11, 12, 13, 14, 15, 16, 17, 18, 19, 20, 21, 22, 23, 24, 25, 26, 27, 28, 29, 30, 31, 32, 33, 34, 35, 36, 37, 38, 39, 40, 41, 42, 43, 44, 45, 46, 63, 64, 56, 57, 58, 59, 60, 61, 62, 65, 66, 67, 68] (by decide +kernel) (by decide +kernel)
set_option maxRecDepth 20000 in
theorem gX7_restore_X2_record : GoodIn wsX7_restore (wsV RX7 51 RX2 yX2_record wsX2_record) := goodIn_app (goodIn_of _ (by decide +kernel)) ggX7_restore_X2_record
set_option maxRecDepth 20000 in
theorem ggX7_restore_X0_become : GoodIn wsX7_restore wsX0_become := goodIn_r _ [20, 21, 22, 23, 24, 25, 26, 27, 28, 29, 30, 31, 32, 33, 34, 35, 36, 37, 38, 39, 40, 41, 42, 43, 44, 45, 46, 56, 57, 58, 59, 60, 61, 62, 65, 66, 67, 68] (by decide +kernel) (by decide +kernel)
set_option maxRecDepth 20000 in
theorem gX7_restore_X0_become : GoodIn wsX7_restore (wsV RX7 213 RX0 yX0_become wsX0_become) := goodIn_app (goodIn_of _ (by decide +kernel)) ggX7_restore_X0_become
theorem dX7_restore_0 : decode cX7_restore 0 = .ok (.iload_n 1, 1) := by decide +kernel
theorem dX7_restore_1 : decode cX7_restore 1 = .ok (.ifCond .eq 11, 3) := by decide +kernel
theorem dX7_restore_4 : decode cX7_restore 4 = .ok (.iload_n 1, 1) := by decide +kernel
theorem dX7_restore_5 : decode cX7_restore 5 = .ok (.iconst 1, 1) := by decide +kernel
theorem dX7_restore_6 : decode cX7_restore 6 = .ok (.if_icmp .eq 6, 3) := by decide +kernel
theorem dX7_restore_9 : decode cX7_restore 9 = .ok (.bipush (-2), 2) := by decide +kernel
theorem dX7_restore_11 : decode cX7_restore 11 = .ok (.ireturn, 1) := by decide +kernel
theorem dX7_restore_12 : decode cX7_restore 12 = .ok (.iload_n 1, 1) := by decide +kernel
theorem dX7_restore_13 : decode cX7_restore 13 = .ok (.ifCond .ne 10, 3) := by decide +kernel
theorem dX7_restore_16 : decode cX7_restore 16 = .ok (.aload_n 0, 1) := by decide +kernel
theorem dX7_restore_17 : decode cX7_restore 17 = .ok (.getfield 26, 3) := by decide +kernel
theorem dX7_restore_20 : decode cX7_restore 20 = .ok (.goto 7, 3) := by decide +kernel
theorem dX7_restore_23 : decode cX7_restore 23 = .ok (.aload_n 0, 1) := by decide +kernel
theorem dX7_restore_24 : decode cX7_restore 24 = .ok (.getfield 30, 3) := by decide +kernel
theorem dX7_restore_27 : decode cX7_restore 27 = .ok (.astore_n 2, 1) := by decide +kernel
theorem dX7_restore_28 : decode cX7_restore 28 = .ok (.aload_n 2, 1) := by decide +kernel
theorem dX7_restore_29 : decode cX7_restore 29 = .ok (.getfield 215, 3) := by decide +kernel
theorem dX7_restore_32 : decode cX7_restore 32 = .ok (.ifCond .ne 6, 3) := by decide +kernel
theorem dX7_restore_35 : decode cX7_restore 35 = .ok (.bipush (-5), 2) := by decide +kernel
theorem dX7_restore_37 : decode cX7_restore 37 = .ok (.ireturn, 1) := by decide +kernel
theorem dX7_restore_38 : decode cX7_restore 38 = .ok (.aload_n 0, 1) := by decide +kernel
theorem dX7_restore_39 : decode cX7_restore 39 = .ok (.getfield 19, 3) := by decide +kernel
theorem dX7_restore_42 : decode cX7_restore 42 = .ok (.aload_n 0, 1) := by decide +kernel
theorem dX7_restore_43 : decode cX7_restore 43 = .ok (.getfield 10, 3) := by decide +kernel
theorem dX7_restore_46 : decode cX7_restore 46 = .ok (.invokevirtual 51, 3) := by decide +kernel
theorem dX7_restore_49 : decode cX7_restore 49 = .ok (.aload_n 0, 1) := by decide +kernel
theorem dX7_restore_50 : decode cX7_restore 50 = .ok (.getfield 10, 3) := by decide +kernel
theorem dX7_restore_53 : decode cX7_restore 53 = .ok (.aload_n 2, 1) := by decide +kernel
theorem dX7_restore_54 : decode cX7_restore 54 = .ok (.getfield 210, 3) := by decide +kernel
theorem dX7_restore_57 : decode cX7_restore 57 = .ok (.invokevirtual 213, 3) := by decide +kernel
theorem dX7_restore_60 : decode cX7_restore 60 = .ok (.aload_n 0, 1) := by decide +kernel
theorem dX7_restore_61 : decode cX7_restore 61 = .ok (.getfield 10, 3) := by decide +kernel
theorem dX7_restore_64 : decode cX7_restore 64 = .ok (.getfield 106, 3) := by decide +kernel
theorem dX7_restore_67 : decode cX7_restore 67 = .ok (.ireturn, 1) := by decide +kernel
set_option maxRecDepth 20000 in
theorem ggX7_carryOutOrder_X0_errorOfHours : GoodIn wsX7_carryOutOrder wsX0_errorOfHours := goodIn_r _ [7, 8, 9, 10, 11, 12, 13, 106, 107, 108, 109, 110, 111, 112] (by decide +kernel) (by decide +kernel)
set_option maxRecDepth 20000 in
theorem gX7_carryOutOrder_X0_errorOfHours : GoodIn wsX7_carryOutOrder (wsV RX7 65 RX0 yX0_errorOfHours wsX0_errorOfHours) := goodIn_app (goodIn_of _ (by decide +kernel)) ggX7_carryOutOrder_X0_errorOfHours
set_option maxRecDepth 20000 in
theorem ggX7_carryOutOrder_X0_goHours : GoodIn wsX7_carryOutOrder wsX0_goHours := goodIn_r _ [17, 18, 19, 20, 21, 6, 22, 23, 24, 25, 26, 8, 27, 28, 29, 30, 31, 32, 33, 34, 35, 36, 37, 38, 39, 40, 41, 42, 43, 44, 45, 46, 47, 48, 49, 50, 51, 52, 53, 54, 55, 56, 57, 58, 59, 60, 61, 62, 63, 64, 65, 66, 67, 68, 69, 70, 71, 72, 73, 74, 106, 107, 108, 109, 110, 111, 112, 113, 114, 115, 116] (by decide +kernel) (by decide +kernel)
set_option maxRecDepth 20000 in
theorem gX7_carryOutOrder_X0_goHours : GoodIn wsX7_carryOutOrder (wsV RX7 69 RX0 yX0_goHours wsX0_goHours) := goodIn_app (goodIn_of _ (by decide +kernel)) ggX7_carryOutOrder_X0_goHours
set_option maxRecDepth 20000 in
theorem ggX7_carryOutOrder_X0_errorOfWeight : GoodIn wsX7_carryOutOrder wsX0_errorOfWeight := goodIn_r _ [78] (by decide +kernel) (by decide +kernel)
set_option maxRecDepth 20000 in
theorem gX7_carryOutOrder_X0_errorOfWeight : GoodIn wsX7_carryOutOrder (wsV RX7 58 RX0 yX0_errorOfWeight wsX0_errorOfWeight) := goodIn_app (goodIn_of _ (by decide +kernel)) ggX7_carryOutOrder_X0_errorOfWeight
set_option maxRecDepth 20000 in
theorem ggX7_carryOutOrder_X0_moveWeight : GoodIn wsX7_carryOutOrder wsX0_moveWeight := goodIn_r _ [82, 26, 106, 107, 108, 109, 110, 111, 112] (by decide +kernel) (by decide +kernel)
set_option maxRecDepth 20000 in
theorem gX7_carryOutOrder_X0_moveWeight : GoodIn wsX7_carryOutOrder (wsV RX7 62 RX0 yX0_moveWeight wsX0_moveWeight) := goodIn_app (goodIn_of _ (by decide +kernel)) ggX7_carryOutOrder_X0_moveWeight
set_option maxRecDepth 20000 in
theorem ggX7_carryOutOrder_X0_errorOfSetting : GoodIn wsX7_carryOutOrder wsX0_errorOfSetting := goodIn_r _ [86] (by decide +kernel) (by decide +kernel)
set_option maxRecDepth 20000 in
theorem gX7_carryOutOrder_X0_errorOfSetting : GoodIn wsX7_carryOutOrder (wsV RX7 47 RX0 yX0_errorOfSetting wsX0_errorOfSetting) := goodIn_app (goodIn_of _ (by decide +kernel)) ggX7_carryOutOrder_X0_errorOfSetting
set_option maxRecDepth 20000 in
theorem ggX7_carryOutOrder_X0_changeSetting : GoodIn wsX7_carryOutOrder wsX0_changeSetting := goodIn_r _ [90, 40, 36, 37, 38, 6, 39, 106, 107, 108, 109, 110, 111, 112] (by decide +kernel) (by decide +kernel)
set_option maxRecDepth 20000 in
theorem gX7_carryOutOrder_X0_changeSetting : GoodIn wsX7_carryOutOrder (wsV RX7 55 RX0 yX0_changeSetting wsX0_changeSetting) := goodIn_app (goodIn_of _ (by decide +kernel)) ggX7_carryOutOrder_X0_changeSetting
set_option maxRecDepth 20000 in
theorem ggX7_carryOutOrder_X1_clear : GoodIn wsX7_carryOutOrder wsX1_clear := goodIn_r _ [74, 47, 46, 113, 114] (by decide +kernel) (by decide +kernel)
set_option maxRecDepth 20000 in
theorem gX7_carryOutOrder_X1_clear : GoodIn wsX7_carryOutOrder (wsV RX7 79 RX1 yX1_clear wsX1_clear) := goodIn_app (goodIn_of _ (by decide +kernel)) ggX7_carryOutOrder_X1_clear
theorem dX7_carryOutOrder_0 : decode cX7_carryOutOrder 0 = .ok (.aload_n 0, 1) := by decide +kernel
theorem dX7_carryOutOrder_1 : decode cX7_carryOutOrder 1 = .ok (.getfield 36, 3) := by decide +kernel
theorem dX7_carryOutOrder_4 : decode cX7_carryOutOrder 4 = .ok (.getfield 219, 3) := by decide +kernel
theorem dX7_carryOutOrder_7 : decode cX7_carryOutOrder 7 = .ok (.lookupswitch 185 #[(98, 147), (104, 33), (119, 111)], 33) := by decide +kernel
theorem dX7_carryOutOrder_40 : decode cX7_carryOutOrder 40 = .ok (.aload_n 0, 1) := by decide +kernel
theorem dX7_carryOutOrder_41 : decode cX7_carryOutOrder 41 = .ok (.getfield 10, 3) := by decide +kernel
theorem dX7_carryOutOrder_44 : decode cX7_carryOutOrder 44 = .ok (.aload_n 0, 1) := by decide +kernel
theorem dX7_carryOutOrder_45 : decode cX7_carryOutOrder 45 = .ok (.getfield 36, 3) := by decide +kernel
theorem dX7_carryOutOrder_48 : decode cX7_carryOutOrder 48 = .ok (.getfield 222, 3) := by decide +kernel
theorem dX7_carryOutOrder_51 : decode cX7_carryOutOrder 51 = .ok (.aload_n 0, 1) := by decide +kernel
theorem dX7_carryOutOrder_52 : decode cX7_carryOutOrder 52 = .ok (.getfield 36, 3) := by decide +kernel
theorem dX7_carryOutOrder_55 : decode cX7_carryOutOrder 55 = .ok (.getfield 225, 3) := by decide +kernel
theorem dX7_carryOutOrder_58 : decode cX7_carryOutOrder 58 = .ok (.aload_n 0, 1) := by decide +kernel
theorem dX7_carryOutOrder_59 : decode cX7_carryOutOrder 59 = .ok (.getfield 36, 3) := by decide +kernel
theorem dX7_carryOutOrder_62 : decode cX7_carryOutOrder 62 = .ok (.getfield 228, 3) := by decide +kernel
theorem dX7_carryOutOrder_65 : decode cX7_carryOutOrder 65 = .ok (.aload_n 0, 1) := by decide +kernel
theorem dX7_carryOutOrder_66 : decode cX7_carryOutOrder 66 = .ok (.getfield 36, 3) := by decide +kernel
theorem dX7_carryOutOrder_69 : decode cX7_carryOutOrder 69 = .ok (.getfield 231, 3) := by decide +kernel
theorem dX7_carryOutOrder_72 : decode cX7_carryOutOrder 72 = .ok (.invokevirtual 65, 3) := by decide +kernel
theorem dX7_carryOutOrder_75 : decode cX7_carryOutOrder 75 = .ok (.ifCond .eq 5, 3) := by decide +kernel
theorem dX7_carryOutOrder_78 : decode cX7_carryOutOrder 78 = .ok (.iconst 0, 1) := by decide +kernel
theorem dX7_carryOutOrder_79 : decode cX7_carryOutOrder 79 = .ok (.ireturn, 1) := by decide +kernel
theorem dX7_carryOutOrder_80 : decode cX7_carryOutOrder 80 = .ok (.aload_n 0, 1) := by decide +kernel
theorem dX7_carryOutOrder_81 : decode cX7_carryOutOrder 81 = .ok (.getfield 10, 3) := by decide +kernel
theorem dX7_carryOutOrder_84 : decode cX7_carryOutOrder 84 = .ok (.aload_n 0, 1) := by decide +kernel
theorem dX7_carryOutOrder_85 : decode cX7_carryOutOrder 85 = .ok (.getfield 36, 3) := by decide +kernel
theorem dX7_carryOutOrder_88 : decode cX7_carryOutOrder 88 = .ok (.getfield 222, 3) := by decide +kernel
theorem dX7_carryOutOrder_91 : decode cX7_carryOutOrder 91 = .ok (.aload_n 0, 1) := by decide +kernel
theorem dX7_carryOutOrder_92 : decode cX7_carryOutOrder 92 = .ok (.getfield 36, 3) := by decide +kernel
theorem dX7_carryOutOrder_95 : decode cX7_carryOutOrder 95 = .ok (.getfield 225, 3) := by decide +kernel
theorem dX7_carryOutOrder_98 : decode cX7_carryOutOrder 98 = .ok (.aload_n 0, 1) := by decide +kernel
theorem dX7_carryOutOrder_99 : decode cX7_carryOutOrder 99 = .ok (.getfield 36, 3) := by decide +kernel
theorem dX7_carryOutOrder_102 : decode cX7_carryOutOrder 102 = .ok (.getfield 228, 3) := by decide +kernel
theorem dX7_carryOutOrder_105 : decode cX7_carryOutOrder 105 = .ok (.aload_n 0, 1) := by decide +kernel
theorem dX7_carryOutOrder_106 : decode cX7_carryOutOrder 106 = .ok (.getfield 36, 3) := by decide +kernel
theorem dX7_carryOutOrder_109 : decode cX7_carryOutOrder 109 = .ok (.getfield 231, 3) := by decide +kernel
theorem dX7_carryOutOrder_112 : decode cX7_carryOutOrder 112 = .ok (.invokevirtual 69, 3) := by decide +kernel
theorem dX7_carryOutOrder_115 : decode cX7_carryOutOrder 115 = .ok (.pop, 1) := by decide +kernel
theorem dX7_carryOutOrder_116 : decode cX7_carryOutOrder 116 = .ok (.iconst 1, 1) := by decide +kernel
theorem dX7_carryOutOrder_117 : decode cX7_carryOutOrder 117 = .ok (.ireturn, 1) := by decide +kernel
theorem dX7_carryOutOrder_118 : decode cX7_carryOutOrder 118 = .ok (.aload_n 0, 1) := by decide +kernel
theorem dX7_carryOutOrder_119 : decode cX7_carryOutOrder 119 = .ok (.getfield 10, 3) := by decide +kernel
theorem dX7_carryOutOrder_122 : decode cX7_carryOutOrder 122 = .ok (.aload_n 0, 1) := by decide +kernel
theorem dX7_carryOutOrder_123 : decode cX7_carryOutOrder 123 = .ok (.getfield 36, 3) := by decide +kernel
theorem dX7_carryOutOrder_126 : decode cX7_carryOutOrder 126 = .ok (.getfield 222, 3) := by decide +kernel
theorem dX7_carryOutOrder_129 : decode cX7_carryOutOrder 129 = .ok (.invokevirtual 58, 3) := by decide +kernel
theorem dX7_carryOutOrder_132 : decode cX7_carryOutOrder 132 = .ok (.ifCond .eq 5, 3) := by decide +kernel
theorem dX7_carryOutOrder_135 : decode cX7_carryOutOrder 135 = .ok (.iconst 0, 1) := by decide +kernel
theorem dX7_carryOutOrder_136 : decode cX7_carryOutOrder 136 = .ok (.ireturn, 1) := by decide +kernel
theorem dX7_carryOutOrder_137 : decode cX7_carryOutOrder 137 = .ok (.aload_n 0, 1) := by decide +kernel
theorem dX7_carryOutOrder_138 : decode cX7_carryOutOrder 138 = .ok (.getfield 10, 3) := by decide +kernel
theorem dX7_carryOutOrder_141 : decode cX7_carryOutOrder 141 = .ok (.aload_n 0, 1) := by decide +kernel
theorem dX7_carryOutOrder_142 : decode cX7_carryOutOrder 142 = .ok (.getfield 36, 3) := by decide +kernel
theorem dX7_carryOutOrder_145 : decode cX7_carryOutOrder 145 = .ok (.getfield 222, 3) := by decide +kernel
theorem dX7_carryOutOrder_148 : decode cX7_carryOutOrder 148 = .ok (.invokevirtual 62, 3) := by decide +kernel
theorem dX7_carryOutOrder_151 : decode cX7_carryOutOrder 151 = .ok (.pop, 1) := by decide +kernel
theorem dX7_carryOutOrder_152 : decode cX7_carryOutOrder 152 = .ok (.iconst 1, 1) := by decide +kernel
theorem dX7_carryOutOrder_153 : decode cX7_carryOutOrder 153 = .ok (.ireturn, 1) := by decide +kernel
theorem dX7_carryOutOrder_154 : decode cX7_carryOutOrder 154 = .ok (.aload_n 0, 1) := by decide +kernel
theorem dX7_carryOutOrder_155 : decode cX7_carryOutOrder 155 = .ok (.getfield 10, 3) := by decide +kernel
theorem dX7_carryOutOrder_158 : decode cX7_carryOutOrder 158 = .ok (.iconst 2, 1) := by decide +kernel
theorem dX7_carryOutOrder_159 : decode cX7_carryOutOrder 159 = .ok (.aload_n 0, 1) := by decide +kernel
theorem dX7_carryOutOrder_160 : decode cX7_carryOutOrder 160 = .ok (.getfield 36, 3) := by decide +kernel
theorem dX7_carryOutOrder_163 : decode cX7_carryOutOrder 163 = .ok (.getfield 222, 3) := by decide +kernel
theorem dX7_carryOutOrder_166 : decode cX7_carryOutOrder 166 = .ok (.invokevirtual 47, 3) := by decide +kernel
theorem dX7_carryOutOrder_169 : decode cX7_carryOutOrder 169 = .ok (.ifCond .eq 5, 3) := by decide +kernel
theorem dX7_carryOutOrder_172 : decode cX7_carryOutOrder 172 = .ok (.iconst 0, 1) := by decide +kernel
theorem dX7_carryOutOrder_173 : decode cX7_carryOutOrder 173 = .ok (.ireturn, 1) := by decide +kernel
theorem dX7_carryOutOrder_174 : decode cX7_carryOutOrder 174 = .ok (.aload_n 0, 1) := by decide +kernel
theorem dX7_carryOutOrder_175 : decode cX7_carryOutOrder 175 = .ok (.getfield 10, 3) := by decide +kernel
theorem dX7_carryOutOrder_178 : decode cX7_carryOutOrder 178 = .ok (.iconst 2, 1) := by decide +kernel
theorem dX7_carryOutOrder_179 : decode cX7_carryOutOrder 179 = .ok (.aload_n 0, 1) := by decide +kernel
theorem dX7_carryOutOrder_180 : decode cX7_carryOutOrder 180 = .ok (.getfield 36, 3) := by decide +kernel
theorem dX7_carryOutOrder_183 : decode cX7_carryOutOrder 183 = .ok (.getfield 222, 3) := by decide +kernel
theorem dX7_carryOutOrder_186 : decode cX7_carryOutOrder 186 = .ok (.invokevirtual 55, 3) := by decide +kernel
theorem dX7_carryOutOrder_189 : decode cX7_carryOutOrder 189 = .ok (.pop, 1) := by decide +kernel
theorem dX7_carryOutOrder_190 : decode cX7_carryOutOrder 190 = .ok (.iconst 1, 1) := by decide +kernel
theorem dX7_carryOutOrder_191 : decode cX7_carryOutOrder 191 = .ok (.ireturn, 1) := by decide +kernel
theorem dX7_carryOutOrder_192 : decode cX7_carryOutOrder 192 = .ok (.aload_n 0, 1) := by decide +kernel
theorem dX7_carryOutOrder_193 : decode cX7_carryOutOrder 193 = .ok (.getfield 10, 3) := by decide +kernel
theorem dX7_carryOutOrder_196 : decode cX7_carryOutOrder 196 = .ok (.getfield 72, 3) := by decide +kernel
theorem dX7_carryOutOrder_199 : decode cX7_carryOutOrder 199 = .ok (.invokevirtual 79, 3) := by decide +kernel
theorem dX7_carryOutOrder_202 : decode cX7_carryOutOrder 202 = .ok (.iconst 1, 1) := by decide +kernel
theorem dX7_carryOutOrder_203 : decode cX7_carryOutOrder 203 = .ok (.ireturn, 1) := by decide +kernel
theorem dX7_isHeat_0 : decode cX7_isHeat 0 = .ok (.iload_n 0, 1) := by decide +kernel
theorem dX7_isHeat_1 : decode cX7_isHeat 1 = .ok (.bipush (-20), 2) := by decide +kernel
theorem dX7_isHeat_3 : decode cX7_isHeat 3 = .ok (.if_icmp .lt 13, 3) := by decide +kernel
theorem dX7_isHeat_6 : decode cX7_isHeat 6 = .ok (.iload_n 0, 1) := by decide +kernel
theorem dX7_isHeat_7 : decode cX7_isHeat 7 = .ok (.bipush 50, 2) := by decide +kernel
theorem dX7_isHeat_9 : decode cX7_isHeat 9 = .ok (.if_icmp .gt 7, 3) := by decide +kernel
theorem dX7_isHeat_12 : decode cX7_isHeat 12 = .ok (.iconst 1, 1) := by decide +kernel
theorem dX7_isHeat_13 : decode cX7_isHeat 13 = .ok (.goto 4, 3) := by decide +kernel
theorem dX7_isHeat_16 : decode cX7_isHeat 16 = .ok (.iconst 0, 1) := by decide +kernel
theorem dX7_isHeat_17 : decode cX7_isHeat 17 = .ok (.ireturn, 1) := by decide +kernel
theorem dX7_isAir_0 : decode cX7_isAir 0 = .ok (.iload_n 0, 1) := by decide +kernel
theorem dX7_isAir_1 : decode cX7_isAir 1 = .ok (.sipush 800, 3) := by decide +kernel
theorem dX7_isAir_4 : decode cX7_isAir 4 = .ok (.if_icmp .lt 14, 3) := by decide +kernel
theorem dX7_isAir_7 : decode cX7_isAir 7 = .ok (.iload_n 0, 1) := by decide +kernel
theorem dX7_isAir_8 : decode cX7_isAir 8 = .ok (.sipush 1200, 3) := by decide +kernel
theorem dX7_isAir_11 : decode cX7_isAir 11 = .ok (.if_icmp .gt 7, 3) := by decide +kernel
theorem dX7_isAir_14 : decode cX7_isAir 14 = .ok (.iconst 1, 1) := by decide +kernel
theorem dX7_isAir_15 : decode cX7_isAir 15 = .ok (.goto 4, 3) := by decide +kernel
theorem dX7_isAir_18 : decode cX7_isAir 18 = .ok (.iconst 0, 1) := by decide +kernel
theorem dX7_isAir_19 : decode cX7_isAir 19 = .ok (.ireturn, 1) := by decide +kernel
theorem dX7_codeAt_0 : decode cX7_codeAt 0 = .ok (.lload_n 0, 1) := by decide +kernel
theorem dX7_codeAt_1 : decode cX7_codeAt 1 = .ok (.bipush 8, 2) := by decide +kernel
theorem dX7_codeAt_3 : decode cX7_codeAt 3 = .ok (.iload_n 2, 1) := by decide +kernel
theorem dX7_codeAt_4 : decode cX7_codeAt 4 = .ok (.imul, 1) := by decide +kernel
theorem dX7_codeAt_5 : decode cX7_codeAt 5 = .ok (.lushr, 1) := by decide +kernel
theorem dX7_codeAt_6 : decode cX7_codeAt 6 = .ok (.l2i, 1) := by decide +kernel
theorem dX7_codeAt_7 : decode cX7_codeAt 7 = .ok (.sipush 255, 3) := by decide +kernel
theorem dX7_codeAt_10 : decode cX7_codeAt 10 = .ok (.iand, 1) := by decide +kernel
theorem dX7_codeAt_11 : decode cX7_codeAt 11 = .ok (.ireturn, 1) := by decide +kernel
set_option maxRecDepth 20000 in
theorem ggX7_signsIn_X7_codeAt : GoodIn wsX7_signsIn wsX7_codeAt := goodIn_r _ [4] (by decide +kernel) (by decide +kernel)
set_option maxRecDepth 20000 in
theorem gX7_signsIn_X7_codeAt : GoodIn wsX7_signsIn (va_wsS RX7 182 yX7_codeAt wsX7_codeAt) := goodIn_app (goodIn_of _ (by decide +kernel)) ggX7_signsIn_X7_codeAt
theorem dX7_signsIn_0 : decode cX7_signsIn 0 = .ok (.iconst 0, 1) := by decide +kernel
theorem dX7_signsIn_1 : decode cX7_signsIn 1 = .ok (.istore_n 2, 1) := by decide +kernel
theorem dX7_signsIn_2 : decode cX7_signsIn 2 = .ok (.iload_n 2, 1) := by decide +kernel
theorem dX7_signsIn_3 : decode cX7_signsIn 3 = .ok (.bipush 8, 2) := by decide +kernel
theorem dX7_signsIn_5 : decode cX7_signsIn 5 = .ok (.if_icmp .ge 50, 3) := by decide +kernel
theorem dX7_signsIn_8 : decode cX7_signsIn 8 = .ok (.lload_n 0, 1) := by decide +kernel
theorem dX7_signsIn_9 : decode cX7_signsIn 9 = .ok (.iload_n 2, 1) := by decide +kernel
theorem dX7_signsIn_10 : decode cX7_signsIn 10 = .ok (.invokestatic 182, 3) := by decide +kernel
theorem dX7_signsIn_13 : decode cX7_signsIn 13 = .ok (.istore_n 3, 1) := by decide +kernel
theorem dX7_signsIn_14 : decode cX7_signsIn 14 = .ok (.iload_n 3, 1) := by decide +kernel
theorem dX7_signsIn_15 : decode cX7_signsIn 15 = .ok (.ifCond .ne 20, 3) := by decide +kernel
theorem dX7_signsIn_18 : decode cX7_signsIn 18 = .ok (.lload_n 0, 1) := by decide +kernel
theorem dX7_signsIn_19 : decode cX7_signsIn 19 = .ok (.bipush 8, 2) := by decide +kernel
theorem dX7_signsIn_21 : decode cX7_signsIn 21 = .ok (.iload_n 2, 1) := by decide +kernel
theorem dX7_signsIn_22 : decode cX7_signsIn 22 = .ok (.imul, 1) := by decide +kernel
theorem dX7_signsIn_23 : decode cX7_signsIn 23 = .ok (.lushr, 1) := by decide +kernel
theorem dX7_signsIn_24 : decode cX7_signsIn 24 = .ok (.lconst 0, 1) := by decide +kernel
theorem dX7_signsIn_25 : decode cX7_signsIn 25 = .ok (.lcmp, 1) := by decide +kernel
theorem dX7_signsIn_26 : decode cX7_signsIn 26 = .ok (.ifCond .ne 7, 3) := by decide +kernel
theorem dX7_signsIn_29 : decode cX7_signsIn 29 = .ok (.iload_n 2, 1) := by decide +kernel
theorem dX7_signsIn_30 : decode cX7_signsIn 30 = .ok (.goto 4, 3) := by decide +kernel
theorem dX7_signsIn_33 : decode cX7_signsIn 33 = .ok (.iconst 0, 1) := by decide +kernel
theorem dX7_signsIn_34 : decode cX7_signsIn 34 = .ok (.ireturn, 1) := by decide +kernel
theorem dX7_signsIn_35 : decode cX7_signsIn 35 = .ok (.iload_n 3, 1) := by decide +kernel
theorem dX7_signsIn_36 : decode cX7_signsIn 36 = .ok (.bipush 33, 2) := by decide +kernel
theorem dX7_signsIn_38 : decode cX7_signsIn 38 = .ok (.if_icmp .lt 9, 3) := by decide +kernel
theorem dX7_signsIn_41 : decode cX7_signsIn 41 = .ok (.iload_n 3, 1) := by decide +kernel
theorem dX7_signsIn_42 : decode cX7_signsIn 42 = .ok (.bipush 126, 2) := by decide +kernel
theorem dX7_signsIn_44 : decode cX7_signsIn 44 = .ok (.if_icmp .le 5, 3) := by decide +kernel
theorem dX7_signsIn_47 : decode cX7_signsIn 47 = .ok (.iconst 0, 1) := by decide +kernel
theorem dX7_signsIn_48 : decode cX7_signsIn 48 = .ok (.ireturn, 1) := by decide +kernel
theorem dX7_signsIn_49 : decode cX7_signsIn 49 = .ok (.iinc 2 1, 3) := by decide +kernel
theorem dX7_signsIn_52 : decode cX7_signsIn 52 = .ok (.goto (-50), 3) := by decide +kernel
theorem dX7_signsIn_55 : decode cX7_signsIn 55 = .ok (.bipush 8, 2) := by decide +kernel
theorem dX7_signsIn_57 : decode cX7_signsIn 57 = .ok (.ireturn, 1) := by decide +kernel
theorem dX7_bitsOf_0 : decode cX7_bitsOf 0 = .ok (.dload_n 0, 1) := by decide +kernel
theorem dX7_bitsOf_1 : decode cX7_bitsOf 1 = .ok (.dconst 0, 1) := by decide +kernel
theorem dX7_bitsOf_2 : decode cX7_bitsOf 2 = .ok (.dcmp .l, 1) := by decide +kernel
theorem dX7_bitsOf_3 : decode cX7_bitsOf 3 = .ok (.ifCond .ne 5, 3) := by decide +kernel
theorem dX7_bitsOf_6 : decode cX7_bitsOf 6 = .ok (.lconst 0, 1) := by decide +kernel
theorem dX7_bitsOf_7 : decode cX7_bitsOf 7 = .ok (.lreturn, 1) := by decide +kernel
theorem dX7_bitsOf_8 : decode cX7_bitsOf 8 = .ok (.dload_n 0, 1) := by decide +kernel
theorem dX7_bitsOf_9 : decode cX7_bitsOf 9 = .ok (.dconst 0, 1) := by decide +kernel
theorem dX7_bitsOf_10 : decode cX7_bitsOf 10 = .ok (.dcmp .g, 1) := by decide +kernel
theorem dX7_bitsOf_11 : decode cX7_bitsOf 11 = .ok (.ifCond .ge 8, 3) := by decide +kernel
theorem dX7_bitsOf_14 : decode cX7_bitsOf 14 = .ok (.dload_n 0, 1) := by decide +kernel
theorem dX7_bitsOf_15 : decode cX7_bitsOf 15 = .ok (.dneg, 1) := by decide +kernel
theorem dX7_bitsOf_16 : decode cX7_bitsOf 16 = .ok (.goto 4, 3) := by decide +kernel
theorem dX7_bitsOf_19 : decode cX7_bitsOf 19 = .ok (.dload_n 0, 1) := by decide +kernel
theorem dX7_bitsOf_20 : decode cX7_bitsOf 20 = .ok (.dstore_n 2, 1) := by decide +kernel
theorem dX7_bitsOf_21 : decode cX7_bitsOf 21 = .ok (.ldc2_w 232, 3) := by decide +kernel
theorem dX7_bitsOf_24 : decode cX7_bitsOf 24 = .ok (.lstore 4, 2) := by decide +kernel
theorem dX7_bitsOf_26 : decode cX7_bitsOf 26 = .ok (.iconst 0, 1) := by decide +kernel
theorem dX7_bitsOf_27 : decode cX7_bitsOf 27 = .ok (.istore 6, 2) := by decide +kernel
theorem dX7_bitsOf_29 : decode cX7_bitsOf 29 = .ok (.iload 6, 2) := by decide +kernel
theorem dX7_bitsOf_31 : decode cX7_bitsOf 31 = .ok (.bipush 64, 2) := by decide +kernel
theorem dX7_bitsOf_33 : decode cX7_bitsOf 33 = .ok (.if_icmp .ge 29, 3) := by decide +kernel
theorem dX7_bitsOf_36 : decode cX7_bitsOf 36 = .ok (.dload_n 2, 1) := by decide +kernel
theorem dX7_bitsOf_37 : decode cX7_bitsOf 37 = .ok (.ldc2_w 234, 3) := by decide +kernel
theorem dX7_bitsOf_40 : decode cX7_bitsOf 40 = .ok (.dcmp .g, 1) := by decide +kernel
theorem dX7_bitsOf_41 : decode cX7_bitsOf 41 = .ok (.ifCond .ge 21, 3) := by decide +kernel
theorem dX7_bitsOf_44 : decode cX7_bitsOf 44 = .ok (.dload_n 2, 1) := by decide +kernel
theorem dX7_bitsOf_45 : decode cX7_bitsOf 45 = .ok (.ldc2_w 236, 3) := by decide +kernel
theorem dX7_bitsOf_48 : decode cX7_bitsOf 48 = .ok (.dmul, 1) := by decide +kernel
theorem dX7_bitsOf_49 : decode cX7_bitsOf 49 = .ok (.dstore_n 2, 1) := by decide +kernel
theorem dX7_bitsOf_50 : decode cX7_bitsOf 50 = .ok (.lload 4, 2) := by decide +kernel
theorem dX7_bitsOf_52 : decode cX7_bitsOf 52 = .ok (.lconst 1, 1) := by decide +kernel
theorem dX7_bitsOf_53 : decode cX7_bitsOf 53 = .ok (.lsub, 1) := by decide +kernel
theorem dX7_bitsOf_54 : decode cX7_bitsOf 54 = .ok (.lstore 4, 2) := by decide +kernel
theorem dX7_bitsOf_56 : decode cX7_bitsOf 56 = .ok (.iinc 6 1, 3) := by decide +kernel
theorem dX7_bitsOf_59 : decode cX7_bitsOf 59 = .ok (.goto (-30), 3) := by decide +kernel
theorem dX7_bitsOf_62 : decode cX7_bitsOf 62 = .ok (.dload_n 0, 1) := by decide +kernel
theorem dX7_bitsOf_63 : decode cX7_bitsOf 63 = .ok (.dconst 0, 1) := by decide +kernel
theorem dX7_bitsOf_64 : decode cX7_bitsOf 64 = .ok (.dcmp .g, 1) := by decide +kernel
theorem dX7_bitsOf_65 : decode cX7_bitsOf 65 = .ok (.ifCond .ge 9, 3) := by decide +kernel
theorem dX7_bitsOf_68 : decode cX7_bitsOf 68 = .ok (.ldc2_w 238, 3) := by decide +kernel
theorem dX7_bitsOf_71 : decode cX7_bitsOf 71 = .ok (.goto 4, 3) := by decide +kernel
theorem dX7_bitsOf_74 : decode cX7_bitsOf 74 = .ok (.lconst 0, 1) := by decide +kernel
theorem dX7_bitsOf_75 : decode cX7_bitsOf 75 = .ok (.lstore 6, 2) := by decide +kernel
theorem dX7_bitsOf_77 : decode cX7_bitsOf 77 = .ok (.lload 6, 2) := by decide +kernel
theorem dX7_bitsOf_79 : decode cX7_bitsOf 79 = .ok (.lload 4, 2) := by decide +kernel
theorem dX7_bitsOf_81 : decode cX7_bitsOf 81 = .ok (.bipush 52, 2) := by decide +kernel
theorem dX7_bitsOf_83 : decode cX7_bitsOf 83 = .ok (.lshl, 1) := by decide +kernel
theorem dX7_bitsOf_84 : decode cX7_bitsOf 84 = .ok (.lor, 1) := by decide +kernel
theorem dX7_bitsOf_85 : decode cX7_bitsOf 85 = .ok (.dload_n 2, 1) := by decide +kernel
theorem dX7_bitsOf_86 : decode cX7_bitsOf 86 = .ok (.d2l, 1) := by decide +kernel
theorem dX7_bitsOf_87 : decode cX7_bitsOf 87 = .ok (.ldc2_w 240, 3) := by decide +kernel
theorem dX7_bitsOf_90 : decode cX7_bitsOf 90 = .ok (.lsub, 1) := by decide +kernel
theorem dX7_bitsOf_91 : decode cX7_bitsOf 91 = .ok (.lor, 1) := by decide +kernel
theorem dX7_bitsOf_92 : decode cX7_bitsOf 92 = .ok (.lreturn, 1) := by decide +kernel
theorem dX8_init_0 : decode cX8_init 0 = .ok (.aload_n 0, 1) := by decide +kernel
theorem dX8_init_1 : decode cX8_init 1 = .ok (.invokespecial 1, 3) := by decide +kernel
theorem dX8_init_4 : decode cX8_init 4 = .ok (.aload_n 0, 1) := by decide +kernel
theorem dX8_init_5 : decode cX8_init 5 = .ok (.sipush 347, 3) := by decide +kernel
theorem dX8_init_8 : decode cX8_init 8 = .ok (.newarray .int, 2) := by decide +kernel
theorem dX8_init_10 : decode cX8_init 10 = .ok (.putfield 7, 3) := by decide +kernel
theorem dX8_init_13 : decode cX8_init 13 = .ok (.aload_n 0, 1) := by decide +kernel
theorem dX8_init_14 : decode cX8_init 14 = .ok (.sipush 347, 3) := by decide +kernel
theorem dX8_init_17 : decode cX8_init 17 = .ok (.newarray .int, 2) := by decide +kernel
theorem dX8_init_19 : decode cX8_init 19 = .ok (.putfield 13, 3) := by decide +kernel
theorem dX8_init_22 : decode cX8_init 22 = .ok (.aload_n 0, 1) := by decide +kernel
theorem dX8_init_23 : decode cX8_init 23 = .ok (.sipush 2082, 3) := by decide +kernel
theorem dX8_init_26 : decode cX8_init 26 = .ok (.newarray .int, 2) := by decide +kernel
theorem dX8_init_28 : decode cX8_init 28 = .ok (.putfield 16, 3) := by decide +kernel
theorem dX8_init_31 : decode cX8_init 31 = .ok (.aload_n 0, 1) := by decide +kernel
theorem dX8_init_32 : decode cX8_init 32 = .ok (.sipush 694, 3) := by decide +kernel
theorem dX8_init_35 : decode cX8_init 35 = .ok (.newarray .int, 2) := by decide +kernel
theorem dX8_init_37 : decode cX8_init 37 = .ok (.putfield 19, 3) := by decide +kernel
theorem dX8_init_40 : decode cX8_init 40 = .ok (.aload_n 0, 1) := by decide +kernel
theorem dX8_init_41 : decode cX8_init 41 = .ok (.iconst 2, 1) := by decide +kernel
theorem dX8_init_42 : decode cX8_init 42 = .ok (.newarray .int, 2) := by decide +kernel
theorem dX8_init_44 : decode cX8_init 44 = .ok (.putfield 22, 3) := by decide +kernel
theorem dX8_init_47 : decode cX8_init 47 = .ok (.aload_n 0, 1) := by decide +kernel
theorem dX8_init_48 : decode cX8_init 48 = .ok (.bipush 80, 2) := by decide +kernel
theorem dX8_init_50 : decode cX8_init 50 = .ok (.newarray .int, 2) := by decide +kernel
theorem dX8_init_52 : decode cX8_init 52 = .ok (.putfield 25, 3) := by decide +kernel
theorem dX8_init_55 : decode cX8_init 55 = .ok (.aload_n 0, 1) := by decide +kernel
theorem dX8_init_56 : decode cX8_init 56 = .ok (.getfield 7, 3) := by decide +kernel
theorem dX8_init_59 : decode cX8_init 59 = .ok (.iconst 0, 1) := by decide +kernel
theorem dX8_init_60 : decode cX8_init 60 = .ok (.bipush 12, 2) := by decide +kernel
theorem dX8_init_62 : decode cX8_init 62 = .ok (.iastore, 1) := by decide +kernel
theorem dX8_init_63 : decode cX8_init 63 = .ok (.aload_n 0, 1) := by decide +kernel
theorem dX8_init_64 : decode cX8_init 64 = .ok (.getfield 7, 3) := by decide +kernel
theorem dX8_init_67 : decode cX8_init 67 = .ok (.iconst 1, 1) := by decide +kernel
theorem dX8_init_68 : decode cX8_init 68 = .ok (.bipush 15, 2) := by decide +kernel
theorem dX8_init_70 : decode cX8_init 70 = .ok (.iastore, 1) := by decide +kernel
theorem dX8_init_71 : decode cX8_init 71 = .ok (.aload_n 0, 1) := by decide +kernel
theorem dX8_init_72 : decode cX8_init 72 = .ok (.getfield 7, 3) := by decide +kernel
theorem dX8_init_75 : decode cX8_init 75 = .ok (.iconst 3, 1) := by decide +kernel
theorem dX8_init_76 : decode cX8_init 76 = .ok (.sipush 500, 3) := by decide +kernel
theorem dX8_init_79 : decode cX8_init 79 = .ok (.iastore, 1) := by decide +kernel
theorem dX8_init_80 : decode cX8_init 80 = .ok (.return_, 1) := by decide +kernel
theorem dX8_in_0 : decode cX8_in 0 = .ok (.lload_n 0, 1) := by decide +kernel
theorem dX8_in_1 : decode cX8_in 1 = .ok (.lload_n 2, 1) := by decide +kernel
theorem dX8_in_2 : decode cX8_in 2 = .ok (.lcmp, 1) := by decide +kernel
theorem dX8_in_3 : decode cX8_in 3 = .ok (.ifCond .lt 14, 3) := by decide +kernel
theorem dX8_in_6 : decode cX8_in 6 = .ok (.lload_n 0, 1) := by decide +kernel
theorem dX8_in_7 : decode cX8_in 7 = .ok (.lload 4, 2) := by decide +kernel
theorem dX8_in_9 : decode cX8_in 9 = .ok (.lcmp, 1) := by decide +kernel
theorem dX8_in_10 : decode cX8_in 10 = .ok (.ifCond .gt 7, 3) := by decide +kernel
theorem dX8_in_13 : decode cX8_in 13 = .ok (.iconst 1, 1) := by decide +kernel
theorem dX8_in_14 : decode cX8_in 14 = .ok (.goto 4, 3) := by decide +kernel
theorem dX8_in_17 : decode cX8_in 17 = .ok (.iconst 0, 1) := by decide +kernel
theorem dX8_in_18 : decode cX8_in 18 = .ok (.ireturn, 1) := by decide +kernel
theorem dX8_keep_0 : decode cX8_keep 0 = .ok (.iconst 0, 1) := by decide +kernel
theorem dX8_keep_1 : decode cX8_keep 1 = .ok (.istore_n 1, 1) := by decide +kernel
theorem dX8_keep_2 : decode cX8_keep 2 = .ok (.iload_n 1, 1) := by decide +kernel
theorem dX8_keep_3 : decode cX8_keep 3 = .ok (.sipush 347, 3) := by decide +kernel
theorem dX8_keep_6 : decode cX8_keep 6 = .ok (.if_icmp .ge 21, 3) := by decide +kernel
theorem dX8_keep_9 : decode cX8_keep 9 = .ok (.aload_n 0, 1) := by decide +kernel
theorem dX8_keep_10 : decode cX8_keep 10 = .ok (.getfield 13, 3) := by decide +kernel
theorem dX8_keep_13 : decode cX8_keep 13 = .ok (.iload_n 1, 1) := by decide +kernel
theorem dX8_keep_14 : decode cX8_keep 14 = .ok (.aload_n 0, 1) := by decide +kernel
theorem dX8_keep_15 : decode cX8_keep 15 = .ok (.getfield 7, 3) := by decide +kernel
theorem dX8_keep_18 : decode cX8_keep 18 = .ok (.iload_n 1, 1) := by decide +kernel
theorem dX8_keep_19 : decode cX8_keep 19 = .ok (.iaload, 1) := by decide +kernel
theorem dX8_keep_20 : decode cX8_keep 20 = .ok (.iastore, 1) := by decide +kernel
theorem dX8_keep_21 : decode cX8_keep 21 = .ok (.iinc 1 1, 3) := by decide +kernel
theorem dX8_keep_24 : decode cX8_keep 24 = .ok (.goto (-22), 3) := by decide +kernel
theorem dX8_keep_27 : decode cX8_keep 27 = .ok (.return_, 1) := by decide +kernel
theorem dX8_changed_0 : decode cX8_changed 0 = .ok (.aload_n 0, 1) := by decide +kernel
theorem dX8_changed_1 : decode cX8_changed 1 = .ok (.getfield 28, 3) := by decide +kernel
theorem dX8_changed_4 : decode cX8_changed 4 = .ok (.bipush 6, 2) := by decide +kernel
theorem dX8_changed_6 : decode cX8_changed 6 = .ok (.if_icmp .ne 44, 3) := by decide +kernel
theorem dX8_changed_9 : decode cX8_changed 9 = .ok (.iconst 0, 1) := by decide +kernel
theorem dX8_changed_10 : decode cX8_changed 10 = .ok (.istore_n 2, 1) := by decide +kernel
theorem dX8_changed_11 : decode cX8_changed 11 = .ok (.iload_n 2, 1) := by decide +kernel
theorem dX8_changed_12 : decode cX8_changed 12 = .ok (.sipush 1735, 3) := by decide +kernel
theorem dX8_changed_15 : decode cX8_changed 15 = .ok (.if_icmp .ge 25, 3) := by decide +kernel
theorem dX8_changed_18 : decode cX8_changed 18 = .ok (.aload_n 0, 1) := by decide +kernel
theorem dX8_changed_19 : decode cX8_changed 19 = .ok (.getfield 16, 3) := by decide +kernel
theorem dX8_changed_22 : decode cX8_changed 22 = .ok (.iload_n 2, 1) := by decide +kernel
theorem dX8_changed_23 : decode cX8_changed 23 = .ok (.aload_n 0, 1) := by decide +kernel
theorem dX8_changed_24 : decode cX8_changed 24 = .ok (.getfield 16, 3) := by decide +kernel
theorem dX8_changed_27 : decode cX8_changed 27 = .ok (.iload_n 2, 1) := by decide +kernel
theorem dX8_changed_28 : decode cX8_changed 28 = .ok (.sipush 347, 3) := by decide +kernel
theorem dX8_changed_31 : decode cX8_changed 31 = .ok (.iadd, 1) := by decide +kernel
theorem dX8_changed_32 : decode cX8_changed 32 = .ok (.iaload, 1) := by decide +kernel
theorem dX8_changed_33 : decode cX8_changed 33 = .ok (.iastore, 1) := by decide +kernel
theorem dX8_changed_34 : decode cX8_changed 34 = .ok (.iinc 2 1, 3) := by decide +kernel
theorem dX8_changed_37 : decode cX8_changed 37 = .ok (.goto (-26), 3) := by decide +kernel
theorem dX8_changed_40 : decode cX8_changed 40 = .ok (.aload_n 0, 1) := by decide +kernel
theorem dX8_changed_41 : decode cX8_changed 41 = .ok (.dup, 1) := by decide +kernel
theorem dX8_changed_42 : decode cX8_changed 42 = .ok (.getfield 28, 3) := by decide +kernel
theorem dX8_changed_45 : decode cX8_changed 45 = .ok (.iconst 1, 1) := by decide +kernel
theorem dX8_changed_46 : decode cX8_changed 46 = .ok (.isub, 1) := by decide +kernel
theorem dX8_changed_47 : decode cX8_changed 47 = .ok (.putfield 28, 3) := by decide +kernel
theorem dX8_changed_50 : decode cX8_changed 50 = .ok (.iconst 0, 1) := by decide +kernel
theorem dX8_changed_51 : decode cX8_changed 51 = .ok (.istore_n 2, 1) := by decide +kernel
theorem dX8_changed_52 : decode cX8_changed 52 = .ok (.iload_n 2, 1) := by decide +kernel
theorem dX8_changed_53 : decode cX8_changed 53 = .ok (.sipush 347, 3) := by decide +kernel
theorem dX8_changed_56 : decode cX8_changed 56 = .ok (.if_icmp .ge 30, 3) := by decide +kernel
theorem dX8_changed_59 : decode cX8_changed 59 = .ok (.aload_n 0, 1) := by decide +kernel
theorem dX8_changed_60 : decode cX8_changed 60 = .ok (.getfield 16, 3) := by decide +kernel
theorem dX8_changed_63 : decode cX8_changed 63 = .ok (.sipush 347, 3) := by decide +kernel
theorem dX8_changed_66 : decode cX8_changed 66 = .ok (.aload_n 0, 1) := by decide +kernel
theorem dX8_changed_67 : decode cX8_changed 67 = .ok (.getfield 28, 3) := by decide +kernel
theorem dX8_changed_70 : decode cX8_changed 70 = .ok (.imul, 1) := by decide +kernel
theorem dX8_changed_71 : decode cX8_changed 71 = .ok (.iload_n 2, 1) := by decide +kernel
theorem dX8_changed_72 : decode cX8_changed 72 = .ok (.iadd, 1) := by decide +kernel
theorem dX8_changed_73 : decode cX8_changed 73 = .ok (.aload_n 0, 1) := by decide +kernel
theorem dX8_changed_74 : decode cX8_changed 74 = .ok (.getfield 13, 3) := by decide +kernel
theorem dX8_changed_77 : decode cX8_changed 77 = .ok (.iload_n 2, 1) := by decide +kernel
theorem dX8_changed_78 : decode cX8_changed 78 = .ok (.iaload, 1) := by decide +kernel
theorem dX8_changed_79 : decode cX8_changed 79 = .ok (.iastore, 1) := by decide +kernel
theorem dX8_changed_80 : decode cX8_changed 80 = .ok (.iinc 2 1, 3) := by decide +kernel
theorem dX8_changed_83 : decode cX8_changed 83 = .ok (.goto (-31), 3) := by decide +kernel
theorem dX8_changed_86 : decode cX8_changed 86 = .ok (.aload_n 0, 1) := by decide +kernel
theorem dX8_changed_87 : decode cX8_changed 87 = .ok (.dup, 1) := by decide +kernel
theorem dX8_changed_88 : decode cX8_changed 88 = .ok (.getfield 28, 3) := by decide +kernel
theorem dX8_changed_91 : decode cX8_changed 91 = .ok (.iconst 1, 1) := by decide +kernel
theorem dX8_changed_92 : decode cX8_changed 92 = .ok (.iadd, 1) := by decide +kernel
theorem dX8_changed_93 : decode cX8_changed 93 = .ok (.putfield 28, 3) := by decide +kernel
theorem dX8_changed_96 : decode cX8_changed 96 = .ok (.iload_n 1, 1) := by decide +kernel
theorem dX8_changed_97 : decode cX8_changed 97 = .ok (.ireturn, 1) := by decide +kernel
set_option maxRecDepth 20000 in
theorem ggX8_isHeat_X8_in : GoodIn wsX8_isHeat wsX8_in := goodIn_r _ [6] (by decide +kernel) (by decide +kernel)
set_option maxRecDepth 20000 in
theorem gX8_isHeat_X8_in : GoodIn wsX8_isHeat (va_wsS RX8 36 yX8_in wsX8_in) := goodIn_app (goodIn_of _ (by decide +kernel)) ggX8_isHeat_X8_in
theorem dX8_isHeat_0 : decode cX8_isHeat 0 = .ok (.iload_n 0, 1) := by decide +kernel
theorem dX8_isHeat_1 : decode cX8_isHeat 1 = .ok (.i2l, 1) := by decide +kernel
theorem dX8_isHeat_2 : decode cX8_isHeat 2 = .ok (.ldc2_w 32, 3) := by decide +kernel
theorem dX8_isHeat_5 : decode cX8_isHeat 5 = .ok (.ldc2_w 34, 3) := by decide +kernel
theorem dX8_isHeat_8 : decode cX8_isHeat 8 = .ok (.invokestatic 36, 3) := by decide +kernel
theorem dX8_isHeat_11 : decode cX8_isHeat 11 = .ok (.ireturn, 1) := by decide +kernel
set_option maxRecDepth 20000 in
theorem ggX8_isAir_X8_in : GoodIn wsX8_isAir wsX8_in := goodIn_r _ [6] (by decide +kernel) (by decide +kernel)
set_option maxRecDepth 20000 in
theorem gX8_isAir_X8_in : GoodIn wsX8_isAir (va_wsS RX8 36 yX8_in wsX8_in) := goodIn_app (goodIn_of _ (by decide +kernel)) ggX8_isAir_X8_in
theorem dX8_isAir_0 : decode cX8_isAir 0 = .ok (.iload_n 0, 1) := by decide +kernel
theorem dX8_isAir_1 : decode cX8_isAir 1 = .ok (.i2l, 1) := by decide +kernel
theorem dX8_isAir_2 : decode cX8_isAir 2 = .ok (.ldc2_w 40, 3) := by decide +kernel
theorem dX8_isAir_5 : decode cX8_isAir 5 = .ok (.ldc2_w 42, 3) := by decide +kernel
theorem dX8_isAir_8 : decode cX8_isAir 8 = .ok (.invokestatic 36, 3) := by decide +kernel
theorem dX8_isAir_11 : decode cX8_isAir 11 = .ok (.ireturn, 1) := by decide +kernel
theorem dX8_rateWith_0 : decode cX8_rateWith 0 = .ok (.aload_n 0, 1) := by decide +kernel
theorem dX8_rateWith_1 : decode cX8_rateWith 1 = .ok (.getfield 7, 3) := by decide +kernel
theorem dX8_rateWith_4 : decode cX8_rateWith 4 = .ok (.iconst 2, 1) := by decide +kernel
theorem dX8_rateWith_5 : decode cX8_rateWith 5 = .ok (.iaload, 1) := by decide +kernel
theorem dX8_rateWith_6 : decode cX8_rateWith 6 = .ok (.aload_n 0, 1) := by decide +kernel
theorem dX8_rateWith_7 : decode cX8_rateWith 7 = .ok (.getfield 7, 3) := by decide +kernel
theorem dX8_rateWith_10 : decode cX8_rateWith 10 = .ok (.iconst 0, 1) := by decide +kernel
theorem dX8_rateWith_11 : decode cX8_rateWith 11 = .ok (.iaload, 1) := by decide +kernel
theorem dX8_rateWith_12 : decode cX8_rateWith 12 = .ok (.iload_n 1, 1) := by decide +kernel
theorem dX8_rateWith_13 : decode cX8_rateWith 13 = .ok (.bipush 20, 2) := by decide +kernel
theorem dX8_rateWith_15 : decode cX8_rateWith 15 = .ok (.isub, 1) := by decide +kernel
theorem dX8_rateWith_16 : decode cX8_rateWith 16 = .ok (.imul, 1) := by decide +kernel
theorem dX8_rateWith_17 : decode cX8_rateWith 17 = .ok (.isub, 1) := by decide +kernel
theorem dX8_rateWith_18 : decode cX8_rateWith 18 = .ok (.aload_n 0, 1) := by decide +kernel
theorem dX8_rateWith_19 : decode cX8_rateWith 19 = .ok (.getfield 7, 3) := by decide +kernel
theorem dX8_rateWith_22 : decode cX8_rateWith 22 = .ok (.iconst 1, 1) := by decide +kernel
theorem dX8_rateWith_23 : decode cX8_rateWith 23 = .ok (.iaload, 1) := by decide +kernel
theorem dX8_rateWith_24 : decode cX8_rateWith 24 = .ok (.iload_n 2, 1) := by decide +kernel
theorem dX8_rateWith_25 : decode cX8_rateWith 25 = .ok (.sipush 1000, 3) := by decide +kernel
theorem dX8_rateWith_28 : decode cX8_rateWith 28 = .ok (.isub, 1) := by decide +kernel
theorem dX8_rateWith_29 : decode cX8_rateWith 29 = .ok (.imul, 1) := by decide +kernel
theorem dX8_rateWith_30 : decode cX8_rateWith 30 = .ok (.bipush 10, 2) := by decide +kernel
theorem dX8_rateWith_32 : decode cX8_rateWith 32 = .ok (.idiv, 1) := by decide +kernel
theorem dX8_rateWith_33 : decode cX8_rateWith 33 = .ok (.isub, 1) := by decide +kernel
theorem dX8_rateWith_34 : decode cX8_rateWith 34 = .ok (.iload_n 3, 1) := by decide +kernel
theorem dX8_rateWith_35 : decode cX8_rateWith 35 = .ok (.iadd, 1) := by decide +kernel
theorem dX8_rateWith_36 : decode cX8_rateWith 36 = .ok (.ireturn, 1) := by decide +kernel
set_option maxRecDepth 20000 in
theorem ggX8_rateNow_X8_rateWith : GoodIn wsX8_rateNow wsX8_rateWith := goodIn_r _ [6, 1, 7, 8, 9, 10, 11, 12, 13, 14, 15, 16, 17, 18, 19, 20] (by decide +kernel) (by decide +kernel)
set_option maxRecDepth 20000 in
theorem gX8_rateNow_X8_rateWith : GoodIn wsX8_rateNow (wsV RX8 44 RX8 yX8_rateWith wsX8_rateWith) := goodIn_app (goodIn_of _ (by decide +kernel)) ggX8_rateNow_X8_rateWith
theorem dX8_rateNow_0 : decode cX8_rateNow 0 = .ok (.aload_n 0, 1) := by decide +kernel
theorem dX8_rateNow_1 : decode cX8_rateNow 1 = .ok (.iload_n 1, 1) := by decide +kernel
theorem dX8_rateNow_2 : decode cX8_rateNow 2 = .ok (.iload_n 2, 1) := by decide +kernel
theorem dX8_rateNow_3 : decode cX8_rateNow 3 = .ok (.aload_n 0, 1) := by decide +kernel
theorem dX8_rateNow_4 : decode cX8_rateNow 4 = .ok (.getfield 7, 3) := by decide +kernel
theorem dX8_rateNow_7 : decode cX8_rateNow 7 = .ok (.bipush 7, 2) := by decide +kernel
theorem dX8_rateNow_9 : decode cX8_rateNow 9 = .ok (.iaload, 1) := by decide +kernel
theorem dX8_rateNow_10 : decode cX8_rateNow 10 = .ok (.invokevirtual 44, 3) := by decide +kernel
theorem dX8_rateNow_13 : decode cX8_rateNow 13 = .ok (.ireturn, 1) := by decide +kernel
theorem dX8_goes_0 : decode cX8_goes 0 = .ok (.iload_n 1, 1) := by decide +kernel
theorem dX8_goes_1 : decode cX8_goes 1 = .ok (.sipush 3600, 3) := by decide +kernel
theorem dX8_goes_4 : decode cX8_goes 4 = .ok (.imul, 1) := by decide +kernel
theorem dX8_goes_5 : decode cX8_goes 5 = .ok (.aload_n 0, 1) := by decide +kernel
theorem dX8_goes_6 : decode cX8_goes 6 = .ok (.getfield 48, 3) := by decide +kernel
theorem dX8_goes_9 : decode cX8_goes 9 = .ok (.iadd, 1) := by decide +kernel
theorem dX8_goes_10 : decode cX8_goes 10 = .ok (.istore_n 2, 1) := by decide +kernel
theorem dX8_goes_11 : decode cX8_goes 11 = .ok (.aload_n 0, 1) := by decide +kernel
theorem dX8_goes_12 : decode cX8_goes 12 = .ok (.dup, 1) := by decide +kernel
theorem dX8_goes_13 : decode cX8_goes 13 = .ok (.getfield 51, 3) := by decide +kernel
theorem dX8_goes_16 : decode cX8_goes 16 = .ok (.iload_n 2, 1) := by decide +kernel
theorem dX8_goes_17 : decode cX8_goes 17 = .ok (.sipush 1000, 3) := by decide +kernel
theorem dX8_goes_20 : decode cX8_goes 20 = .ok (.idiv, 1) := by decide +kernel
theorem dX8_goes_21 : decode cX8_goes 21 = .ok (.iadd, 1) := by decide +kernel
theorem dX8_goes_22 : decode cX8_goes 22 = .ok (.putfield 51, 3) := by decide +kernel
theorem dX8_goes_25 : decode cX8_goes 25 = .ok (.aload_n 0, 1) := by decide +kernel
theorem dX8_goes_26 : decode cX8_goes 26 = .ok (.iload_n 2, 1) := by decide +kernel
theorem dX8_goes_27 : decode cX8_goes 27 = .ok (.sipush 1000, 3) := by decide +kernel
theorem dX8_goes_30 : decode cX8_goes 30 = .ok (.irem, 1) := by decide +kernel
theorem dX8_goes_31 : decode cX8_goes 31 = .ok (.putfield 48, 3) := by decide +kernel
theorem dX8_goes_34 : decode cX8_goes 34 = .ok (.return_, 1) := by decide +kernel
theorem dX8_isTooFar_0 : decode cX8_isTooFar 0 = .ok (.aload_n 0, 1) := by decide +kernel
theorem dX8_isTooFar_1 : decode cX8_isTooFar 1 = .ok (.getfield 51, 3) := by decide +kernel
theorem dX8_isTooFar_4 : decode cX8_isTooFar 4 = .ok (.aload_n 0, 1) := by decide +kernel
theorem dX8_isTooFar_5 : decode cX8_isTooFar 5 = .ok (.getfield 7, 3) := by decide +kernel
theorem dX8_isTooFar_8 : decode cX8_isTooFar 8 = .ok (.iconst 3, 1) := by decide +kernel
theorem dX8_isTooFar_9 : decode cX8_isTooFar 9 = .ok (.iaload, 1) := by decide +kernel
theorem dX8_isTooFar_10 : decode cX8_isTooFar 10 = .ok (.if_icmp .gt 17, 3) := by decide +kernel
theorem dX8_isTooFar_13 : decode cX8_isTooFar 13 = .ok (.aload_n 0, 1) := by decide +kernel
theorem dX8_isTooFar_14 : decode cX8_isTooFar 14 = .ok (.getfield 51, 3) := by decide +kernel
theorem dX8_isTooFar_17 : decode cX8_isTooFar 17 = .ok (.ineg, 1) := by decide +kernel
theorem dX8_isTooFar_18 : decode cX8_isTooFar 18 = .ok (.aload_n 0, 1) := by decide +kernel
theorem dX8_isTooFar_19 : decode cX8_isTooFar 19 = .ok (.getfield 7, 3) := by decide +kernel
theorem dX8_isTooFar_22 : decode cX8_isTooFar 22 = .ok (.iconst 3, 1) := by decide +kernel
theorem dX8_isTooFar_23 : decode cX8_isTooFar 23 = .ok (.iaload, 1) := by decide +kernel
theorem dX8_isTooFar_24 : decode cX8_isTooFar 24 = .ok (.if_icmp .le 7, 3) := by decide +kernel
theorem dX8_isTooFar_27 : decode cX8_isTooFar 27 = .ok (.iconst 1, 1) := by decide +kernel
theorem dX8_isTooFar_28 : decode cX8_isTooFar 28 = .ok (.goto 4, 3) := by decide +kernel
theorem dX8_isTooFar_31 : decode cX8_isTooFar 31 = .ok (.iconst 0, 1) := by decide +kernel
theorem dX8_isTooFar_32 : decode cX8_isTooFar 32 = .ok (.ireturn, 1) := by decide +kernel
theorem dX8_lightest_0 : decode cX8_lightest 0 = .ok (.iconst 0, 1) := by decide +kernel
theorem dX8_lightest_1 : decode cX8_lightest 1 = .ok (.istore_n 2, 1) := by decide +kernel
theorem dX8_lightest_2 : decode cX8_lightest 2 = .ok (.iload_n 2, 1) := by decide +kernel
theorem dX8_lightest_3 : decode cX8_lightest 3 = .ok (.bipush 8, 2) := by decide +kernel
theorem dX8_lightest_5 : decode cX8_lightest 5 = .ok (.if_icmp .ge 26, 3) := by decide +kernel
theorem dX8_lightest_8 : decode cX8_lightest 8 = .ok (.aload_n 0, 1) := by decide +kernel
theorem dX8_lightest_9 : decode cX8_lightest 9 = .ok (.getfield 7, 3) := by decide +kernel
theorem dX8_lightest_12 : decode cX8_lightest 12 = .ok (.bipush 7, 2) := by decide +kernel
theorem dX8_lightest_14 : decode cX8_lightest 14 = .ok (.iaload, 1) := by decide +kernel
theorem dX8_lightest_15 : decode cX8_lightest 15 = .ok (.iload_n 2, 1) := by decide +kernel
theorem dX8_lightest_16 : decode cX8_lightest 16 = .ok (.ishr, 1) := by decide +kernel
theorem dX8_lightest_17 : decode cX8_lightest 17 = .ok (.iconst 1, 1) := by decide +kernel
theorem dX8_lightest_18 : decode cX8_lightest 18 = .ok (.iand, 1) := by decide +kernel
theorem dX8_lightest_19 : decode cX8_lightest 19 = .ok (.iload_n 1, 1) := by decide +kernel
theorem dX8_lightest_20 : decode cX8_lightest 20 = .ok (.if_icmp .ne 5, 3) := by decide +kernel
theorem dX8_lightest_23 : decode cX8_lightest 23 = .ok (.iload_n 2, 1) := by decide +kernel
theorem dX8_lightest_24 : decode cX8_lightest 24 = .ok (.ireturn, 1) := by decide +kernel
theorem dX8_lightest_25 : decode cX8_lightest 25 = .ok (.iinc 2 1, 3) := by decide +kernel
theorem dX8_lightest_28 : decode cX8_lightest 28 = .ok (.goto (-26), 3) := by decide +kernel
theorem dX8_lightest_31 : decode cX8_lightest 31 = .ok (.bipush (-6), 2) := by decide +kernel
theorem dX8_lightest_33 : decode cX8_lightest 33 = .ok (.ireturn, 1) := by decide +kernel
set_option maxRecDepth 20000 in
theorem ggX8_corrects_X8_lightest : GoodIn wsX8_corrects wsX8_lightest := goodIn_r _ [8, 2, 9, 10, 11, 12, 13, 14, 15, 16, 17, 18, 19, 20, 21, 22] (by decide +kernel) (by decide +kernel)
set_option maxRecDepth 20000 in
theorem gX8_corrects_X8_lightest : GoodIn wsX8_corrects (wsV RX8 54 RX8 yX8_lightest wsX8_lightest) := goodIn_app (goodIn_of _ (by decide +kernel)) ggX8_corrects_X8_lightest
theorem dX8_corrects_0 : decode cX8_corrects 0 = .ok (.aload_n 0, 1) := by decide +kernel
theorem dX8_corrects_1 : decode cX8_corrects 1 = .ok (.aload_n 0, 1) := by decide +kernel
theorem dX8_corrects_2 : decode cX8_corrects 2 = .ok (.getfield 51, 3) := by decide +kernel
theorem dX8_corrects_5 : decode cX8_corrects 5 = .ok (.ifCond .le 7, 3) := by decide +kernel
theorem dX8_corrects_8 : decode cX8_corrects 8 = .ok (.iconst 1, 1) := by decide +kernel
theorem dX8_corrects_9 : decode cX8_corrects 9 = .ok (.goto 4, 3) := by decide +kernel
theorem dX8_corrects_12 : decode cX8_corrects 12 = .ok (.iconst 0, 1) := by decide +kernel
theorem dX8_corrects_13 : decode cX8_corrects 13 = .ok (.invokevirtual 54, 3) := by decide +kernel
theorem dX8_corrects_16 : decode cX8_corrects 16 = .ok (.istore_n 1, 1) := by decide +kernel
theorem dX8_corrects_17 : decode cX8_corrects 17 = .ok (.aload_n 0, 1) := by decide +kernel
theorem dX8_corrects_18 : decode cX8_corrects 18 = .ok (.getfield 7, 3) := by decide +kernel
theorem dX8_corrects_21 : decode cX8_corrects 21 = .ok (.bipush 7, 2) := by decide +kernel
theorem dX8_corrects_23 : decode cX8_corrects 23 = .ok (.dup2, 1) := by decide +kernel
theorem dX8_corrects_24 : decode cX8_corrects 24 = .ok (.iaload, 1) := by decide +kernel
theorem dX8_corrects_25 : decode cX8_corrects 25 = .ok (.iload_n 1, 1) := by decide +kernel
theorem dX8_corrects_26 : decode cX8_corrects 26 = .ok (.bipush (-6), 2) := by decide +kernel
theorem dX8_corrects_28 : decode cX8_corrects 28 = .ok (.if_icmp .ne 7, 3) := by decide +kernel
theorem dX8_corrects_31 : decode cX8_corrects 31 = .ok (.iconst 0, 1) := by decide +kernel
theorem dX8_corrects_32 : decode cX8_corrects 32 = .ok (.goto 6, 3) := by decide +kernel
theorem dX8_corrects_35 : decode cX8_corrects 35 = .ok (.iconst 1, 1) := by decide +kernel
theorem dX8_corrects_36 : decode cX8_corrects 36 = .ok (.iload_n 1, 1) := by decide +kernel
theorem dX8_corrects_37 : decode cX8_corrects 37 = .ok (.ishl, 1) := by decide +kernel
theorem dX8_corrects_38 : decode cX8_corrects 38 = .ok (.ixor, 1) := by decide +kernel
theorem dX8_corrects_39 : decode cX8_corrects 39 = .ok (.iastore, 1) := by decide +kernel
theorem dX8_corrects_40 : decode cX8_corrects 40 = .ok (.aload_n 0, 1) := by decide +kernel
theorem dX8_corrects_41 : decode cX8_corrects 41 = .ok (.iconst 0, 1) := by decide +kernel
theorem dX8_corrects_42 : decode cX8_corrects 42 = .ok (.putfield 51, 3) := by decide +kernel
theorem dX8_corrects_45 : decode cX8_corrects 45 = .ok (.aload_n 0, 1) := by decide +kernel
theorem dX8_corrects_46 : decode cX8_corrects 46 = .ok (.iconst 0, 1) := by decide +kernel
theorem dX8_corrects_47 : decode cX8_corrects 47 = .ok (.putfield 48, 3) := by decide +kernel
theorem dX8_corrects_50 : decode cX8_corrects 50 = .ok (.aload_n 0, 1) := by decide +kernel
theorem dX8_corrects_51 : decode cX8_corrects 51 = .ok (.getfield 7, 3) := by decide +kernel
theorem dX8_corrects_54 : decode cX8_corrects 54 = .ok (.bipush 8, 2) := by decide +kernel
theorem dX8_corrects_56 : decode cX8_corrects 56 = .ok (.dup2, 1) := by decide +kernel
theorem dX8_corrects_57 : decode cX8_corrects 57 = .ok (.iaload, 1) := by decide +kernel
theorem dX8_corrects_58 : decode cX8_corrects 58 = .ok (.iconst 1, 1) := by decide +kernel
theorem dX8_corrects_59 : decode cX8_corrects 59 = .ok (.iadd, 1) := by decide +kernel
theorem dX8_corrects_60 : decode cX8_corrects 60 = .ok (.iastore, 1) := by decide +kernel
theorem dX8_corrects_61 : decode cX8_corrects 61 = .ok (.return_, 1) := by decide +kernel
set_option maxRecDepth 20000 in
theorem ggX8_passes_X8_rateNow : GoodIn wsX8_passes wsX8_rateNow := goodIn_r _ [8, 1, 9, 10, 11, 7, 12, 29, 30, 31, 32, 33, 34, 35, 36, 37, 38, 39, 40, 41, 42] (by decide +kernel) (by decide +kernel)
set_option maxRecDepth 20000 in
theorem gX8_passes_X8_rateNow : GoodIn wsX8_passes (wsV RX8 58 RX8 yX8_rateNow wsX8_rateNow) := goodIn_app (goodIn_of _ (by decide +kernel)) ggX8_passes_X8_rateNow
set_option maxRecDepth 20000 in
theorem ggX8_passes_X8_goes : GoodIn wsX8_passes wsX8_goes := goodIn_r _ [16, 3, 2, 29, 30, 31, 32, 33, 34, 35, 36, 37, 38, 39, 40, 41, 42] (by decide +kernel) (by decide +kernel)
set_option maxRecDepth 20000 in
theorem gX8_passes_X8_goes : GoodIn wsX8_passes (wsV RX8 62 RX8 yX8_goes wsX8_goes) := goodIn_app (goodIn_of _ (by decide +kernel)) ggX8_passes_X8_goes
set_option maxRecDepth 20000 in
theorem ggX8_passes_X8_isTooFar : GoodIn wsX8_passes wsX8_isTooFar := goodIn_r _ [20, 2, 1, 29, 30, 31, 32, 33, 34, 35, 36, 37, 38, 39, 40, 41, 42] (by decide +kernel) (by decide +kernel)
set_option maxRecDepth 20000 in
theorem gX8_passes_X8_isTooFar : GoodIn wsX8_passes (wsV RX8 66 RX8 yX8_isTooFar wsX8_isTooFar) := goodIn_app (goodIn_of _ (by decide +kernel)) ggX8_passes_X8_isTooFar
set_option maxRecDepth 20000 in
theorem ggX8_passes_X8_corrects : GoodIn wsX8_passes wsX8_corrects := goodIn_r _ [24, 2, 1, 3, 25, 26, 27, 7, 28, 29, 30, 31, 32, 33, 34, 35, 36, 37, 38, 39, 40, 41, 42] (by decide +kernel) (by decide +kernel)
set_option maxRecDepth 20000 in
theorem gX8_passes_X8_corrects : GoodIn wsX8_passes (wsV RX8 70 RX8 yX8_corrects wsX8_corrects) := goodIn_app (goodIn_of _ (by decide +kernel)) ggX8_passes_X8_corrects
theorem dX8_passes_0 : decode cX8_passes 0 = .ok (.aload_n 0, 1) := by decide +kernel
theorem dX8_passes_1 : decode cX8_passes 1 = .ok (.iload_n 1, 1) := by decide +kernel
theorem dX8_passes_2 : decode cX8_passes 2 = .ok (.iload_n 2, 1) := by decide +kernel
theorem dX8_passes_3 : decode cX8_passes 3 = .ok (.invokevirtual 58, 3) := by decide +kernel
theorem dX8_passes_6 : decode cX8_passes 6 = .ok (.istore 4, 2) := by decide +kernel
theorem dX8_passes_8 : decode cX8_passes 8 = .ok (.aload_n 0, 1) := by decide +kernel
theorem dX8_passes_9 : decode cX8_passes 9 = .ok (.getfield 7, 3) := by decide +kernel
theorem dX8_passes_12 : decode cX8_passes 12 = .ok (.bipush 7, 2) := by decide +kernel
theorem dX8_passes_14 : decode cX8_passes 14 = .ok (.iaload, 1) := by decide +kernel
theorem dX8_passes_15 : decode cX8_passes 15 = .ok (.istore 5, 2) := by decide +kernel
theorem dX8_passes_17 : decode cX8_passes 17 = .ok (.aload_n 0, 1) := by decide +kernel
theorem dX8_passes_18 : decode cX8_passes 18 = .ok (.aload_n 0, 1) := by decide +kernel
theorem dX8_passes_19 : decode cX8_passes 19 = .ok (.getfield 7, 3) := by decide +kernel
theorem dX8_passes_22 : decode cX8_passes 22 = .ok (.iconst 5, 1) := by decide +kernel
theorem dX8_passes_23 : decode cX8_passes 23 = .ok (.iaload, 1) := by decide +kernel
theorem dX8_passes_24 : decode cX8_passes 24 = .ok (.putfield 51, 3) := by decide +kernel
theorem dX8_passes_27 : decode cX8_passes 27 = .ok (.aload_n 0, 1) := by decide +kernel
theorem dX8_passes_28 : decode cX8_passes 28 = .ok (.aload_n 0, 1) := by decide +kernel
theorem dX8_passes_29 : decode cX8_passes 29 = .ok (.getfield 7, 3) := by decide +kernel
theorem dX8_passes_32 : decode cX8_passes 32 = .ok (.bipush 6, 2) := by decide +kernel
theorem dX8_passes_34 : decode cX8_passes 34 = .ok (.iaload, 1) := by decide +kernel
theorem dX8_passes_35 : decode cX8_passes 35 = .ok (.putfield 48, 3) := by decide +kernel
theorem dX8_passes_38 : decode cX8_passes 38 = .ok (.aload_n 0, 1) := by decide +kernel
theorem dX8_passes_39 : decode cX8_passes 39 = .ok (.iload 4, 2) := by decide +kernel
theorem dX8_passes_41 : decode cX8_passes 41 = .ok (.invokevirtual 62, 3) := by decide +kernel
theorem dX8_passes_44 : decode cX8_passes 44 = .ok (.aload_n 0, 1) := by decide +kernel
theorem dX8_passes_45 : decode cX8_passes 45 = .ok (.getfield 51, 3) := by decide +kernel
theorem dX8_passes_48 : decode cX8_passes 48 = .ok (.istore 6, 2) := by decide +kernel
theorem dX8_passes_50 : decode cX8_passes 50 = .ok (.iload_n 3, 1) := by decide +kernel
theorem dX8_passes_51 : decode cX8_passes 51 = .ok (.iconst 1, 1) := by decide +kernel
theorem dX8_passes_52 : decode cX8_passes 52 = .ok (.if_icmp .ne 14, 3) := by decide +kernel
theorem dX8_passes_55 : decode cX8_passes 55 = .ok (.aload_n 0, 1) := by decide +kernel
theorem dX8_passes_56 : decode cX8_passes 56 = .ok (.invokevirtual 66, 3) := by decide +kernel
theorem dX8_passes_59 : decode cX8_passes 59 = .ok (.ifCond .eq 7, 3) := by decide +kernel
theorem dX8_passes_62 : decode cX8_passes 62 = .ok (.iconst 1, 1) := by decide +kernel
theorem dX8_passes_63 : decode cX8_passes 63 = .ok (.goto 4, 3) := by decide +kernel
theorem dX8_passes_66 : decode cX8_passes 66 = .ok (.iconst 0, 1) := by decide +kernel
theorem dX8_passes_67 : decode cX8_passes 67 = .ok (.istore 7, 2) := by decide +kernel
theorem dX8_passes_69 : decode cX8_passes 69 = .ok (.iload 7, 2) := by decide +kernel
theorem dX8_passes_71 : decode cX8_passes 71 = .ok (.ifCond .eq 7, 3) := by decide +kernel
theorem dX8_passes_74 : decode cX8_passes 74 = .ok (.aload_n 0, 1) := by decide +kernel
theorem dX8_passes_75 : decode cX8_passes 75 = .ok (.invokevirtual 70, 3) := by decide +kernel
theorem dX8_passes_78 : decode cX8_passes 78 = .ok (.aload_n 0, 1) := by decide +kernel
theorem dX8_passes_79 : decode cX8_passes 79 = .ok (.getfield 7, 3) := by decide +kernel
theorem dX8_passes_82 : decode cX8_passes 82 = .ok (.iconst 5, 1) := by decide +kernel
theorem dX8_passes_83 : decode cX8_passes 83 = .ok (.aload_n 0, 1) := by decide +kernel
theorem dX8_passes_84 : decode cX8_passes 84 = .ok (.getfield 51, 3) := by decide +kernel
theorem dX8_passes_87 : decode cX8_passes 87 = .ok (.iastore, 1) := by decide +kernel
theorem dX8_passes_88 : decode cX8_passes 88 = .ok (.aload_n 0, 1) := by decide +kernel
theorem dX8_passes_89 : decode cX8_passes 89 = .ok (.getfield 7, 3) := by decide +kernel
theorem dX8_passes_92 : decode cX8_passes 92 = .ok (.bipush 6, 2) := by decide +kernel
theorem dX8_passes_94 : decode cX8_passes 94 = .ok (.aload_n 0, 1) := by decide +kernel
theorem dX8_passes_95 : decode cX8_passes 95 = .ok (.getfield 48, 3) := by decide +kernel
theorem dX8_passes_98 : decode cX8_passes 98 = .ok (.iastore, 1) := by decide +kernel
theorem dX8_passes_99 : decode cX8_passes 99 = .ok (.aload_n 0, 1) := by decide +kernel
theorem dX8_passes_100 : decode cX8_passes 100 = .ok (.getfield 7, 3) := by decide +kernel
theorem dX8_passes_103 : decode cX8_passes 103 = .ok (.iconst 4, 1) := by decide +kernel
theorem dX8_passes_104 : decode cX8_passes 104 = .ok (.dup2, 1) := by decide +kernel
theorem dX8_passes_105 : decode cX8_passes 105 = .ok (.iaload, 1) := by decide +kernel
theorem dX8_passes_106 : decode cX8_passes 106 = .ok (.iconst 1, 1) := by decide +kernel
theorem dX8_passes_107 : decode cX8_passes 107 = .ok (.iadd, 1) := by decide +kernel
theorem dX8_passes_108 : decode cX8_passes 108 = .ok (.iastore, 1) := by decide +kernel
theorem dX8_passes_109 : decode cX8_passes 109 = .ok (.aload_n 0, 1) := by decide +kernel
theorem dX8_passes_110 : decode cX8_passes 110 = .ok (.getfield 7, 3) := by decide +kernel
theorem dX8_passes_113 : decode cX8_passes 113 = .ok (.bipush 10, 2) := by decide +kernel
theorem dX8_passes_115 : decode cX8_passes 115 = .ok (.dup2, 1) := by decide +kernel
theorem dX8_passes_116 : decode cX8_passes 116 = .ok (.iaload, 1) := by decide +kernel
theorem dX8_passes_117 : decode cX8_passes 117 = .ok (.iload_n 3, 1) := by decide +kernel
theorem dX8_passes_118 : decode cX8_passes 118 = .ok (.iadd, 1) := by decide +kernel
theorem dX8_passes_119 : decode cX8_passes 119 = .ok (.iastore, 1) := by decide +kernel
theorem dX8_passes_120 : decode cX8_passes 120 = .ok (.aload_n 0, 1) := by decide +kernel
theorem dX8_passes_121 : decode cX8_passes 121 = .ok (.getfield 7, 3) := by decide +kernel
theorem dX8_passes_124 : decode cX8_passes 124 = .ok (.bipush 9, 2) := by decide +kernel
theorem dX8_passes_126 : decode cX8_passes 126 = .ok (.dup2, 1) := by decide +kernel
theorem dX8_passes_127 : decode cX8_passes 127 = .ok (.iaload, 1) := by decide +kernel
theorem dX8_passes_128 : decode cX8_passes 128 = .ok (.aload_n 0, 1) := by decide +kernel
theorem dX8_passes_129 : decode cX8_passes 129 = .ok (.getfield 7, 3) := by decide +kernel
theorem dX8_passes_132 : decode cX8_passes 132 = .ok (.bipush 9, 2) := by decide +kernel
theorem dX8_passes_134 : decode cX8_passes 134 = .ok (.iaload, 1) := by decide +kernel
theorem dX8_passes_135 : decode cX8_passes 135 = .ok (.bipush 48, 2) := by decide +kernel
theorem dX8_passes_137 : decode cX8_passes 137 = .ok (.if_icmp .ge 7, 3) := by decide +kernel
theorem dX8_passes_140 : decode cX8_passes 140 = .ok (.iconst 1, 1) := by decide +kernel
theorem dX8_passes_141 : decode cX8_passes 141 = .ok (.goto 4, 3) := by decide +kernel
theorem dX8_passes_144 : decode cX8_passes 144 = .ok (.iconst 0, 1) := by decide +kernel
theorem dX8_passes_145 : decode cX8_passes 145 = .ok (.iadd, 1) := by decide +kernel
theorem dX8_passes_146 : decode cX8_passes 146 = .ok (.iastore, 1) := by decide +kernel
theorem dX8_passes_147 : decode cX8_passes 147 = .ok (.bipush 7, 2) := by decide +kernel
theorem dX8_passes_149 : decode cX8_passes 149 = .ok (.aload_n 0, 1) := by decide +kernel
theorem dX8_passes_150 : decode cX8_passes 150 = .ok (.getfield 7, 3) := by decide +kernel
theorem dX8_passes_153 : decode cX8_passes 153 = .ok (.bipush 9, 2) := by decide +kernel
theorem dX8_passes_155 : decode cX8_passes 155 = .ok (.iaload, 1) := by decide +kernel
theorem dX8_passes_156 : decode cX8_passes 156 = .ok (.imul, 1) := by decide +kernel
theorem dX8_passes_157 : decode cX8_passes 157 = .ok (.iconst 1, 1) := by decide +kernel
theorem dX8_passes_158 : decode cX8_passes 158 = .ok (.isub, 1) := by decide +kernel
theorem dX8_passes_159 : decode cX8_passes 159 = .ok (.istore 8, 2) := by decide +kernel
theorem dX8_passes_161 : decode cX8_passes 161 = .ok (.iload 8, 2) := by decide +kernel
theorem dX8_passes_163 : decode cX8_passes 163 = .ok (.bipush 7, 2) := by decide +kernel
theorem dX8_passes_165 : decode cX8_passes 165 = .ok (.if_icmp .lt 32, 3) := by decide +kernel
theorem dX8_passes_168 : decode cX8_passes 168 = .ok (.aload_n 0, 1) := by decide +kernel
theorem dX8_passes_169 : decode cX8_passes 169 = .ok (.getfield 7, 3) := by decide +kernel
theorem dX8_passes_172 : decode cX8_passes 172 = .ok (.bipush 11, 2) := by decide +kernel
theorem dX8_passes_174 : decode cX8_passes 174 = .ok (.iload 8, 2) := by decide +kernel
theorem dX8_passes_176 : decode cX8_passes 176 = .ok (.iadd, 1) := by decide +kernel
theorem dX8_passes_177 : decode cX8_passes 177 = .ok (.aload_n 0, 1) := by decide +kernel
theorem dX8_passes_178 : decode cX8_passes 178 = .ok (.getfield 7, 3) := by decide +kernel
theorem dX8_passes_181 : decode cX8_passes 181 = .ok (.bipush 11, 2) := by decide +kernel
theorem dX8_passes_183 : decode cX8_passes 183 = .ok (.iload 8, 2) := by decide +kernel
theorem dX8_passes_185 : decode cX8_passes 185 = .ok (.iadd, 1) := by decide +kernel
theorem dX8_passes_186 : decode cX8_passes 186 = .ok (.bipush 7, 2) := by decide +kernel
theorem dX8_passes_188 : decode cX8_passes 188 = .ok (.isub, 1) := by decide +kernel
theorem dX8_passes_189 : decode cX8_passes 189 = .ok (.iaload, 1) := by decide +kernel
theorem dX8_passes_190 : decode cX8_passes 190 = .ok (.iastore, 1) := by decide +kernel
theorem dX8_passes_191 : decode cX8_passes 191 = .ok (.iinc 8 (-1), 3) := by decide +kernel
theorem dX8_passes_194 : decode cX8_passes 194 = .ok (.goto (-33), 3) := by decide +kernel
theorem dX8_passes_197 : decode cX8_passes 197 = .ok (.aload_n 0, 1) := by decide +kernel
theorem dX8_passes_198 : decode cX8_passes 198 = .ok (.getfield 7, 3) := by decide +kernel
theorem dX8_passes_201 : decode cX8_passes 201 = .ok (.bipush 11, 2) := by decide +kernel
theorem dX8_passes_203 : decode cX8_passes 203 = .ok (.iload_n 1, 1) := by decide +kernel
theorem dX8_passes_204 : decode cX8_passes 204 = .ok (.iastore, 1) := by decide +kernel
theorem dX8_passes_205 : decode cX8_passes 205 = .ok (.aload_n 0, 1) := by decide +kernel
theorem dX8_passes_206 : decode cX8_passes 206 = .ok (.getfield 7, 3) := by decide +kernel
theorem dX8_passes_209 : decode cX8_passes 209 = .ok (.bipush 12, 2) := by decide +kernel
theorem dX8_passes_211 : decode cX8_passes 211 = .ok (.iload_n 2, 1) := by decide +kernel
theorem dX8_passes_212 : decode cX8_passes 212 = .ok (.iastore, 1) := by decide +kernel
theorem dX8_passes_213 : decode cX8_passes 213 = .ok (.aload_n 0, 1) := by decide +kernel
theorem dX8_passes_214 : decode cX8_passes 214 = .ok (.getfield 7, 3) := by decide +kernel
theorem dX8_passes_217 : decode cX8_passes 217 = .ok (.bipush 13, 2) := by decide +kernel
theorem dX8_passes_219 : decode cX8_passes 219 = .ok (.iload_n 3, 1) := by decide +kernel
theorem dX8_passes_220 : decode cX8_passes 220 = .ok (.iastore, 1) := by decide +kernel
theorem dX8_passes_221 : decode cX8_passes 221 = .ok (.aload_n 0, 1) := by decide +kernel
theorem dX8_passes_222 : decode cX8_passes 222 = .ok (.getfield 7, 3) := by decide +kernel
theorem dX8_passes_225 : decode cX8_passes 225 = .ok (.bipush 14, 2) := by decide +kernel
theorem dX8_passes_227 : decode cX8_passes 227 = .ok (.iload 4, 2) := by decide +kernel
theorem dX8_passes_229 : decode cX8_passes 229 = .ok (.iastore, 1) := by decide +kernel
theorem dX8_passes_230 : decode cX8_passes 230 = .ok (.aload_n 0, 1) := by decide +kernel
theorem dX8_passes_231 : decode cX8_passes 231 = .ok (.getfield 7, 3) := by decide +kernel
theorem dX8_passes_234 : decode cX8_passes 234 = .ok (.bipush 15, 2) := by decide +kernel
theorem dX8_passes_236 : decode cX8_passes 236 = .ok (.iload 6, 2) := by decide +kernel
theorem dX8_passes_238 : decode cX8_passes 238 = .ok (.iastore, 1) := by decide +kernel
theorem dX8_passes_239 : decode cX8_passes 239 = .ok (.aload_n 0, 1) := by decide +kernel
theorem dX8_passes_240 : decode cX8_passes 240 = .ok (.getfield 7, 3) := by decide +kernel
theorem dX8_passes_243 : decode cX8_passes 243 = .ok (.bipush 16, 2) := by decide +kernel
theorem dX8_passes_245 : decode cX8_passes 245 = .ok (.iload 7, 2) := by decide +kernel
theorem dX8_passes_247 : decode cX8_passes 247 = .ok (.ifCond .eq 7, 3) := by decide +kernel
theorem dX8_passes_250 : decode cX8_passes 250 = .ok (.iconst 1, 1) := by decide +kernel
theorem dX8_passes_251 : decode cX8_passes 251 = .ok (.goto 4, 3) := by decide +kernel
theorem dX8_passes_254 : decode cX8_passes 254 = .ok (.iconst 0, 1) := by decide +kernel
theorem dX8_passes_255 : decode cX8_passes 255 = .ok (.iastore, 1) := by decide +kernel
theorem dX8_passes_256 : decode cX8_passes 256 = .ok (.aload_n 0, 1) := by decide +kernel
theorem dX8_passes_257 : decode cX8_passes 257 = .ok (.getfield 7, 3) := by decide +kernel
theorem dX8_passes_260 : decode cX8_passes 260 = .ok (.bipush 17, 2) := by decide +kernel
theorem dX8_passes_262 : decode cX8_passes 262 = .ok (.iload 5, 2) := by decide +kernel
theorem dX8_passes_264 : decode cX8_passes 264 = .ok (.iastore, 1) := by decide +kernel
theorem dX8_passes_265 : decode cX8_passes 265 = .ok (.iload 7, 2) := by decide +kernel
theorem dX8_passes_267 : decode cX8_passes 267 = .ok (.ireturn, 1) := by decide +kernel
set_option maxRecDepth 20000 in
theorem ggX8_isSetting_X8_in : GoodIn wsX8_isSetting wsX8_in := goodIn_r _ [8] (by decide +kernel) (by decide +kernel)
set_option maxRecDepth 20000 in
theorem gX8_isSetting_X8_in : GoodIn wsX8_isSetting (va_wsS RX8 36 yX8_in wsX8_in) := goodIn_app (goodIn_of _ (by decide +kernel)) ggX8_isSetting_X8_in
theorem dX8_isSetting_0 : decode cX8_isSetting 0 = .ok (.iload_n 0, 1) := by decide +kernel
theorem dX8_isSetting_1 : decode cX8_isSetting 1 = .ok (.tableswitch 49 0 2 #[27, 27, 37], 27) := by decide +kernel
theorem dX8_isSetting_28 : decode cX8_isSetting 28 = .ok (.iload_n 1, 1) := by decide +kernel
theorem dX8_isSetting_29 : decode cX8_isSetting 29 = .ok (.i2l, 1) := by decide +kernel
theorem dX8_isSetting_30 : decode cX8_isSetting 30 = .ok (.lconst 0, 1) := by decide +kernel
theorem dX8_isSetting_31 : decode cX8_isSetting 31 = .ok (.ldc2_w 73, 3) := by decide +kernel
theorem dX8_isSetting_34 : decode cX8_isSetting 34 = .ok (.invokestatic 36, 3) := by decide +kernel
theorem dX8_isSetting_37 : decode cX8_isSetting 37 = .ok (.ireturn, 1) := by decide +kernel
theorem dX8_isSetting_38 : decode cX8_isSetting 38 = .ok (.iload_n 1, 1) := by decide +kernel
theorem dX8_isSetting_39 : decode cX8_isSetting 39 = .ok (.i2l, 1) := by decide +kernel
theorem dX8_isSetting_40 : decode cX8_isSetting 40 = .ok (.ldc2_w 75, 3) := by decide +kernel
theorem dX8_isSetting_43 : decode cX8_isSetting 43 = .ok (.ldc2_w 77, 3) := by decide +kernel
theorem dX8_isSetting_46 : decode cX8_isSetting 46 = .ok (.invokestatic 36, 3) := by decide +kernel
theorem dX8_isSetting_49 : decode cX8_isSetting 49 = .ok (.ireturn, 1) := by decide +kernel
theorem dX8_isSetting_50 : decode cX8_isSetting 50 = .ok (.iload_n 0, 1) := by decide +kernel
theorem dX8_isSetting_51 : decode cX8_isSetting 51 = .ok (.iconst 3, 1) := by decide +kernel
theorem dX8_isSetting_52 : decode cX8_isSetting 52 = .ok (.if_icmp .ne 19, 3) := by decide +kernel
theorem dX8_isSetting_55 : decode cX8_isSetting 55 = .ok (.iload_n 1, 1) := by decide +kernel
theorem dX8_isSetting_56 : decode cX8_isSetting 56 = .ok (.i2l, 1) := by decide +kernel
theorem dX8_isSetting_57 : decode cX8_isSetting 57 = .ok (.lconst 1, 1) := by decide +kernel
theorem dX8_isSetting_58 : decode cX8_isSetting 58 = .ok (.ldc2_w 79, 3) := by decide +kernel
theorem dX8_isSetting_61 : decode cX8_isSetting 61 = .ok (.invokestatic 36, 3) := by decide +kernel
theorem dX8_isSetting_64 : decode cX8_isSetting 64 = .ok (.ifCond .eq 7, 3) := by decide +kernel
theorem dX8_isSetting_67 : decode cX8_isSetting 67 = .ok (.iconst 1, 1) := by decide +kernel
theorem dX8_isSetting_68 : decode cX8_isSetting 68 = .ok (.goto 4, 3) := by decide +kernel
theorem dX8_isSetting_71 : decode cX8_isSetting 71 = .ok (.iconst 0, 1) := by decide +kernel
theorem dX8_isSetting_72 : decode cX8_isSetting 72 = .ok (.ireturn, 1) := by decide +kernel
set_option maxRecDepth 20000 in
theorem ggX8_doSet_X8_isSetting : GoodIn wsX8_doSet wsX8_isSetting := goodIn_r _ [5, 6, 7, 8, 9, 10, 11, 4, 12] (by decide +kernel) (by decide +kernel)
set_option maxRecDepth 20000 in
theorem gX8_doSet_X8_isSetting : GoodIn wsX8_doSet (va_wsS RX8 81 yX8_isSetting wsX8_isSetting) := goodIn_app (goodIn_of _ (by decide +kernel)) ggX8_doSet_X8_isSetting
theorem dX8_doSet_0 : decode cX8_doSet 0 = .ok (.iload_n 1, 1) := by decide +kernel
theorem dX8_doSet_1 : decode cX8_doSet 1 = .ok (.iload_n 2, 1) := by decide +kernel
theorem dX8_doSet_2 : decode cX8_doSet 2 = .ok (.invokestatic 81, 3) := by decide +kernel
theorem dX8_doSet_5 : decode cX8_doSet 5 = .ok (.ifCond .ne 6, 3) := by decide +kernel
theorem dX8_doSet_8 : decode cX8_doSet 8 = .ok (.bipush (-2), 2) := by decide +kernel
theorem dX8_doSet_10 : decode cX8_doSet 10 = .ok (.ireturn, 1) := by decide +kernel
theorem dX8_doSet_11 : decode cX8_doSet 11 = .ok (.aload_n 0, 1) := by decide +kernel
theorem dX8_doSet_12 : decode cX8_doSet 12 = .ok (.getfield 7, 3) := by decide +kernel
theorem dX8_doSet_15 : decode cX8_doSet 15 = .ok (.iload_n 1, 1) := by decide +kernel
theorem dX8_doSet_16 : decode cX8_doSet 16 = .ok (.iaload, 1) := by decide +kernel
theorem dX8_doSet_17 : decode cX8_doSet 17 = .ok (.istore_n 3, 1) := by decide +kernel
theorem dX8_doSet_18 : decode cX8_doSet 18 = .ok (.aload_n 0, 1) := by decide +kernel
theorem dX8_doSet_19 : decode cX8_doSet 19 = .ok (.getfield 7, 3) := by decide +kernel
theorem dX8_doSet_22 : decode cX8_doSet 22 = .ok (.iload_n 1, 1) := by decide +kernel
theorem dX8_doSet_23 : decode cX8_doSet 23 = .ok (.iload_n 2, 1) := by decide +kernel
theorem dX8_doSet_24 : decode cX8_doSet 24 = .ok (.iastore, 1) := by decide +kernel
theorem dX8_doSet_25 : decode cX8_doSet 25 = .ok (.iload_n 3, 1) := by decide +kernel
theorem dX8_doSet_26 : decode cX8_doSet 26 = .ok (.sipush 1000, 3) := by decide +kernel
theorem dX8_doSet_29 : decode cX8_doSet 29 = .ok (.iadd, 1) := by decide +kernel
theorem dX8_doSet_30 : decode cX8_doSet 30 = .ok (.ireturn, 1) := by decide +kernel
set_option maxRecDepth 20000 in
theorem ggX8_doWeight_X8_in : GoodIn wsX8_doWeight wsX8_in := goodIn_r _ [6] (by decide +kernel) (by decide +kernel)
set_option maxRecDepth 20000 in
theorem gX8_doWeight_X8_in : GoodIn wsX8_doWeight (va_wsS RX8 36 yX8_in wsX8_in) := goodIn_app (goodIn_of _ (by decide +kernel)) ggX8_doWeight_X8_in
theorem dX8_doWeight_0 : decode cX8_doWeight 0 = .ok (.iload_n 1, 1) := by decide +kernel
theorem dX8_doWeight_1 : decode cX8_doWeight 1 = .ok (.i2l, 1) := by decide +kernel
theorem dX8_doWeight_2 : decode cX8_doWeight 2 = .ok (.lconst 0, 1) := by decide +kernel
theorem dX8_doWeight_3 : decode cX8_doWeight 3 = .ok (.ldc2_w 85, 3) := by decide +kernel
theorem dX8_doWeight_6 : decode cX8_doWeight 6 = .ok (.invokestatic 36, 3) := by decide +kernel
theorem dX8_doWeight_9 : decode cX8_doWeight 9 = .ok (.ifCond .ne 5, 3) := by decide +kernel
theorem dX8_doWeight_12 : decode cX8_doWeight 12 = .ok (.iconst (-1), 1) := by decide +kernel
theorem dX8_doWeight_13 : decode cX8_doWeight 13 = .ok (.ireturn, 1) := by decide +kernel
theorem dX8_doWeight_14 : decode cX8_doWeight 14 = .ok (.aload_n 0, 1) := by decide +kernel
theorem dX8_doWeight_15 : decode cX8_doWeight 15 = .ok (.getfield 7, 3) := by decide +kernel
theorem dX8_doWeight_18 : decode cX8_doWeight 18 = .ok (.bipush 7, 2) := by decide +kernel
theorem dX8_doWeight_20 : decode cX8_doWeight 20 = .ok (.dup2, 1) := by decide +kernel
theorem dX8_doWeight_21 : decode cX8_doWeight 21 = .ok (.iaload, 1) := by decide +kernel
theorem dX8_doWeight_22 : decode cX8_doWeight 22 = .ok (.iconst 1, 1) := by decide +kernel
theorem dX8_doWeight_23 : decode cX8_doWeight 23 = .ok (.iload_n 1, 1) := by decide +kernel
theorem dX8_doWeight_24 : decode cX8_doWeight 24 = .ok (.ishl, 1) := by decide +kernel
theorem dX8_doWeight_25 : decode cX8_doWeight 25 = .ok (.ixor, 1) := by decide +kernel
theorem dX8_doWeight_26 : decode cX8_doWeight 26 = .ok (.iastore, 1) := by decide +kernel
theorem dX8_doWeight_27 : decode cX8_doWeight 27 = .ok (.aload_n 0, 1) := by decide +kernel
theorem dX8_doWeight_28 : decode cX8_doWeight 28 = .ok (.getfield 7, 3) := by decide +kernel
theorem dX8_doWeight_31 : decode cX8_doWeight 31 = .ok (.bipush 7, 2) := by decide +kernel
theorem dX8_doWeight_33 : decode cX8_doWeight 33 = .ok (.iaload, 1) := by decide +kernel
theorem dX8_doWeight_34 : decode cX8_doWeight 34 = .ok (.iload_n 1, 1) := by decide +kernel
theorem dX8_doWeight_35 : decode cX8_doWeight 35 = .ok (.ishr, 1) := by decide +kernel
theorem dX8_doWeight_36 : decode cX8_doWeight 36 = .ok (.iconst 1, 1) := by decide +kernel
theorem dX8_doWeight_37 : decode cX8_doWeight 37 = .ok (.iand, 1) := by decide +kernel
theorem dX8_doWeight_38 : decode cX8_doWeight 38 = .ok (.ireturn, 1) := by decide +kernel
set_option maxRecDepth 20000 in
theorem ggX8_doPass_X8_isHeat : GoodIn wsX8_doPass wsX8_isHeat := goodIn_r _ [6, 7, 8, 9, 10, 5, 11] (by decide +kernel) (by decide +kernel)
set_option maxRecDepth 20000 in
theorem gX8_doPass_X8_isHeat : GoodIn wsX8_doPass (va_wsS RX8 87 yX8_isHeat wsX8_isHeat) := goodIn_app (goodIn_of _ (by decide +kernel)) ggX8_doPass_X8_isHeat
set_option maxRecDepth 20000 in
theorem ggX8_doPass_X8_isAir : GoodIn wsX8_doPass wsX8_isAir := goodIn_r _ [14, 15, 16, 9, 10, 5, 11] (by decide +kernel) (by decide +kernel)
set_option maxRecDepth 20000 in
theorem gX8_doPass_X8_isAir : GoodIn wsX8_doPass (va_wsS RX8 91 yX8_isAir wsX8_isAir) := goodIn_app (goodIn_of _ (by decide +kernel)) ggX8_doPass_X8_isAir
set_option maxRecDepth 20000 in
theorem ggX8_doPass_X8_in : GoodIn wsX8_doPass wsX8_in := goodIn_r _ [11] (by decide +kernel) (by decide +kernel)
set_option maxRecDepth 20000 in
theorem gX8_doPass_X8_in : GoodIn wsX8_doPass (va_wsS RX8 36 yX8_in wsX8_in) := goodIn_app (goodIn_of _ (by decide +kernel)) ggX8_doPass_X8_in
set_option maxRecDepth 20000 in
theorem ggX8_doPass_X8_passes : GoodIn wsX8_doPass wsX8_passes := goodIn_r _ [20, 2, 21, 22, 23, 24, 25, 5, 26, 27, 28, 29, 30, 31, 32, 33, 34, 35, 36, 37, 38, 39, 40, 41, 42, 43, 44, 45, 46, 47, 48, 49, 50, 51, 52, 53, 54, 55, 56, 57, 58, 59, 60] (by decide +kernel) (by decide +kernel)
set_option maxRecDepth 20000 in
theorem gX8_doPass_X8_passes : GoodIn wsX8_doPass (wsV RX8 94 RX8 yX8_passes wsX8_passes) := goodIn_app (goodIn_of _ (by decide +kernel)) ggX8_doPass_X8_passes
theorem dX8_doPass_0 : decode cX8_doPass 0 = .ok (.iload_n 1, 1) := by decide +kernel
theorem dX8_doPass_1 : decode cX8_doPass 1 = .ok (.invokestatic 87, 3) := by decide +kernel
theorem dX8_doPass_4 : decode cX8_doPass 4 = .ok (.ifCond .eq 33, 3) := by decide +kernel
theorem dX8_doPass_7 : decode cX8_doPass 7 = .ok (.iload_n 2, 1) := by decide +kernel
theorem dX8_doPass_8 : decode cX8_doPass 8 = .ok (.invokestatic 91, 3) := by decide +kernel
theorem dX8_doPass_11 : decode cX8_doPass 11 = .ok (.ifCond .eq 26, 3) := by decide +kernel
theorem dX8_doPass_14 : decode cX8_doPass 14 = .ok (.iload_n 3, 1) := by decide +kernel
theorem dX8_doPass_15 : decode cX8_doPass 15 = .ok (.i2l, 1) := by decide +kernel
theorem dX8_doPass_16 : decode cX8_doPass 16 = .ok (.lconst 0, 1) := by decide +kernel
theorem dX8_doPass_17 : decode cX8_doPass 17 = .ok (.lconst 1, 1) := by decide +kernel
theorem dX8_doPass_18 : decode cX8_doPass 18 = .ok (.invokestatic 36, 3) := by decide +kernel
theorem dX8_doPass_21 : decode cX8_doPass 21 = .ok (.ifCond .eq 16, 3) := by decide +kernel
theorem dX8_doPass_24 : decode cX8_doPass 24 = .ok (.iload 4, 2) := by decide +kernel
theorem dX8_doPass_26 : decode cX8_doPass 26 = .ok (.i2l, 1) := by decide +kernel
theorem dX8_doPass_27 : decode cX8_doPass 27 = .ok (.lconst 1, 1) := by decide +kernel
theorem dX8_doPass_28 : decode cX8_doPass 28 = .ok (.ldc2_w 73, 3) := by decide +kernel
theorem dX8_doPass_31 : decode cX8_doPass 31 = .ok (.invokestatic 36, 3) := by decide +kernel
theorem dX8_doPass_34 : decode cX8_doPass 34 = .ok (.ifCond .ne 6, 3) := by decide +kernel
theorem dX8_doPass_37 : decode cX8_doPass 37 = .ok (.bipush (-2), 2) := by decide +kernel
theorem dX8_doPass_39 : decode cX8_doPass 39 = .ok (.ireturn, 1) := by decide +kernel
theorem dX8_doPass_40 : decode cX8_doPass 40 = .ok (.aload_n 0, 1) := by decide +kernel
theorem dX8_doPass_41 : decode cX8_doPass 41 = .ok (.getfield 7, 3) := by decide +kernel
theorem dX8_doPass_44 : decode cX8_doPass 44 = .ok (.iconst 4, 1) := by decide +kernel
theorem dX8_doPass_45 : decode cX8_doPass 45 = .ok (.iaload, 1) := by decide +kernel
theorem dX8_doPass_46 : decode cX8_doPass 46 = .ok (.iload 4, 2) := by decide +kernel
theorem dX8_doPass_48 : decode cX8_doPass 48 = .ok (.iadd, 1) := by decide +kernel
theorem dX8_doPass_49 : decode cX8_doPass 49 = .ok (.sipush 9999, 3) := by decide +kernel
theorem dX8_doPass_52 : decode cX8_doPass 52 = .ok (.if_icmp .le 6, 3) := by decide +kernel
theorem dX8_doPass_55 : decode cX8_doPass 55 = .ok (.bipush (-5), 2) := by decide +kernel
theorem dX8_doPass_57 : decode cX8_doPass 57 = .ok (.ireturn, 1) := by decide +kernel
theorem dX8_doPass_58 : decode cX8_doPass 58 = .ok (.iconst 0, 1) := by decide +kernel
theorem dX8_doPass_59 : decode cX8_doPass 59 = .ok (.istore 5, 2) := by decide +kernel
theorem dX8_doPass_61 : decode cX8_doPass 61 = .ok (.iconst 0, 1) := by decide +kernel
theorem dX8_doPass_62 : decode cX8_doPass 62 = .ok (.istore 6, 2) := by decide +kernel
theorem dX8_doPass_64 : decode cX8_doPass 64 = .ok (.iload 6, 2) := by decide +kernel
theorem dX8_doPass_66 : decode cX8_doPass 66 = .ok (.iload 4, 2) := by decide +kernel
theorem dX8_doPass_68 : decode cX8_doPass 68 = .ok (.if_icmp .ge 29, 3) := by decide +kernel
theorem dX8_doPass_71 : decode cX8_doPass 71 = .ok (.iload 5, 2) := by decide +kernel
theorem dX8_doPass_73 : decode cX8_doPass 73 = .ok (.aload_n 0, 1) := by decide +kernel
theorem dX8_doPass_74 : decode cX8_doPass 74 = .ok (.iload_n 1, 1) := by decide +kernel
theorem dX8_doPass_75 : decode cX8_doPass 75 = .ok (.iload_n 2, 1) := by decide +kernel
theorem dX8_doPass_76 : decode cX8_doPass 76 = .ok (.iload_n 3, 1) := by decide +kernel
theorem dX8_doPass_77 : decode cX8_doPass 77 = .ok (.invokevirtual 94, 3) := by decide +kernel
theorem dX8_doPass_80 : decode cX8_doPass 80 = .ok (.ifCond .eq 7, 3) := by decide +kernel
theorem dX8_doPass_83 : decode cX8_doPass 83 = .ok (.iconst 1, 1) := by decide +kernel
theorem dX8_doPass_84 : decode cX8_doPass 84 = .ok (.goto 4, 3) := by decide +kernel
theorem dX8_doPass_87 : decode cX8_doPass 87 = .ok (.iconst 0, 1) := by decide +kernel
theorem dX8_doPass_88 : decode cX8_doPass 88 = .ok (.iadd, 1) := by decide +kernel
theorem dX8_doPass_89 : decode cX8_doPass 89 = .ok (.istore 5, 2) := by decide +kernel
theorem dX8_doPass_91 : decode cX8_doPass 91 = .ok (.iinc 6 1, 3) := by decide +kernel
theorem dX8_doPass_94 : decode cX8_doPass 94 = .ok (.goto (-30), 3) := by decide +kernel
theorem dX8_doPass_97 : decode cX8_doPass 97 = .ok (.iload 5, 2) := by decide +kernel
theorem dX8_doPass_99 : decode cX8_doPass 99 = .ok (.ireturn, 1) := by decide +kernel
theorem dX8_doZero_0 : decode cX8_doZero 0 = .ok (.aload_n 0, 1) := by decide +kernel
theorem dX8_doZero_1 : decode cX8_doZero 1 = .ok (.getfield 7, 3) := by decide +kernel
theorem dX8_doZero_4 : decode cX8_doZero 4 = .ok (.iconst 5, 1) := by decide +kernel
theorem dX8_doZero_5 : decode cX8_doZero 5 = .ok (.iaload, 1) := by decide +kernel
theorem dX8_doZero_6 : decode cX8_doZero 6 = .ok (.istore_n 1, 1) := by decide +kernel
theorem dX8_doZero_7 : decode cX8_doZero 7 = .ok (.aload_n 0, 1) := by decide +kernel
theorem dX8_doZero_8 : decode cX8_doZero 8 = .ok (.getfield 7, 3) := by decide +kernel
theorem dX8_doZero_11 : decode cX8_doZero 11 = .ok (.iconst 5, 1) := by decide +kernel
theorem dX8_doZero_12 : decode cX8_doZero 12 = .ok (.iconst 0, 1) := by decide +kernel
theorem dX8_doZero_13 : decode cX8_doZero 13 = .ok (.iastore, 1) := by decide +kernel
theorem dX8_doZero_14 : decode cX8_doZero 14 = .ok (.aload_n 0, 1) := by decide +kernel
theorem dX8_doZero_15 : decode cX8_doZero 15 = .ok (.getfield 7, 3) := by decide +kernel
theorem dX8_doZero_18 : decode cX8_doZero 18 = .ok (.bipush 6, 2) := by decide +kernel
theorem dX8_doZero_20 : decode cX8_doZero 20 = .ok (.iconst 0, 1) := by decide +kernel
theorem dX8_doZero_21 : decode cX8_doZero 21 = .ok (.iastore, 1) := by decide +kernel
theorem dX8_doZero_22 : decode cX8_doZero 22 = .ok (.iload_n 1, 1) := by decide +kernel
theorem dX8_doZero_23 : decode cX8_doZero 23 = .ok (.ldc 98, 2) := by decide +kernel
theorem dX8_doZero_25 : decode cX8_doZero 25 = .ok (.iadd, 1) := by decide +kernel
theorem dX8_doZero_26 : decode cX8_doZero 26 = .ok (.ireturn, 1) := by decide +kernel
set_option maxRecDepth 20000 in
theorem ggX8_set_X8_keep : GoodIn wsX8_set wsX8_keep := goodIn_r _ [5, 6, 7, 28, 29, 30, 31, 32, 33, 34, 35, 36, 37, 38, 39, 40, 41] (by decide +kernel) (by decide +kernel)
set_option maxRecDepth 20000 in
theorem gX8_set_X8_keep : GoodIn wsX8_set (wsV RX8 99 RX8 yX8_keep wsX8_keep) := goodIn_app (goodIn_of _ (by decide +kernel)) ggX8_set_X8_keep
set_option maxRecDepth 20000 in
theorem ggX8_set_X8_doSet : GoodIn wsX8_set wsX8_doSet := goodIn_r _ [11, 7, 12, 13, 4, 14, 15, 16, 17, 18, 19, 20, 21, 28, 29, 30, 31, 32, 33, 34, 35, 36, 37, 38, 39, 40, 41] (by decide +kernel) (by decide +kernel)
set_option maxRecDepth 20000 in
theorem gX8_set_X8_doSet : GoodIn wsX8_set (wsV RX8 102 RX8 yX8_doSet wsX8_doSet) := goodIn_app (goodIn_of _ (by decide +kernel)) ggX8_set_X8_doSet
set_option maxRecDepth 20000 in
theorem ggX8_set_X8_changed : GoodIn wsX8_set wsX8_changed := goodIn_r _ [25, 26, 27, 6, 28, 29, 30, 31, 32, 33, 34, 35, 36, 37, 38, 39, 40, 41] (by decide +kernel) (by decide +kernel)
set_option maxRecDepth 20000 in
theorem gX8_set_X8_changed : GoodIn wsX8_set (wsV RX8 105 RX8 yX8_changed wsX8_changed) := goodIn_app (goodIn_of _ (by decide +kernel)) ggX8_set_X8_changed
theorem dX8_set_0 : decode cX8_set 0 = .ok (.aload_n 0, 1) := by decide +kernel
theorem dX8_set_1 : decode cX8_set 1 = .ok (.invokevirtual 99, 3) := by decide +kernel
theorem dX8_set_4 : decode cX8_set 4 = .ok (.aload_n 0, 1) := by decide +kernel
theorem dX8_set_5 : decode cX8_set 5 = .ok (.iload_n 1, 1) := by decide +kernel
theorem dX8_set_6 : decode cX8_set 6 = .ok (.iload_n 2, 1) := by decide +kernel
theorem dX8_set_7 : decode cX8_set 7 = .ok (.invokevirtual 102, 3) := by decide +kernel
theorem dX8_set_10 : decode cX8_set 10 = .ok (.istore_n 3, 1) := by decide +kernel
theorem dX8_set_11 : decode cX8_set 11 = .ok (.iload_n 3, 1) := by decide +kernel
theorem dX8_set_12 : decode cX8_set 12 = .ok (.ifCond .ge 7, 3) := by decide +kernel
theorem dX8_set_15 : decode cX8_set 15 = .ok (.iload_n 3, 1) := by decide +kernel
theorem dX8_set_16 : decode cX8_set 16 = .ok (.goto 8, 3) := by decide +kernel
theorem dX8_set_19 : decode cX8_set 19 = .ok (.aload_n 0, 1) := by decide +kernel
theorem dX8_set_20 : decode cX8_set 20 = .ok (.iload_n 3, 1) := by decide +kernel
theorem dX8_set_21 : decode cX8_set 21 = .ok (.invokevirtual 105, 3) := by decide +kernel
theorem dX8_set_24 : decode cX8_set 24 = .ok (.ireturn, 1) := by decide +kernel
set_option maxRecDepth 20000 in
theorem ggX8_weight_X8_keep : GoodIn wsX8_weight wsX8_keep := goodIn_r _ [5, 6, 7, 22, 23, 24, 25, 26, 27, 28, 29, 30, 31, 32, 33, 34, 35] (by decide +kernel) (by decide +kernel)
set_option maxRecDepth 20000 in
theorem gX8_weight_X8_keep : GoodIn wsX8_weight (wsV RX8 99 RX8 yX8_keep wsX8_keep) := goodIn_app (goodIn_of _ (by decide +kernel)) ggX8_weight_X8_keep
set_option maxRecDepth 20000 in
theorem ggX8_weight_X8_doWeight : GoodIn wsX8_weight wsX8_doWeight := goodIn_r _ [11, 12, 7, 13, 14, 4, 15, 22, 23, 24, 25, 26, 27, 28, 29, 30, 31, 32, 33, 34, 35] (by decide +kernel) (by decide +kernel)
set_option maxRecDepth 20000 in
theorem gX8_weight_X8_doWeight : GoodIn wsX8_weight (wsV RX8 108 RX8 yX8_doWeight wsX8_doWeight) := goodIn_app (goodIn_of _ (by decide +kernel)) ggX8_weight_X8_doWeight
set_option maxRecDepth 20000 in
theorem ggX8_weight_X8_changed : GoodIn wsX8_weight wsX8_changed := goodIn_r _ [19, 20, 21, 6, 22, 23, 24, 25, 26, 27, 28, 29, 30, 31, 32, 33, 34, 35] (by decide +kernel) (by decide +kernel)
set_option maxRecDepth 20000 in
theorem gX8_weight_X8_changed : GoodIn wsX8_weight (wsV RX8 105 RX8 yX8_changed wsX8_changed) := goodIn_app (goodIn_of _ (by decide +kernel)) ggX8_weight_X8_changed
theorem dX8_weight_0 : decode cX8_weight 0 = .ok (.aload_n 0, 1) := by decide +kernel
theorem dX8_weight_1 : decode cX8_weight 1 = .ok (.invokevirtual 99, 3) := by decide +kernel
theorem dX8_weight_4 : decode cX8_weight 4 = .ok (.aload_n 0, 1) := by decide +kernel
theorem dX8_weight_5 : decode cX8_weight 5 = .ok (.iload_n 1, 1) := by decide +kernel
theorem dX8_weight_6 : decode cX8_weight 6 = .ok (.invokevirtual 108, 3) := by decide +kernel
theorem dX8_weight_9 : decode cX8_weight 9 = .ok (.istore_n 2, 1) := by decide +kernel
theorem dX8_weight_10 : decode cX8_weight 10 = .ok (.iload_n 2, 1) := by decide +kernel
theorem dX8_weight_11 : decode cX8_weight 11 = .ok (.ifCond .ge 7, 3) := by decide +kernel
theorem dX8_weight_14 : decode cX8_weight 14 = .ok (.iload_n 2, 1) := by decide +kernel
theorem dX8_weight_15 : decode cX8_weight 15 = .ok (.goto 8, 3) := by decide +kernel
theorem dX8_weight_18 : decode cX8_weight 18 = .ok (.aload_n 0, 1) := by decide +kernel
theorem dX8_weight_19 : decode cX8_weight 19 = .ok (.iload_n 2, 1) := by decide +kernel
theorem dX8_weight_20 : decode cX8_weight 20 = .ok (.invokevirtual 105, 3) := by decide +kernel
theorem dX8_weight_23 : decode cX8_weight 23 = .ok (.ireturn, 1) := by decide +kernel
set_option maxRecDepth 20000 in
theorem ggX8_pass_X8_keep : GoodIn wsX8_pass wsX8_keep := goodIn_r _ [5, 6, 7, 62, 63, 64, 65, 66, 67, 68, 69, 70, 71, 72, 73, 74, 75] (by decide +kernel) (by decide +kernel)
set_option maxRecDepth 20000 in
theorem gX8_pass_X8_keep : GoodIn wsX8_pass (wsV RX8 99 RX8 yX8_keep wsX8_keep) := goodIn_app (goodIn_of _ (by decide +kernel)) ggX8_pass_X8_keep
set_option maxRecDepth 20000 in
theorem ggX8_pass_X8_doPass : GoodIn wsX8_pass wsX8_doPass := goodIn_r _ [11, 12, 7, 13, 14, 4, 15, 16, 17, 18, 19, 20, 21, 22, 23, 24, 25, 26, 27, 28, 29, 30, 31, 32, 33, 34, 35, 36, 37, 38, 39, 40, 41, 42, 43, 44, 45, 46, 47, 48, 49, 50, 51, 52, 53, 54, 55, 62, 63, 64, 65, 66, 67, 68, 69, 70, 71, 72, 73, 74, 75] (by decide +kernel) (by decide +kernel)
set_option maxRecDepth 20000 in
theorem gX8_pass_X8_doPass : GoodIn wsX8_pass (wsV RX8 111 RX8 yX8_doPass wsX8_doPass) := goodIn_app (goodIn_of _ (by decide +kernel)) ggX8_pass_X8_doPass
set_option maxRecDepth 20000 in
theorem ggX8_pass_X8_changed : GoodIn wsX8_pass wsX8_changed := goodIn_r _ [59, 60, 61, 6, 62, 63, 64, 65, 66, 67, 68, 69, 70, 71, 72, 73, 74, 75] (by decide +kernel) (by decide +kernel)
set_option maxRecDepth 20000 in
theorem gX8_pass_X8_changed : GoodIn wsX8_pass (wsV RX8 105 RX8 yX8_changed wsX8_changed) := goodIn_app (goodIn_of _ (by decide +kernel)) ggX8_pass_X8_changed
theorem dX8_pass_0 : decode cX8_pass 0 = .ok (.aload_n 0, 1) := by decide +kernel
theorem dX8_pass_1 : decode cX8_pass 1 = .ok (.invokevirtual 99, 3) := by decide +kernel
theorem dX8_pass_4 : decode cX8_pass 4 = .ok (.aload_n 0, 1) := by decide +kernel
theorem dX8_pass_5 : decode cX8_pass 5 = .ok (.iload_n 1, 1) := by decide +kernel
theorem dX8_pass_6 : decode cX8_pass 6 = .ok (.iload_n 2, 1) := by decide +kernel
theorem dX8_pass_7 : decode cX8_pass 7 = .ok (.iload_n 3, 1) := by decide +kernel
theorem dX8_pass_8 : decode cX8_pass 8 = .ok (.iload 4, 2) := by decide +kernel
theorem dX8_pass_10 : decode cX8_pass 10 = .ok (.invokevirtual 111, 3) := by decide +kernel
theorem dX8_pass_13 : decode cX8_pass 13 = .ok (.istore 5, 2) := by decide +kernel
theorem dX8_pass_15 : decode cX8_pass 15 = .ok (.iload 5, 2) := by decide +kernel
theorem dX8_pass_17 : decode cX8_pass 17 = .ok (.ifCond .ge 8, 3) := by decide +kernel
theorem dX8_pass_20 : decode cX8_pass 20 = .ok (.iload 5, 2) := by decide +kernel
theorem dX8_pass_22 : decode cX8_pass 22 = .ok (.goto 9, 3) := by decide +kernel
theorem dX8_pass_25 : decode cX8_pass 25 = .ok (.aload_n 0, 1) := by decide +kernel
theorem dX8_pass_26 : decode cX8_pass 26 = .ok (.iload 5, 2) := by decide +kernel
theorem dX8_pass_28 : decode cX8_pass 28 = .ok (.invokevirtual 105, 3) := by decide +kernel
theorem dX8_pass_31 : decode cX8_pass 31 = .ok (.ireturn, 1) := by decide +kernel
set_option maxRecDepth 20000 in
theorem ggX8_zero_X8_keep : GoodIn wsX8_zero wsX8_keep := goodIn_r _ [5, 6, 7, 19, 20, 21, 22, 23, 24, 25, 26, 27, 28, 29, 30, 31, 32] (by decide +kernel) (by decide +kernel)
set_option maxRecDepth 20000 in
theorem gX8_zero_X8_keep : GoodIn wsX8_zero (wsV RX8 99 RX8 yX8_keep wsX8_keep) := goodIn_app (goodIn_of _ (by decide +kernel)) ggX8_zero_X8_keep
set_option maxRecDepth 20000 in
theorem ggX8_zero_X8_doZero : GoodIn wsX8_zero wsX8_doZero := goodIn_r _ [11, 7, 12, 19, 20, 21, 22, 23, 24, 25, 26, 27, 28, 29, 30, 31, 32] (by decide +kernel) (by decide +kernel)
set_option maxRecDepth 20000 in
theorem gX8_zero_X8_doZero : GoodIn wsX8_zero (wsV RX8 115 RX8 yX8_doZero wsX8_doZero) := goodIn_app (goodIn_of _ (by decide +kernel)) ggX8_zero_X8_doZero
set_option maxRecDepth 20000 in
theorem ggX8_zero_X8_changed : GoodIn wsX8_zero wsX8_changed := goodIn_r _ [16, 17, 18, 6, 19, 20, 21, 22, 23, 24, 25, 26, 27, 28, 29, 30, 31, 32] (by decide +kernel) (by decide +kernel)
set_option maxRecDepth 20000 in
theorem gX8_zero_X8_changed : GoodIn wsX8_zero (wsV RX8 105 RX8 yX8_changed wsX8_changed) := goodIn_app (goodIn_of _ (by decide +kernel)) ggX8_zero_X8_changed
theorem dX8_zero_0 : decode cX8_zero 0 = .ok (.aload_n 0, 1) := by decide +kernel
theorem dX8_zero_1 : decode cX8_zero 1 = .ok (.invokevirtual 99, 3) := by decide +kernel
theorem dX8_zero_4 : decode cX8_zero 4 = .ok (.aload_n 0, 1) := by decide +kernel
theorem dX8_zero_5 : decode cX8_zero 5 = .ok (.aload_n 0, 1) := by decide +kernel
theorem dX8_zero_6 : decode cX8_zero 6 = .ok (.invokevirtual 115, 3) := by decide +kernel
theorem dX8_zero_9 : decode cX8_zero 9 = .ok (.invokevirtual 105, 3) := by decide +kernel
theorem dX8_zero_12 : decode cX8_zero 12 = .ok (.ireturn, 1) := by decide +kernel
theorem dX8_of_0 : decode cX8_of 0 = .ok (.aload_n 0, 1) := by decide +kernel
theorem dX8_of_1 : decode cX8_of 1 = .ok (.getfield 7, 3) := by decide +kernel
theorem dX8_of_4 : decode cX8_of 4 = .ok (.bipush 11, 2) := by decide +kernel
theorem dX8_of_6 : decode cX8_of 6 = .ok (.bipush 7, 2) := by decide +kernel
theorem dX8_of_8 : decode cX8_of 8 = .ok (.iload_n 1, 1) := by decide +kernel
theorem dX8_of_9 : decode cX8_of 9 = .ok (.imul, 1) := by decide +kernel
theorem dX8_of_10 : decode cX8_of 10 = .ok (.iadd, 1) := by decide +kernel
theorem dX8_of_11 : decode cX8_of 11 = .ok (.iload_n 2, 1) := by decide +kernel
theorem dX8_of_12 : decode cX8_of 12 = .ok (.iadd, 1) := by decide +kernel
theorem dX8_of_13 : decode cX8_of 13 = .ok (.iaload, 1) := by decide +kernel
theorem dX8_of_14 : decode cX8_of 14 = .ok (.ireturn, 1) := by decide +kernel
set_option maxRecDepth 20000 in
theorem ggX8_hour_X8_in : GoodIn wsX8_hour wsX8_in := goodIn_r _ [8] (by decide +kernel) (by decide +kernel)
set_option maxRecDepth 20000 in
theorem gX8_hour_X8_in : GoodIn wsX8_hour (va_wsS RX8 36 yX8_in wsX8_in) := goodIn_app (goodIn_of _ (by decide +kernel)) ggX8_hour_X8_in
set_option maxRecDepth 20000 in
theorem ggX8_hour_X8_of : GoodIn wsX8_hour wsX8_of := goodIn_r _ [12, 1, 13, 14, 15, 16, 17, 18, 19, 20, 21, 22, 23, 24, 25, 26] (by decide +kernel) (by decide +kernel)
set_option maxRecDepth 20000 in
theorem gX8_hour_X8_of : GoodIn wsX8_hour (wsV RX8 121 RX8 yX8_of wsX8_of) := goodIn_app (goodIn_of _ (by decide +kernel)) ggX8_hour_X8_of
theorem dX8_hour_0 : decode cX8_hour 0 = .ok (.iload_n 1, 1) := by decide +kernel
theorem dX8_hour_1 : decode cX8_hour 1 = .ok (.i2l, 1) := by decide +kernel
theorem dX8_hour_2 : decode cX8_hour 2 = .ok (.lconst 0, 1) := by decide +kernel
theorem dX8_hour_3 : decode cX8_hour 3 = .ok (.aload_n 0, 1) := by decide +kernel
theorem dX8_hour_4 : decode cX8_hour 4 = .ok (.getfield 7, 3) := by decide +kernel
theorem dX8_hour_7 : decode cX8_hour 7 = .ok (.bipush 9, 2) := by decide +kernel
theorem dX8_hour_9 : decode cX8_hour 9 = .ok (.iaload, 1) := by decide +kernel
theorem dX8_hour_10 : decode cX8_hour 10 = .ok (.i2l, 1) := by decide +kernel
theorem dX8_hour_11 : decode cX8_hour 11 = .ok (.lconst 1, 1) := by decide +kernel
theorem dX8_hour_12 : decode cX8_hour 12 = .ok (.lsub, 1) := by decide +kernel
theorem dX8_hour_13 : decode cX8_hour 13 = .ok (.invokestatic 36, 3) := by decide +kernel
theorem dX8_hour_16 : decode cX8_hour 16 = .ok (.ifCond .ne 5, 3) := by decide +kernel
theorem dX8_hour_19 : decode cX8_hour 19 = .ok (.iconst (-1), 1) := by decide +kernel
theorem dX8_hour_20 : decode cX8_hour 20 = .ok (.ireturn, 1) := by decide +kernel
theorem dX8_hour_21 : decode cX8_hour 21 = .ok (.iload_n 2, 1) := by decide +kernel
theorem dX8_hour_22 : decode cX8_hour 22 = .ok (.i2l, 1) := by decide +kernel
theorem dX8_hour_23 : decode cX8_hour 23 = .ok (.lconst 0, 1) := by decide +kernel
theorem dX8_hour_24 : decode cX8_hour 24 = .ok (.ldc2_w 119, 3) := by decide +kernel
theorem dX8_hour_27 : decode cX8_hour 27 = .ok (.invokestatic 36, 3) := by decide +kernel
theorem dX8_hour_30 : decode cX8_hour 30 = .ok (.ifCond .ne 6, 3) := by decide +kernel
theorem dX8_hour_33 : decode cX8_hour 33 = .ok (.bipush (-2), 2) := by decide +kernel
theorem dX8_hour_35 : decode cX8_hour 35 = .ok (.ireturn, 1) := by decide +kernel
theorem dX8_hour_36 : decode cX8_hour 36 = .ok (.aload_n 0, 1) := by decide +kernel
theorem dX8_hour_37 : decode cX8_hour 37 = .ok (.iload_n 1, 1) := by decide +kernel
theorem dX8_hour_38 : decode cX8_hour 38 = .ok (.iload_n 2, 1) := by decide +kernel
theorem dX8_hour_39 : decode cX8_hour 39 = .ok (.invokevirtual 121, 3) := by decide +kernel
theorem dX8_hour_42 : decode cX8_hour 42 = .ok (.iload_n 2, 1) := by decide +kernel
theorem dX8_hour_43 : decode cX8_hour 43 = .ok (.ifCond .ne 8, 3) := by decide +kernel
theorem dX8_hour_46 : decode cX8_hour 46 = .ok (.bipush 100, 2) := by decide +kernel
theorem dX8_hour_48 : decode cX8_hour 48 = .ok (.goto 24, 3) := by decide +kernel
theorem dX8_hour_51 : decode cX8_hour 51 = .ok (.iload_n 2, 1) := by decide +kernel
theorem dX8_hour_52 : decode cX8_hour 52 = .ok (.iconst 3, 1) := by decide +kernel
theorem dX8_hour_53 : decode cX8_hour 53 = .ok (.if_icmp .ne 8, 3) := by decide +kernel
theorem dX8_hour_56 : decode cX8_hour 56 = .ok (.ldc 124, 2) := by decide +kernel
theorem dX8_hour_58 : decode cX8_hour 58 = .ok (.goto 14, 3) := by decide +kernel
theorem dX8_hour_61 : decode cX8_hour 61 = .ok (.iload_n 2, 1) := by decide +kernel
theorem dX8_hour_62 : decode cX8_hour 62 = .ok (.iconst 4, 1) := by decide +kernel
theorem dX8_hour_63 : decode cX8_hour 63 = .ok (.if_icmp .ne 8, 3) := by decide +kernel
theorem dX8_hour_66 : decode cX8_hour 66 = .ok (.ldc 98, 2) := by decide +kernel
theorem dX8_hour_68 : decode cX8_hour 68 = .ok (.goto 4, 3) := by decide +kernel
theorem dX8_hour_71 : decode cX8_hour 71 = .ok (.iconst 0, 1) := by decide +kernel
theorem dX8_hour_72 : decode cX8_hour 72 = .ok (.iadd, 1) := by decide +kernel
theorem dX8_hour_73 : decode cX8_hour 73 = .ok (.ireturn, 1) := by decide +kernel
theorem dX8_count_0 : decode cX8_count 0 = .ok (.iload_n 1, 1) := by decide +kernel
theorem dX8_count_1 : decode cX8_count 1 = .ok (.tableswitch 152 0 12 #[67, 74, 84, 96, 104, 112, 120, 128, 128, 128, 128, 142, 147], 67) := by decide +kernel
theorem dX8_count_68 : decode cX8_count 68 = .ok (.aload_n 0, 1) := by decide +kernel
theorem dX8_count_69 : decode cX8_count 69 = .ok (.getfield 7, 3) := by decide +kernel
theorem dX8_count_72 : decode cX8_count 72 = .ok (.iconst 4, 1) := by decide +kernel
theorem dX8_count_73 : decode cX8_count 73 = .ok (.iaload, 1) := by decide +kernel
theorem dX8_count_74 : decode cX8_count 74 = .ok (.ireturn, 1) := by decide +kernel
theorem dX8_count_75 : decode cX8_count 75 = .ok (.aload_n 0, 1) := by decide +kernel
theorem dX8_count_76 : decode cX8_count 76 = .ok (.getfield 7, 3) := by decide +kernel
theorem dX8_count_79 : decode cX8_count 79 = .ok (.iconst 5, 1) := by decide +kernel
theorem dX8_count_80 : decode cX8_count 80 = .ok (.iaload, 1) := by decide +kernel
theorem dX8_count_81 : decode cX8_count 81 = .ok (.ldc 98, 2) := by decide +kernel
theorem dX8_count_83 : decode cX8_count 83 = .ok (.iadd, 1) := by decide +kernel
theorem dX8_count_84 : decode cX8_count 84 = .ok (.ireturn, 1) := by decide +kernel
theorem dX8_count_85 : decode cX8_count 85 = .ok (.aload_n 0, 1) := by decide +kernel
theorem dX8_count_86 : decode cX8_count 86 = .ok (.getfield 7, 3) := by decide +kernel
theorem dX8_count_89 : decode cX8_count 89 = .ok (.bipush 6, 2) := by decide +kernel
theorem dX8_count_91 : decode cX8_count 91 = .ok (.iaload, 1) := by decide +kernel
theorem dX8_count_92 : decode cX8_count 92 = .ok (.sipush 1000, 3) := by decide +kernel
theorem dX8_count_95 : decode cX8_count 95 = .ok (.iadd, 1) := by decide +kernel
theorem dX8_count_96 : decode cX8_count 96 = .ok (.ireturn, 1) := by decide +kernel
theorem dX8_count_97 : decode cX8_count 97 = .ok (.aload_n 0, 1) := by decide +kernel
theorem dX8_count_98 : decode cX8_count 98 = .ok (.getfield 7, 3) := by decide +kernel
theorem dX8_count_101 : decode cX8_count 101 = .ok (.bipush 7, 2) := by decide +kernel
theorem dX8_count_103 : decode cX8_count 103 = .ok (.iaload, 1) := by decide +kernel
theorem dX8_count_104 : decode cX8_count 104 = .ok (.ireturn, 1) := by decide +kernel
theorem dX8_count_105 : decode cX8_count 105 = .ok (.aload_n 0, 1) := by decide +kernel
theorem dX8_count_106 : decode cX8_count 106 = .ok (.getfield 7, 3) := by decide +kernel
theorem dX8_count_109 : decode cX8_count 109 = .ok (.bipush 8, 2) := by decide +kernel
theorem dX8_count_111 : decode cX8_count 111 = .ok (.iaload, 1) := by decide +kernel
theorem dX8_count_112 : decode cX8_count 112 = .ok (.ireturn, 1) := by decide +kernel
theorem dX8_count_113 : decode cX8_count 113 = .ok (.aload_n 0, 1) := by decide +kernel
theorem dX8_count_114 : decode cX8_count 114 = .ok (.getfield 7, 3) := by decide +kernel
theorem dX8_count_117 : decode cX8_count 117 = .ok (.bipush 9, 2) := by decide +kernel
theorem dX8_count_119 : decode cX8_count 119 = .ok (.iaload, 1) := by decide +kernel
theorem dX8_count_120 : decode cX8_count 120 = .ok (.ireturn, 1) := by decide +kernel
theorem dX8_count_121 : decode cX8_count 121 = .ok (.aload_n 0, 1) := by decide +kernel
