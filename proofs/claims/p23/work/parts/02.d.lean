theorem dX7_init_38 : decode cX7_init 38 = .ok (.new 23, 3) := by decide +kernel
theorem dX7_init_41 : decode cX7_init 41 = .ok (.dup, 1) := by decide +kernel
theorem dX7_init_42 : decode cX7_init 42 = .ok (.invokespecial 25, 3) := by decide +kernel
theorem dX7_init_45 : decode cX7_init 45 = .ok (.putfield 30, 3) := by decide +kernel
theorem dX7_init_48 : decode cX7_init 48 = .ok (.aload_n 0, 1) := by decide +kernel
theorem dX7_init_49 : decode cX7_init 49 = .ok (.new 33, 3) := by decide +kernel
theorem dX7_init_52 : decode cX7_init 52 = .ok (.dup, 1) := by decide +kernel
theorem dX7_init_53 : decode cX7_init 53 = .ok (.invokespecial 35, 3) := by decide +kernel
theorem dX7_init_56 : decode cX7_init 56 = .ok (.putfield 36, 3) := by decide +kernel
theorem dX7_init_59 : decode cX7_init 59 = .ok (.aload_n 0, 1) := by decide +kernel
theorem dX7_init_60 : decode cX7_init 60 = .ok (.new 40, 3) := by decide +kernel
theorem dX7_init_63 : decode cX7_init 63 = .ok (.dup, 1) := by decide +kernel
theorem dX7_init_64 : decode cX7_init 64 = .ok (.invokespecial 42, 3) := by decide +kernel
theorem dX7_init_67 : decode cX7_init 67 = .ok (.putfield 43, 3) := by decide +kernel
theorem dX7_init_70 : decode cX7_init 70 = .ok (.return_, 1) := by decide +kernel
set_option maxRecDepth 20000 in
theorem ggX7_set_X0_errorOfSetting : GoodIn wsX7_set wsX0_errorOfSetting := goodIn_r _ [7] (by decide +kernel) (by decide +kernel)
set_option maxRecDepth 20000 in
theorem gX7_set_X0_errorOfSetting : GoodIn wsX7_set (wsV RX7 47 RX0 yX0_errorOfSetting wsX0_errorOfSetting) := goodIn_app (goodIn_of _ (by decide +kernel)) ggX7_set_X0_errorOfSetting
set_option maxRecDepth 20000 in
theorem ggX7_set_X2_record : GoodIn wsX7_set wsX2_record := goodIn_r _ [12, 13, 14, 15, 16, 17, 18, 19, 20, 21, 6, 22, 23, 24, 25, 26, 27, 28, 29, 30, 31, 32, 33, 34, 35, 36, 37, 38, 39, 40, 41, 42, 43, 44, 45, 46, 47, 48, 63, 64, 65, 66, 67, 68, 69, 70, 71, 72, 73, 74, 75] (by decide +kernel) (by decide +kernel)
set_option maxRecDepth 20000 in
theorem gX7_set_X2_record : GoodIn wsX7_set (wsV RX7 51 RX2 yX2_record wsX2_record) := goodIn_app (goodIn_of _ (by decide +kernel)) ggX7_set_X2_record
set_option maxRecDepth 20000 in
theorem ggX7_set_X0_changeSetting : GoodIn wsX7_set wsX0_changeSetting := goodIn_r _ [52, 23, 53, 54, 55, 6, 56, 65, 66, 67, 68, 69, 70, 71] (by decide +kernel) (by decide +kernel)
set_option maxRecDepth 20000 in
theorem gX7_set_X0_changeSetting : GoodIn wsX7_set (wsV RX7 55 RX0 yX0_changeSetting wsX0_changeSetting) := goodIn_app (goodIn_of _ (by decide +kernel)) ggX7_set_X0_changeSetting
theorem dX7_set_0 : decode cX7_set 0 = .ok (.aload_n 0, 1) := by decide +kernel
theorem dX7_set_1 : decode cX7_set 1 = .ok (.getfield 10, 3) := by decide +kernel
theorem dX7_set_4 : decode cX7_set 4 = .ok (.iload_n 1, 1) := by decide +kernel
theorem dX7_set_5 : decode cX7_set 5 = .ok (.iload_n 2, 1) := by decide +kernel
theorem dX7_set_6 : decode cX7_set 6 = .ok (.invokevirtual 47, 3) := by decide +kernel
theorem dX7_set_9 : decode cX7_set 9 = .ok (.istore_n 3, 1) := by decide +kernel
theorem dX7_set_10 : decode cX7_set 10 = .ok (.iload_n 3, 1) := by decide +kernel
theorem dX7_set_11 : decode cX7_set 11 = .ok (.ifCond .eq 5, 3) := by decide +kernel
theorem dX7_set_14 : decode cX7_set 14 = .ok (.iload_n 3, 1) := by decide +kernel
theorem dX7_set_15 : decode cX7_set 15 = .ok (.ireturn, 1) := by decide +kernel
theorem dX7_set_16 : decode cX7_set 16 = .ok (.aload_n 0, 1) := by decide +kernel
theorem dX7_set_17 : decode cX7_set 17 = .ok (.getfield 19, 3) := by decide +kernel
theorem dX7_set_20 : decode cX7_set 20 = .ok (.aload_n 0, 1) := by decide +kernel
theorem dX7_set_21 : decode cX7_set 21 = .ok (.getfield 10, 3) := by decide +kernel
theorem dX7_set_24 : decode cX7_set 24 = .ok (.invokevirtual 51, 3) := by decide +kernel
theorem dX7_set_27 : decode cX7_set 27 = .ok (.aload_n 0, 1) := by decide +kernel
theorem dX7_set_28 : decode cX7_set 28 = .ok (.getfield 10, 3) := by decide +kernel
theorem dX7_set_31 : decode cX7_set 31 = .ok (.iload_n 1, 1) := by decide +kernel
theorem dX7_set_32 : decode cX7_set 32 = .ok (.iload_n 2, 1) := by decide +kernel
theorem dX7_set_33 : decode cX7_set 33 = .ok (.invokevirtual 55, 3) := by decide +kernel
theorem dX7_set_36 : decode cX7_set 36 = .ok (.sipush 1000, 3) := by decide +kernel
theorem dX7_set_39 : decode cX7_set 39 = .ok (.iadd, 1) := by decide +kernel
theorem dX7_set_40 : decode cX7_set 40 = .ok (.ireturn, 1) := by decide +kernel
set_option maxRecDepth 20000 in
theorem ggX7_weight_X0_errorOfWeight : GoodIn wsX7_weight wsX0_errorOfWeight := goodIn_r _ [7] (by decide +kernel) (by decide +kernel)
set_option maxRecDepth 20000 in
theorem gX7_weight_X0_errorOfWeight : GoodIn wsX7_weight (wsV RX7 58 RX0 yX0_errorOfWeight wsX0_errorOfWeight) := goodIn_app (goodIn_of _ (by decide +kernel)) ggX7_weight_X0_errorOfWeight
set_option maxRecDepth 20000 in
theorem ggX7_weight_X2_record : GoodIn wsX7_weight wsX2_record := goodIn_r _ [12, 13, 14, 15, 16, 17, 18, 19, 20, 21, 6, 22, 23, 24, 25, 26, 27, 28, 29, 30, 31, 32, 33, 34, 35, 36, 37, 38, 39, 40, 41, 42, 43, 44, 45, 46, 47, 48, 59, 60, 61, 62, 63, 64, 65, 66, 67, 68, 69, 70, 71] (by decide +kernel) (by decide +kernel)
set_option maxRecDepth 20000 in
theorem gX7_weight_X2_record : GoodIn wsX7_weight (wsV RX7 51 RX2 yX2_record wsX2_record) := goodIn_app (goodIn_of _ (by decide +kernel)) ggX7_weight_X2_record
set_option maxRecDepth 20000 in
theorem ggX7_weight_X0_moveWeight : GoodIn wsX7_weight wsX0_moveWeight := goodIn_r _ [52, 30, 61, 62, 63, 64, 65, 66, 67] (by decide +kernel) (by decide +kernel)
set_option maxRecDepth 20000 in
theorem gX7_weight_X0_moveWeight : GoodIn wsX7_weight (wsV RX7 62 RX0 yX0_moveWeight wsX0_moveWeight) := goodIn_app (goodIn_of _ (by decide +kernel)) ggX7_weight_X0_moveWeight
theorem dX7_weight_0 : decode cX7_weight 0 = .ok (.aload_n 0, 1) := by decide +kernel
theorem dX7_weight_1 : decode cX7_weight 1 = .ok (.getfield 10, 3) := by decide +kernel
theorem dX7_weight_4 : decode cX7_weight 4 = .ok (.iload_n 1, 1) := by decide +kernel
theorem dX7_weight_5 : decode cX7_weight 5 = .ok (.invokevirtual 58, 3) := by decide +kernel
theorem dX7_weight_8 : decode cX7_weight 8 = .ok (.istore_n 2, 1) := by decide +kernel
theorem dX7_weight_9 : decode cX7_weight 9 = .ok (.iload_n 2, 1) := by decide +kernel
theorem dX7_weight_10 : decode cX7_weight 10 = .ok (.ifCond .eq 5, 3) := by decide +kernel
theorem dX7_weight_13 : decode cX7_weight 13 = .ok (.iload_n 2, 1) := by decide +kernel
theorem dX7_weight_14 : decode cX7_weight 14 = .ok (.ireturn, 1) := by decide +kernel
theorem dX7_weight_15 : decode cX7_weight 15 = .ok (.aload_n 0, 1) := by decide +kernel
theorem dX7_weight_16 : decode cX7_weight 16 = .ok (.getfield 19, 3) := by decide +kernel
theorem dX7_weight_19 : decode cX7_weight 19 = .ok (.aload_n 0, 1) := by decide +kernel
theorem dX7_weight_20 : decode cX7_weight 20 = .ok (.getfield 10, 3) := by decide +kernel
theorem dX7_weight_23 : decode cX7_weight 23 = .ok (.invokevirtual 51, 3) := by decide +kernel
theorem dX7_weight_26 : decode cX7_weight 26 = .ok (.aload_n 0, 1) := by decide +kernel
theorem dX7_weight_27 : decode cX7_weight 27 = .ok (.getfield 10, 3) := by decide +kernel
theorem dX7_weight_30 : decode cX7_weight 30 = .ok (.iload_n 1, 1) := by decide +kernel
theorem dX7_weight_31 : decode cX7_weight 31 = .ok (.invokevirtual 62, 3) := by decide +kernel
theorem dX7_weight_34 : decode cX7_weight 34 = .ok (.ireturn, 1) := by decide +kernel
set_option maxRecDepth 20000 in
theorem ggX7_pass_X0_errorOfHours : GoodIn wsX7_pass wsX0_errorOfHours := goodIn_r _ [7, 8, 9, 10, 11, 12, 13, 109, 110, 111, 112, 113, 114, 115] (by decide +kernel) (by decide +kernel)
set_option maxRecDepth 20000 in
theorem gX7_pass_X0_errorOfHours : GoodIn wsX7_pass (wsV RX7 65 RX0 yX0_errorOfHours wsX0_errorOfHours) := goodIn_app (goodIn_of _ (by decide +kernel)) ggX7_pass_X0_errorOfHours
set_option maxRecDepth 20000 in
theorem ggX7_pass_X2_record : GoodIn wsX7_pass wsX2_record := goodIn_r _ [18, 19, 20, 21, 22, 23, 24, 25, 26, 27, 6, 28, 29, 30, 31, 32, 33, 34, 35, 36, 8, 37, 38, 39, 40, 41, 42, 43, 44, 45, 46, 47, 48, 49, 50, 51, 52, 53, 116, 117, 109, 110, 111, 112, 113, 114, 115, 118, 119, 120, 121] (by decide +kernel) (by decide +kernel)
set_option maxRecDepth 20000 in
theorem gX7_pass_X2_record : GoodIn wsX7_pass (wsV RX7 51 RX2 yX2_record wsX2_record) := goodIn_app (goodIn_of _ (by decide +kernel)) ggX7_pass_X2_record
set_option maxRecDepth 20000 in
theorem ggX7_pass_X0_goHours : GoodIn wsX7_pass wsX0_goHours := goodIn_r _ [57, 38, 58, 59, 60, 6, 61, 34, 35, 62, 36, 8, 37, 63, 64, 65, 66, 67, 68, 69, 70, 71, 72, 73, 74, 29, 75, 76, 77, 42, 78, 45, 44, 79, 80, 81, 82, 83, 84, 85, 49, 86, 53, 87, 88, 89, 90, 51, 91, 92, 93, 94, 95, 96, 97, 98, 99, 100, 101, 102, 109, 110, 111, 112, 113, 114, 115, 118, 119, 120, 121] (by decide +kernel) (by decide +kernel)
set_option maxRecDepth 20000 in
theorem gX7_pass_X0_goHours : GoodIn wsX7_pass (wsV RX7 69 RX0 yX0_goHours wsX0_goHours) := goodIn_app (goodIn_of _ (by decide +kernel)) ggX7_pass_X0_goHours
theorem dX7_pass_0 : decode cX7_pass 0 = .ok (.aload_n 0, 1) := by decide +kernel
theorem dX7_pass_1 : decode cX7_pass 1 = .ok (.getfield 10, 3) := by decide +kernel
theorem dX7_pass_4 : decode cX7_pass 4 = .ok (.iload_n 1, 1) := by decide +kernel
theorem dX7_pass_5 : decode cX7_pass 5 = .ok (.iload_n 2, 1) := by decide +kernel
theorem dX7_pass_6 : decode cX7_pass 6 = .ok (.iload_n 3, 1) := by decide +kernel
theorem dX7_pass_7 : decode cX7_pass 7 = .ok (.iload 4, 2) := by decide +kernel
theorem dX7_pass_9 : decode cX7_pass 9 = .ok (.invokevirtual 65, 3) := by decide +kernel
theorem dX7_pass_12 : decode cX7_pass 12 = .ok (.istore 5, 2) := by decide +kernel
theorem dX7_pass_14 : decode cX7_pass 14 = .ok (.iload 5, 2) := by decide +kernel
theorem dX7_pass_16 : decode cX7_pass 16 = .ok (.ifCond .eq 6, 3) := by decide +kernel
theorem dX7_pass_19 : decode cX7_pass 19 = .ok (.iload 5, 2) := by decide +kernel
theorem dX7_pass_21 : decode cX7_pass 21 = .ok (.ireturn, 1) := by decide +kernel
theorem dX7_pass_22 : decode cX7_pass 22 = .ok (.aload_n 0, 1) := by decide +kernel
theorem dX7_pass_23 : decode cX7_pass 23 = .ok (.getfield 19, 3) := by decide +kernel
theorem dX7_pass_26 : decode cX7_pass 26 = .ok (.aload_n 0, 1) := by decide +kernel
theorem dX7_pass_27 : decode cX7_pass 27 = .ok (.getfield 10, 3) := by decide +kernel
theorem dX7_pass_30 : decode cX7_pass 30 = .ok (.invokevirtual 51, 3) := by decide +kernel
theorem dX7_pass_33 : decode cX7_pass 33 = .ok (.aload_n 0, 1) := by decide +kernel
theorem dX7_pass_34 : decode cX7_pass 34 = .ok (.getfield 10, 3) := by decide +kernel
theorem dX7_pass_37 : decode cX7_pass 37 = .ok (.iload_n 1, 1) := by decide +kernel
theorem dX7_pass_38 : decode cX7_pass 38 = .ok (.iload_n 2, 1) := by decide +kernel
theorem dX7_pass_39 : decode cX7_pass 39 = .ok (.iload_n 3, 1) := by decide +kernel
theorem dX7_pass_40 : decode cX7_pass 40 = .ok (.iload 4, 2) := by decide +kernel
theorem dX7_pass_42 : decode cX7_pass 42 = .ok (.invokevirtual 69, 3) := by decide +kernel
theorem dX7_pass_45 : decode cX7_pass 45 = .ok (.ireturn, 1) := by decide +kernel
set_option maxRecDepth 20000 in
theorem ggX7_zero_X2_record : GoodIn wsX7_zero wsX2_record := goodIn_r _ [9, 10, 11, 12, 13, 14, 15, 16, 17, 18, 19, 20, 21, 22, 23, 24, 25, 26, 27, 28, 29, 30, 31, 32, 33, 34, 35, 36, 37, 38, 39, 40, 41, 42, 43, 44, 45, 46, 66, 67, 57, 58, 59, 60, 61, 62, 63, 64, 65, 68, 69] (by decide +kernel) (by decide +kernel)
set_option maxRecDepth 20000 in
theorem gX7_zero_X2_record : GoodIn wsX7_zero (wsV RX7 51 RX2 yX2_record wsX2_record) := goodIn_app (goodIn_of _ (by decide +kernel)) ggX7_zero_X2_record
set_option maxRecDepth 20000 in
theorem ggX7_zero_X1_clear : GoodIn wsX7_zero wsX1_clear := goodIn_r _ [50, 37, 38, 64, 65] (by decide +kernel) (by decide +kernel)
set_option maxRecDepth 20000 in
theorem gX7_zero_X1_clear : GoodIn wsX7_zero (wsV RX7 79 RX1 yX1_clear wsX1_clear) := goodIn_app (goodIn_of _ (by decide +kernel)) ggX7_zero_X1_clear
theorem dX7_zero_0 : decode cX7_zero 0 = .ok (.aload_n 0, 1) := by decide +kernel
theorem dX7_zero_1 : decode cX7_zero 1 = .ok (.getfield 19, 3) := by decide +kernel
theorem dX7_zero_4 : decode cX7_zero 4 = .ok (.aload_n 0, 1) := by decide +kernel
theorem dX7_zero_5 : decode cX7_zero 5 = .ok (.getfield 10, 3) := by decide +kernel
theorem dX7_zero_8 : decode cX7_zero 8 = .ok (.invokevirtual 51, 3) := by decide +kernel
theorem dX7_zero_11 : decode cX7_zero 11 = .ok (.aload_n 0, 1) := by decide +kernel
theorem dX7_zero_12 : decode cX7_zero 12 = .ok (.getfield 10, 3) := by decide +kernel
theorem dX7_zero_15 : decode cX7_zero 15 = .ok (.getfield 72, 3) := by decide +kernel
theorem dX7_zero_18 : decode cX7_zero 18 = .ok (.getfield 75, 3) := by decide +kernel
theorem dX7_zero_21 : decode cX7_zero 21 = .ok (.istore_n 1, 1) := by decide +kernel
theorem dX7_zero_22 : decode cX7_zero 22 = .ok (.aload_n 0, 1) := by decide +kernel
theorem dX7_zero_23 : decode cX7_zero 23 = .ok (.getfield 10, 3) := by decide +kernel
theorem dX7_zero_26 : decode cX7_zero 26 = .ok (.getfield 72, 3) := by decide +kernel
theorem dX7_zero_29 : decode cX7_zero 29 = .ok (.invokevirtual 79, 3) := by decide +kernel
theorem dX7_zero_32 : decode cX7_zero 32 = .ok (.iload_n 1, 1) := by decide +kernel
theorem dX7_zero_33 : decode cX7_zero 33 = .ok (.ldc 82, 2) := by decide +kernel
theorem dX7_zero_35 : decode cX7_zero 35 = .ok (.iadd, 1) := by decide +kernel
theorem dX7_zero_36 : decode cX7_zero 36 = .ok (.ireturn, 1) := by decide +kernel
set_option maxRecDepth 20000 in
theorem ggX7_hour_X3_length : GoodIn wsX7_hour wsX3_length := goodIn_r _ [7, 8, 9, 10, 11, 12, 35, 36] (by decide +kernel) (by decide +kernel)
set_option maxRecDepth 20000 in
theorem gX7_hour_X3_length : GoodIn wsX7_hour (wsV RX7 87 RX3 yX3_length wsX3_length) := goodIn_app (goodIn_of _ (by decide +kernel)) ggX7_hour_X3_length
set_option maxRecDepth 20000 in
theorem ggX7_hour_X3_fact : GoodIn wsX7_hour wsX3_fact := goodIn_r _ [16, 17, 18, 19, 20, 6, 21, 8, 35, 36] (by decide +kernel) (by decide +kernel)
set_option maxRecDepth 20000 in
theorem gX7_hour_X3_fact : GoodIn wsX7_hour (wsV RX7 97 RX3 yX3_fact wsX3_fact) := goodIn_app (goodIn_of _ (by decide +kernel)) ggX7_hour_X3_fact
theorem dX7_hour_0 : decode cX7_hour 0 = .ok (.iload_n 1, 1) := by decide +kernel
theorem dX7_hour_1 : decode cX7_hour 1 = .ok (.ifCond .lt 17, 3) := by decide +kernel
theorem dX7_hour_4 : decode cX7_hour 4 = .ok (.iload_n 1, 1) := by decide +kernel
theorem dX7_hour_5 : decode cX7_hour 5 = .ok (.aload_n 0, 1) := by decide +kernel
theorem dX7_hour_6 : decode cX7_hour 6 = .ok (.getfield 10, 3) := by decide +kernel
theorem dX7_hour_9 : decode cX7_hour 9 = .ok (.getfield 83, 3) := by decide +kernel
theorem dX7_hour_12 : decode cX7_hour 12 = .ok (.invokevirtual 87, 3) := by decide +kernel
theorem dX7_hour_15 : decode cX7_hour 15 = .ok (.if_icmp .lt 5, 3) := by decide +kernel
theorem dX7_hour_18 : decode cX7_hour 18 = .ok (.iconst (-1), 1) := by decide +kernel
theorem dX7_hour_19 : decode cX7_hour 19 = .ok (.ireturn, 1) := by decide +kernel
theorem dX7_hour_20 : decode cX7_hour 20 = .ok (.iload_n 2, 1) := by decide +kernel
theorem dX7_hour_21 : decode cX7_hour 21 = .ok (.ifCond .lt 11, 3) := by decide +kernel
theorem dX7_hour_24 : decode cX7_hour 24 = .ok (.iload_n 2, 1) := by decide +kernel
theorem dX7_hour_25 : decode cX7_hour 25 = .ok (.getstatic 93, 3) := by decide +kernel
theorem dX7_hour_28 : decode cX7_hour 28 = .ok (.arraylength, 1) := by decide +kernel
theorem dX7_hour_29 : decode cX7_hour 29 = .ok (.if_icmp .lt 6, 3) := by decide +kernel
theorem dX7_hour_32 : decode cX7_hour 32 = .ok (.bipush (-2), 2) := by decide +kernel
theorem dX7_hour_34 : decode cX7_hour 34 = .ok (.ireturn, 1) := by decide +kernel
theorem dX7_hour_35 : decode cX7_hour 35 = .ok (.aload_n 0, 1) := by decide +kernel
theorem dX7_hour_36 : decode cX7_hour 36 = .ok (.getfield 10, 3) := by decide +kernel
theorem dX7_hour_39 : decode cX7_hour 39 = .ok (.getfield 83, 3) := by decide +kernel
theorem dX7_hour_42 : decode cX7_hour 42 = .ok (.iload_n 1, 1) := by decide +kernel
theorem dX7_hour_43 : decode cX7_hour 43 = .ok (.iload_n 2, 1) := by decide +kernel
theorem dX7_hour_44 : decode cX7_hour 44 = .ok (.invokevirtual 97, 3) := by decide +kernel
theorem dX7_hour_47 : decode cX7_hour 47 = .ok (.getstatic 93, 3) := by decide +kernel
theorem dX7_hour_50 : decode cX7_hour 50 = .ok (.iload_n 2, 1) := by decide +kernel
theorem dX7_hour_51 : decode cX7_hour 51 = .ok (.iaload, 1) := by decide +kernel
theorem dX7_hour_52 : decode cX7_hour 52 = .ok (.iadd, 1) := by decide +kernel
theorem dX7_hour_53 : decode cX7_hour 53 = .ok (.ireturn, 1) := by decide +kernel
set_option maxRecDepth 20000 in
theorem ggX7_count_X3_length : GoodIn wsX7_count wsX3_length := goodIn_r _ [11, 12, 13, 14, 15, 16, 50, 51] (by decide +kernel) (by decide +kernel)
set_option maxRecDepth 20000 in
theorem gX7_count_X3_length : GoodIn wsX7_count (wsV RX7 87 RX3 yX3_length wsX3_length) := goodIn_app (goodIn_of _ (by decide +kernel)) ggX7_count_X3_length
set_option maxRecDepth 20000 in
theorem ggX7_count_X0_setting : GoodIn wsX7_count wsX0_setting := goodIn_r _ [21, 22, 29, 30, 31, 32, 33, 34, 35] (by decide +kernel) (by decide +kernel)
set_option maxRecDepth 20000 in
theorem gX7_count_X0_setting : GoodIn wsX7_count (wsV RX7 115 RX0 yX0_setting wsX0_setting) := goodIn_app (goodIn_of _ (by decide +kernel)) ggX7_count_X0_setting
theorem dX7_count_0 : decode cX7_count 0 = .ok (.iload_n 1, 1) := by decide +kernel
theorem dX7_count_1 : decode cX7_count 1 = .ok (.tableswitch 210 0 12 #[67, 75, 89, 104, 112, 120, 131, 139, 152, 165, 178, 191, 202], 67) := by decide +kernel
theorem dX7_count_68 : decode cX7_count 68 = .ok (.aload_n 0, 1) := by decide +kernel
theorem dX7_count_69 : decode cX7_count 69 = .ok (.getfield 10, 3) := by decide +kernel
theorem dX7_count_72 : decode cX7_count 72 = .ok (.getfield 100, 3) := by decide +kernel
theorem dX7_count_75 : decode cX7_count 75 = .ok (.ireturn, 1) := by decide +kernel
theorem dX7_count_76 : decode cX7_count 76 = .ok (.aload_n 0, 1) := by decide +kernel
theorem dX7_count_77 : decode cX7_count 77 = .ok (.getfield 10, 3) := by decide +kernel
theorem dX7_count_80 : decode cX7_count 80 = .ok (.getfield 72, 3) := by decide +kernel
theorem dX7_count_83 : decode cX7_count 83 = .ok (.getfield 75, 3) := by decide +kernel
theorem dX7_count_86 : decode cX7_count 86 = .ok (.ldc 82, 2) := by decide +kernel
theorem dX7_count_88 : decode cX7_count 88 = .ok (.iadd, 1) := by decide +kernel
theorem dX7_count_89 : decode cX7_count 89 = .ok (.ireturn, 1) := by decide +kernel
theorem dX7_count_90 : decode cX7_count 90 = .ok (.aload_n 0, 1) := by decide +kernel
theorem dX7_count_91 : decode cX7_count 91 = .ok (.getfield 10, 3) := by decide +kernel
theorem dX7_count_94 : decode cX7_count 94 = .ok (.getfield 72, 3) := by decide +kernel
theorem dX7_count_97 : decode cX7_count 97 = .ok (.getfield 103, 3) := by decide +kernel
theorem dX7_count_100 : decode cX7_count 100 = .ok (.sipush 1000, 3) := by decide +kernel
theorem dX7_count_103 : decode cX7_count 103 = .ok (.iadd, 1) := by decide +kernel
theorem dX7_count_104 : decode cX7_count 104 = .ok (.ireturn, 1) := by decide +kernel
theorem dX7_count_105 : decode cX7_count 105 = .ok (.aload_n 0, 1) := by decide +kernel
theorem dX7_count_106 : decode cX7_count 106 = .ok (.getfield 10, 3) := by decide +kernel
theorem dX7_count_109 : decode cX7_count 109 = .ok (.getfield 106, 3) := by decide +kernel
theorem dX7_count_112 : decode cX7_count 112 = .ok (.ireturn, 1) := by decide +kernel
theorem dX7_count_113 : decode cX7_count 113 = .ok (.aload_n 0, 1) := by decide +kernel
theorem dX7_count_114 : decode cX7_count 114 = .ok (.getfield 10, 3) := by decide +kernel
theorem dX7_count_117 : decode cX7_count 117 = .ok (.getfield 109, 3) := by decide +kernel
theorem dX7_count_120 : decode cX7_count 120 = .ok (.ireturn, 1) := by decide +kernel
theorem dX7_count_121 : decode cX7_count 121 = .ok (.aload_n 0, 1) := by decide +kernel
theorem dX7_count_122 : decode cX7_count 122 = .ok (.getfield 10, 3) := by decide +kernel
theorem dX7_count_125 : decode cX7_count 125 = .ok (.getfield 83, 3) := by decide +kernel
theorem dX7_count_128 : decode cX7_count 128 = .ok (.invokevirtual 87, 3) := by decide +kernel
theorem dX7_count_131 : decode cX7_count 131 = .ok (.ireturn, 1) := by decide +kernel
theorem dX7_count_132 : decode cX7_count 132 = .ok (.aload_n 0, 1) := by decide +kernel
theorem dX7_count_133 : decode cX7_count 133 = .ok (.getfield 10, 3) := by decide +kernel
theorem dX7_count_136 : decode cX7_count 136 = .ok (.getfield 112, 3) := by decide +kernel
theorem dX7_count_139 : decode cX7_count 139 = .ok (.ireturn, 1) := by decide +kernel
theorem dX7_count_140 : decode cX7_count 140 = .ok (.aload_n 0, 1) := by decide +kernel
theorem dX7_count_141 : decode cX7_count 141 = .ok (.getfield 10, 3) := by decide +kernel
theorem dX7_count_144 : decode cX7_count 144 = .ok (.iconst 0, 1) := by decide +kernel
theorem dX7_count_145 : decode cX7_count 145 = .ok (.invokevirtual 115, 3) := by decide +kernel
theorem dX7_count_148 : decode cX7_count 148 = .ok (.sipush 1000, 3) := by decide +kernel
theorem dX7_count_151 : decode cX7_count 151 = .ok (.iadd, 1) := by decide +kernel
theorem dX7_count_152 : decode cX7_count 152 = .ok (.ireturn, 1) := by decide +kernel
theorem dX7_count_153 : decode cX7_count 153 = .ok (.aload_n 0, 1) := by decide +kernel
theorem dX7_count_154 : decode cX7_count 154 = .ok (.getfield 10, 3) := by decide +kernel
theorem dX7_count_157 : decode cX7_count 157 = .ok (.iconst 1, 1) := by decide +kernel
theorem dX7_count_158 : decode cX7_count 158 = .ok (.invokevirtual 115, 3) := by decide +kernel
theorem dX7_count_161 : decode cX7_count 161 = .ok (.sipush 1000, 3) := by decide +kernel
theorem dX7_count_164 : decode cX7_count 164 = .ok (.iadd, 1) := by decide +kernel
theorem dX7_count_165 : decode cX7_count 165 = .ok (.ireturn, 1) := by decide +kernel
theorem dX7_count_166 : decode cX7_count 166 = .ok (.aload_n 0, 1) := by decide +kernel
theorem dX7_count_167 : decode cX7_count 167 = .ok (.getfield 10, 3) := by decide +kernel
theorem dX7_count_170 : decode cX7_count 170 = .ok (.iconst 2, 1) := by decide +kernel
theorem dX7_count_171 : decode cX7_count 171 = .ok (.invokevirtual 115, 3) := by decide +kernel
theorem dX7_count_174 : decode cX7_count 174 = .ok (.sipush 1000, 3) := by decide +kernel
theorem dX7_count_177 : decode cX7_count 177 = .ok (.iadd, 1) := by decide +kernel
theorem dX7_count_178 : decode cX7_count 178 = .ok (.ireturn, 1) := by decide +kernel
theorem dX7_count_179 : decode cX7_count 179 = .ok (.aload_n 0, 1) := by decide +kernel
theorem dX7_count_180 : decode cX7_count 180 = .ok (.getfield 10, 3) := by decide +kernel
theorem dX7_count_183 : decode cX7_count 183 = .ok (.iconst 3, 1) := by decide +kernel
theorem dX7_count_184 : decode cX7_count 184 = .ok (.invokevirtual 115, 3) := by decide +kernel
theorem dX7_count_187 : decode cX7_count 187 = .ok (.sipush 1000, 3) := by decide +kernel
theorem dX7_count_190 : decode cX7_count 190 = .ok (.iadd, 1) := by decide +kernel
theorem dX7_count_191 : decode cX7_count 191 = .ok (.ireturn, 1) := by decide +kernel
theorem dX7_count_192 : decode cX7_count 192 = .ok (.aload_n 0, 1) := by decide +kernel
theorem dX7_count_193 : decode cX7_count 193 = .ok (.getfield 36, 3) := by decide +kernel
theorem dX7_count_196 : decode cX7_count 196 = .ok (.getfield 118, 3) := by decide +kernel
theorem dX7_count_199 : decode cX7_count 199 = .ok (.getfield 122, 3) := by decide +kernel
theorem dX7_count_202 : decode cX7_count 202 = .ok (.ireturn, 1) := by decide +kernel
theorem dX7_count_203 : decode cX7_count 203 = .ok (.aload_n 0, 1) := by decide +kernel
theorem dX7_count_204 : decode cX7_count 204 = .ok (.getfield 19, 3) := by decide +kernel
theorem dX7_count_207 : decode cX7_count 207 = .ok (.getfield 126, 3) := by decide +kernel
theorem dX7_count_210 : decode cX7_count 210 = .ok (.ireturn, 1) := by decide +kernel
theorem dX7_count_211 : decode cX7_count 211 = .ok (.bipush (-2), 2) := by decide +kernel
theorem dX7_count_213 : decode cX7_count 213 = .ok (.ireturn, 1) := by decide +kernel
set_option maxRecDepth 20000 in
theorem ggX7_meanRate_X3_length : GoodIn wsX7_meanRate wsX3_length := goodIn_r _ [6, 7, 8, 9, 10, 11, 48, 49] (by decide +kernel) (by decide +kernel)
set_option maxRecDepth 20000 in
theorem gX7_meanRate_X3_length : GoodIn wsX7_meanRate (wsV RX7 87 RX3 yX3_length wsX3_length) := goodIn_app (goodIn_of _ (by decide +kernel)) ggX7_meanRate_X3_length
set_option maxRecDepth 20000 in
theorem ggX7_meanRate_X3_sumOfRates : GoodIn wsX7_meanRate wsX3_sumOfRates := goodIn_r _ [15, 16, 3, 4, 5, 6, 7, 8, 9, 10, 11, 17, 18, 19, 20, 21, 22, 23, 24, 25, 48, 49] (by decide +kernel) (by decide +kernel)
set_option maxRecDepth 20000 in
theorem gX7_meanRate_X3_sumOfRates : GoodIn wsX7_meanRate (wsV RX7 129 RX3 yX3_sumOfRates wsX3_sumOfRates) := goodIn_app (goodIn_of _ (by decide +kernel)) ggX7_meanRate_X3_sumOfRates
set_option maxRecDepth 20000 in
theorem ggX7_meanRate_X7_bitsOf : GoodIn wsX7_meanRate wsX7_bitsOf := goodIn_r _ [29, 30, 31, 32, 33, 34] (by decide +kernel) (by decide +kernel)
set_option maxRecDepth 20000 in
theorem gX7_meanRate_X7_bitsOf : GoodIn wsX7_meanRate (va_wsS RX7 132 yX7_bitsOf wsX7_bitsOf) := goodIn_app (goodIn_of _ (by decide +kernel)) ggX7_meanRate_X7_bitsOf
theorem dX7_meanRate_0 : decode cX7_meanRate 0 = .ok (.aload_n 0, 1) := by decide +kernel
theorem dX7_meanRate_1 : decode cX7_meanRate 1 = .ok (.getfield 10, 3) := by decide +kernel
theorem dX7_meanRate_4 : decode cX7_meanRate 4 = .ok (.getfield 83, 3) := by decide +kernel
theorem dX7_meanRate_7 : decode cX7_meanRate 7 = .ok (.invokevirtual 87, 3) := by decide +kernel
theorem dX7_meanRate_10 : decode cX7_meanRate 10 = .ok (.istore_n 1, 1) := by decide +kernel
theorem dX7_meanRate_11 : decode cX7_meanRate 11 = .ok (.iload_n 1, 1) := by decide +kernel
theorem dX7_meanRate_12 : decode cX7_meanRate 12 = .ok (.ifCond .ne 5, 3) := by decide +kernel
theorem dX7_meanRate_15 : decode cX7_meanRate 15 = .ok (.lconst 0, 1) := by decide +kernel
theorem dX7_meanRate_16 : decode cX7_meanRate 16 = .ok (.lreturn, 1) := by decide +kernel
theorem dX7_meanRate_17 : decode cX7_meanRate 17 = .ok (.aload_n 0, 1) := by decide +kernel
theorem dX7_meanRate_18 : decode cX7_meanRate 18 = .ok (.getfield 10, 3) := by decide +kernel
theorem dX7_meanRate_21 : decode cX7_meanRate 21 = .ok (.getfield 83, 3) := by decide +kernel
theorem dX7_meanRate_24 : decode cX7_meanRate 24 = .ok (.invokevirtual 129, 3) := by decide +kernel
theorem dX7_meanRate_27 : decode cX7_meanRate 27 = .ok (.i2d, 1) := by decide +kernel
theorem dX7_meanRate_28 : decode cX7_meanRate 28 = .ok (.iload_n 1, 1) := by decide +kernel
theorem dX7_meanRate_29 : decode cX7_meanRate 29 = .ok (.i2d, 1) := by decide +kernel
theorem dX7_meanRate_30 : decode cX7_meanRate 30 = .ok (.ddiv, 1) := by decide +kernel
theorem dX7_meanRate_31 : decode cX7_meanRate 31 = .ok (.invokestatic 132, 3) := by decide +kernel
theorem dX7_meanRate_34 : decode cX7_meanRate 34 = .ok (.lreturn, 1) := by decide +kernel
set_option maxRecDepth 20000 in
theorem ggX7_ofLog_X3_length : GoodIn wsX7_ofLog wsX3_length := goodIn_r _ [7, 8, 9, 10, 11, 12, 55, 56] (by decide +kernel) (by decide +kernel)
set_option maxRecDepth 20000 in
theorem gX7_ofLog_X3_length : GoodIn wsX7_ofLog (wsV RX7 87 RX3 yX3_length wsX3_length) := goodIn_app (goodIn_of _ (by decide +kernel)) ggX7_ofLog_X3_length
set_option maxRecDepth 20000 in
theorem ggX7_ofLog_X3_greatestRate : GoodIn wsX7_ofLog wsX3_greatestRate := goodIn_r _ [16, 17, 18, 11, 19, 20, 21, 22, 6, 23, 24, 25, 26, 27, 28, 8, 29, 4, 5, 7, 9, 10, 12, 55, 56] (by decide +kernel) (by decide +kernel)
set_option maxRecDepth 20000 in
theorem gX7_ofLog_X3_greatestRate : GoodIn wsX7_ofLog (wsV RX7 136 RX3 yX3_greatestRate wsX3_greatestRate) := goodIn_app (goodIn_of _ (by decide +kernel)) ggX7_ofLog_X3_greatestRate
set_option maxRecDepth 20000 in
theorem ggX7_ofLog_X3_leastRate : GoodIn wsX7_ofLog wsX3_leastRate := goodIn_r _ [33, 9, 10, 11, 12, 20, 21, 22, 6, 23, 24, 25, 26, 27, 28, 8, 29, 4, 5, 7, 55, 56] (by decide +kernel) (by decide +kernel)
set_option maxRecDepth 20000 in
theorem gX7_ofLog_X3_leastRate : GoodIn wsX7_ofLog (wsV RX7 140 RX3 yX3_leastRate wsX3_leastRate) := goodIn_app (goodIn_of _ (by decide +kernel)) ggX7_ofLog_X3_leastRate
set_option maxRecDepth 20000 in
theorem ggX7_ofLog_X3_countAboveZero : GoodIn wsX7_ofLog wsX3_countAboveZero := goodIn_r _ [37, 29, 4, 5, 6, 7, 8, 9, 10, 11, 12, 20, 21, 22, 23, 24, 25, 26, 27, 28, 55, 56] (by decide +kernel) (by decide +kernel)
set_option maxRecDepth 20000 in
theorem gX7_ofLog_X3_countAboveZero : GoodIn wsX7_ofLog (wsV RX7 143 RX3 yX3_countAboveZero wsX3_countAboveZero) := goodIn_app (goodIn_of _ (by decide +kernel)) ggX7_ofLog_X3_countAboveZero
set_option maxRecDepth 20000 in
theorem ggX7_ofLog_X3_countOtherTrays : GoodIn wsX7_ofLog wsX3_countOtherTrays := goodIn_r _ [41, 29, 4, 5, 6, 7, 8, 9, 10, 11, 12, 20, 21, 22, 23, 24, 25, 26, 27, 28, 55, 56] (by decide +kernel) (by decide +kernel)
set_option maxRecDepth 20000 in
theorem gX7_ofLog_X3_countOtherTrays : GoodIn wsX7_ofLog (wsV RX7 146 RX3 yX3_countOtherTrays wsX3_countOtherTrays) := goodIn_app (goodIn_of _ (by decide +kernel)) ggX7_ofLog_X3_countOtherTrays
theorem dX7_ofLog_0 : decode cX7_ofLog 0 = .ok (.iload_n 1, 1) := by decide +kernel
theorem dX7_ofLog_1 : decode cX7_ofLog 1 = .ok (.ifCond .lt 8, 3) := by decide +kernel
theorem dX7_ofLog_4 : decode cX7_ofLog 4 = .ok (.iload_n 1, 1) := by decide +kernel
theorem dX7_ofLog_5 : decode cX7_ofLog 5 = .ok (.iconst 4, 1) := by decide +kernel
theorem dX7_ofLog_6 : decode cX7_ofLog 6 = .ok (.if_icmp .le 6, 3) := by decide +kernel
theorem dX7_ofLog_9 : decode cX7_ofLog 9 = .ok (.bipush (-2), 2) := by decide +kernel
theorem dX7_ofLog_11 : decode cX7_ofLog 11 = .ok (.ireturn, 1) := by decide +kernel
theorem dX7_ofLog_12 : decode cX7_ofLog 12 = .ok (.aload_n 0, 1) := by decide +kernel
theorem dX7_ofLog_13 : decode cX7_ofLog 13 = .ok (.getfield 10, 3) := by decide +kernel
theorem dX7_ofLog_16 : decode cX7_ofLog 16 = .ok (.getfield 83, 3) := by decide +kernel
theorem dX7_ofLog_19 : decode cX7_ofLog 19 = .ok (.invokevirtual 87, 3) := by decide +kernel
theorem dX7_ofLog_22 : decode cX7_ofLog 22 = .ok (.ifCond .ne 6, 3) := by decide +kernel
theorem dX7_ofLog_25 : decode cX7_ofLog 25 = .ok (.bipush (-6), 2) := by decide +kernel
theorem dX7_ofLog_27 : decode cX7_ofLog 27 = .ok (.ireturn, 1) := by decide +kernel
theorem dX7_ofLog_28 : decode cX7_ofLog 28 = .ok (.iload_n 1, 1) := by decide +kernel
theorem dX7_ofLog_29 : decode cX7_ofLog 29 = .ok (.tableswitch 83 0 3 #[31, 45, 59, 71], 31) := by decide +kernel
theorem dX7_ofLog_60 : decode cX7_ofLog 60 = .ok (.aload_n 0, 1) := by decide +kernel
theorem dX7_ofLog_61 : decode cX7_ofLog 61 = .ok (.getfield 10, 3) := by decide +kernel
theorem dX7_ofLog_64 : decode cX7_ofLog 64 = .ok (.getfield 83, 3) := by decide +kernel
theorem dX7_ofLog_67 : decode cX7_ofLog 67 = .ok (.invokevirtual 136, 3) := by decide +kernel
theorem dX7_ofLog_70 : decode cX7_ofLog 70 = .ok (.ldc 139, 2) := by decide +kernel
theorem dX7_ofLog_72 : decode cX7_ofLog 72 = .ok (.iadd, 1) := by decide +kernel
theorem dX7_ofLog_73 : decode cX7_ofLog 73 = .ok (.ireturn, 1) := by decide +kernel
theorem dX7_ofLog_74 : decode cX7_ofLog 74 = .ok (.aload_n 0, 1) := by decide +kernel
theorem dX7_ofLog_75 : decode cX7_ofLog 75 = .ok (.getfield 10, 3) := by decide +kernel
theorem dX7_ofLog_78 : decode cX7_ofLog 78 = .ok (.getfield 83, 3) := by decide +kernel
theorem dX7_ofLog_81 : decode cX7_ofLog 81 = .ok (.invokevirtual 140, 3) := by decide +kernel
theorem dX7_ofLog_84 : decode cX7_ofLog 84 = .ok (.ldc 139, 2) := by decide +kernel
theorem dX7_ofLog_86 : decode cX7_ofLog 86 = .ok (.iadd, 1) := by decide +kernel
theorem dX7_ofLog_87 : decode cX7_ofLog 87 = .ok (.ireturn, 1) := by decide +kernel
theorem dX7_ofLog_88 : decode cX7_ofLog 88 = .ok (.aload_n 0, 1) := by decide +kernel
theorem dX7_ofLog_89 : decode cX7_ofLog 89 = .ok (.getfield 10, 3) := by decide +kernel
theorem dX7_ofLog_92 : decode cX7_ofLog 92 = .ok (.getfield 83, 3) := by decide +kernel
theorem dX7_ofLog_95 : decode cX7_ofLog 95 = .ok (.iconst 3, 1) := by decide +kernel
theorem dX7_ofLog_96 : decode cX7_ofLog 96 = .ok (.invokevirtual 143, 3) := by decide +kernel
theorem dX7_ofLog_99 : decode cX7_ofLog 99 = .ok (.ireturn, 1) := by decide +kernel
theorem dX7_ofLog_100 : decode cX7_ofLog 100 = .ok (.aload_n 0, 1) := by decide +kernel
theorem dX7_ofLog_101 : decode cX7_ofLog 101 = .ok (.getfield 10, 3) := by decide +kernel
theorem dX7_ofLog_104 : decode cX7_ofLog 104 = .ok (.getfield 83, 3) := by decide +kernel
theorem dX7_ofLog_107 : decode cX7_ofLog 107 = .ok (.iconst 5, 1) := by decide +kernel
theorem dX7_ofLog_108 : decode cX7_ofLog 108 = .ok (.invokevirtual 143, 3) := by decide +kernel
theorem dX7_ofLog_111 : decode cX7_ofLog 111 = .ok (.ireturn, 1) := by decide +kernel
theorem dX7_ofLog_112 : decode cX7_ofLog 112 = .ok (.aload_n 0, 1) := by decide +kernel
theorem dX7_ofLog_113 : decode cX7_ofLog 113 = .ok (.getfield 10, 3) := by decide +kernel
theorem dX7_ofLog_116 : decode cX7_ofLog 116 = .ok (.getfield 83, 3) := by decide +kernel
theorem dX7_ofLog_119 : decode cX7_ofLog 119 = .ok (.invokevirtual 146, 3) := by decide +kernel
theorem dX7_ofLog_122 : decode cX7_ofLog 122 = .ok (.ireturn, 1) := by decide +kernel
set_option maxRecDepth 20000 in
theorem ggX7_rate_X7_isHeat : GoodIn wsX7_rate wsX7_isHeat := goodIn_r _ [6] (by decide +kernel) (by decide +kernel)
set_option maxRecDepth 20000 in
theorem gX7_rate_X7_isHeat : GoodIn wsX7_rate (va_wsS RX7 149 yX7_isHeat wsX7_isHeat) := goodIn_app (goodIn_of _ (by decide +kernel)) ggX7_rate_X7_isHeat
set_option maxRecDepth 20000 in
theorem ggX7_rate_X7_isAir : GoodIn wsX7_rate wsX7_isAir := goodIn_r _ [9] (by decide +kernel) (by decide +kernel)
set_option maxRecDepth 20000 in
theorem gX7_rate_X7_isAir : GoodIn wsX7_rate (va_wsS RX7 153 yX7_isAir wsX7_isAir) := goodIn_app (goodIn_of _ (by decide +kernel)) ggX7_rate_X7_isAir
set_option maxRecDepth 20000 in
theorem ggX7_rate_X0_rateIn : GoodIn wsX7_rate wsX0_rateIn := goodIn_r _ [14, 15, 16, 17, 18, 13, 19, 20, 21, 22, 23, 24, 31, 32, 33, 34, 35, 36, 37] (by decide +kernel) (by decide +kernel)
set_option maxRecDepth 20000 in
theorem gX7_rate_X0_rateIn : GoodIn wsX7_rate (wsV RX7 156 RX0 yX0_rateIn wsX0_rateIn) := goodIn_app (goodIn_of _ (by decide +kernel)) ggX7_rate_X0_rateIn
theorem dX7_rate_0 : decode cX7_rate 0 = .ok (.iload_n 1, 1) := by decide +kernel
theorem dX7_rate_1 : decode cX7_rate 1 = .ok (.invokestatic 149, 3) := by decide +kernel
theorem dX7_rate_4 : decode cX7_rate 4 = .ok (.ifCond .eq 10, 3) := by decide +kernel
theorem dX7_rate_7 : decode cX7_rate 7 = .ok (.iload_n 2, 1) := by decide +kernel
theorem dX7_rate_8 : decode cX7_rate 8 = .ok (.invokestatic 153, 3) := by decide +kernel
theorem dX7_rate_11 : decode cX7_rate 11 = .ok (.ifCond .ne 6, 3) := by decide +kernel
theorem dX7_rate_14 : decode cX7_rate 14 = .ok (.bipush (-2), 2) := by decide +kernel
theorem dX7_rate_16 : decode cX7_rate 16 = .ok (.ireturn, 1) := by decide +kernel
theorem dX7_rate_17 : decode cX7_rate 17 = .ok (.aload_n 0, 1) := by decide +kernel
theorem dX7_rate_18 : decode cX7_rate 18 = .ok (.getfield 10, 3) := by decide +kernel
theorem dX7_rate_21 : decode cX7_rate 21 = .ok (.iload_n 1, 1) := by decide +kernel
theorem dX7_rate_22 : decode cX7_rate 22 = .ok (.iload_n 2, 1) := by decide +kernel
theorem dX7_rate_23 : decode cX7_rate 23 = .ok (.invokevirtual 156, 3) := by decide +kernel
theorem dX7_rate_26 : decode cX7_rate 26 = .ok (.ldc 139, 2) := by decide +kernel
theorem dX7_rate_28 : decode cX7_rate 28 = .ok (.iadd, 1) := by decide +kernel
theorem dX7_rate_29 : decode cX7_rate 29 = .ok (.ireturn, 1) := by decide +kernel
set_option maxRecDepth 20000 in
theorem ggX7_bestWeights_X7_isHeat : GoodIn wsX7_bestWeights wsX7_isHeat := goodIn_r _ [10] (by decide +kernel) (by decide +kernel)
set_option maxRecDepth 20000 in
theorem gX7_bestWeights_X7_isHeat : GoodIn wsX7_bestWeights (va_wsS RX7 149 yX7_isHeat wsX7_isHeat) := goodIn_app (goodIn_of _ (by decide +kernel)) ggX7_bestWeights_X7_isHeat
set_option maxRecDepth 20000 in
theorem ggX7_bestWeights_X7_isAir : GoodIn wsX7_bestWeights wsX7_isAir := goodIn_r _ [13] (by decide +kernel) (by decide +kernel)
set_option maxRecDepth 20000 in
theorem gX7_bestWeights_X7_isAir : GoodIn wsX7_bestWeights (va_wsS RX7 153 yX7_isAir wsX7_isAir) := goodIn_app (goodIn_of _ (by decide +kernel)) ggX7_bestWeights_X7_isAir
set_option maxRecDepth 20000 in
theorem ggX7_bestWeights_X0_bareRateIn : GoodIn wsX7_bestWeights wsX0_bareRateIn := goodIn_r _ [18, 19, 20, 21, 17, 22, 23, 30, 31, 32, 33, 34, 35, 36] (by decide +kernel) (by decide +kernel)
set_option maxRecDepth 20000 in
theorem gX7_bestWeights_X0_bareRateIn : GoodIn wsX7_bestWeights (wsV RX7 159 RX0 yX0_bareRateIn wsX0_bareRateIn) := goodIn_app (goodIn_of _ (by decide +kernel)) ggX7_bestWeights_X0_bareRateIn
theorem dX7_bestWeights_0 : decode cX7_bestWeights 0 = .ok (.iload_n 1, 1) := by decide +kernel
theorem dX7_bestWeights_1 : decode cX7_bestWeights 1 = .ok (.invokestatic 149, 3) := by decide +kernel
theorem dX7_bestWeights_4 : decode cX7_bestWeights 4 = .ok (.ifCond .eq 19, 3) := by decide +kernel
theorem dX7_bestWeights_7 : decode cX7_bestWeights 7 = .ok (.iload_n 2, 1) := by decide +kernel
theorem dX7_bestWeights_8 : decode cX7_bestWeights 8 = .ok (.invokestatic 153, 3) := by decide +kernel
theorem dX7_bestWeights_11 : decode cX7_bestWeights 11 = .ok (.ifCond .eq 12, 3) := by decide +kernel
theorem dX7_bestWeights_14 : decode cX7_bestWeights 14 = .ok (.iload_n 3, 1) := by decide +kernel
theorem dX7_bestWeights_15 : decode cX7_bestWeights 15 = .ok (.ifCond .lt 8, 3) := by decide +kernel
theorem dX7_bestWeights_18 : decode cX7_bestWeights 18 = .ok (.iload_n 3, 1) := by decide +kernel
theorem dX7_bestWeights_19 : decode cX7_bestWeights 19 = .ok (.iconst 1, 1) := by decide +kernel
theorem dX7_bestWeights_20 : decode cX7_bestWeights 20 = .ok (.if_icmp .le 6, 3) := by decide +kernel
theorem dX7_bestWeights_23 : decode cX7_bestWeights 23 = .ok (.bipush (-2), 2) := by decide +kernel
theorem dX7_bestWeights_25 : decode cX7_bestWeights 25 = .ok (.ireturn, 1) := by decide +kernel
theorem dX7_bestWeights_26 : decode cX7_bestWeights 26 = .ok (.aload_n 0, 1) := by decide +kernel
theorem dX7_bestWeights_27 : decode cX7_bestWeights 27 = .ok (.getfield 10, 3) := by decide +kernel
theorem dX7_bestWeights_30 : decode cX7_bestWeights 30 = .ok (.iload_n 1, 1) := by decide +kernel
theorem dX7_bestWeights_31 : decode cX7_bestWeights 31 = .ok (.iload_n 2, 1) := by decide +kernel
theorem dX7_bestWeights_32 : decode cX7_bestWeights 32 = .ok (.invokevirtual 159, 3) := by decide +kernel
theorem dX7_bestWeights_35 : decode cX7_bestWeights 35 = .ok (.istore 4, 2) := by decide +kernel
theorem dX7_bestWeights_37 : decode cX7_bestWeights 37 = .ok (.iconst 0, 1) := by decide +kernel
theorem dX7_bestWeights_38 : decode cX7_bestWeights 38 = .ok (.istore 5, 2) := by decide +kernel
theorem dX7_bestWeights_40 : decode cX7_bestWeights 40 = .ok (.iconst 1, 1) := by decide +kernel
theorem dX7_bestWeights_41 : decode cX7_bestWeights 41 = .ok (.istore 6, 2) := by decide +kernel
theorem dX7_bestWeights_43 : decode cX7_bestWeights 43 = .ok (.iload 6, 2) := by decide +kernel
theorem dX7_bestWeights_45 : decode cX7_bestWeights 45 = .ok (.sipush 255, 3) := by decide +kernel
theorem dX7_bestWeights_48 : decode cX7_bestWeights 48 = .ok (.if_icmp .gt 32, 3) := by decide +kernel
theorem dX7_bestWeights_51 : decode cX7_bestWeights 51 = .ok (.iload 4, 2) := by decide +kernel
theorem dX7_bestWeights_53 : decode cX7_bestWeights 53 = .ok (.iload 6, 2) := by decide +kernel
theorem dX7_bestWeights_55 : decode cX7_bestWeights 55 = .ok (.iadd, 1) := by decide +kernel
theorem dX7_bestWeights_56 : decode cX7_bestWeights 56 = .ok (.invokestatic 162, 3) := by decide +kernel
theorem dX7_bestWeights_59 : decode cX7_bestWeights 59 = .ok (.iload 4, 2) := by decide +kernel
theorem dX7_bestWeights_61 : decode cX7_bestWeights 61 = .ok (.iload 5, 2) := by decide +kernel
theorem dX7_bestWeights_63 : decode cX7_bestWeights 63 = .ok (.iadd, 1) := by decide +kernel
theorem dX7_bestWeights_64 : decode cX7_bestWeights 64 = .ok (.invokestatic 162, 3) := by decide +kernel
theorem dX7_bestWeights_67 : decode cX7_bestWeights 67 = .ok (.if_icmp .ge 7, 3) := by decide +kernel
theorem dX7_bestWeights_70 : decode cX7_bestWeights 70 = .ok (.iload 6, 2) := by decide +kernel
theorem dX7_bestWeights_72 : decode cX7_bestWeights 72 = .ok (.istore 5, 2) := by decide +kernel
theorem dX7_bestWeights_74 : decode cX7_bestWeights 74 = .ok (.iinc 6 1, 3) := by decide +kernel
theorem dX7_bestWeights_77 : decode cX7_bestWeights 77 = .ok (.goto (-34), 3) := by decide +kernel
theorem dX7_bestWeights_80 : decode cX7_bestWeights 80 = .ok (.iload_n 3, 1) := by decide +kernel
theorem dX7_bestWeights_81 : decode cX7_bestWeights 81 = .ok (.ifCond .ne 8, 3) := by decide +kernel
theorem dX7_bestWeights_84 : decode cX7_bestWeights 84 = .ok (.iload 5, 2) := by decide +kernel
theorem dX7_bestWeights_86 : decode cX7_bestWeights 86 = .ok (.goto 11, 3) := by decide +kernel
theorem dX7_bestWeights_89 : decode cX7_bestWeights 89 = .ok (.iload 4, 2) := by decide +kernel
theorem dX7_bestWeights_91 : decode cX7_bestWeights 91 = .ok (.iload 5, 2) := by decide +kernel
theorem dX7_bestWeights_93 : decode cX7_bestWeights 93 = .ok (.iadd, 1) := by decide +kernel
theorem dX7_bestWeights_94 : decode cX7_bestWeights 94 = .ok (.ldc 139, 2) := by decide +kernel
theorem dX7_bestWeights_96 : decode cX7_bestWeights 96 = .ok (.iadd, 1) := by decide +kernel
theorem dX7_bestWeights_97 : decode cX7_bestWeights 97 = .ok (.ireturn, 1) := by decide +kernel
set_option maxRecDepth 20000 in
theorem ggX7_offIn_X7_isHeat : GoodIn wsX7_offIn wsX7_isHeat := goodIn_r _ [6] (by decide +kernel) (by decide +kernel)
set_option maxRecDepth 20000 in
theorem gX7_offIn_X7_isHeat : GoodIn wsX7_offIn (va_wsS RX7 149 yX7_isHeat wsX7_isHeat) := goodIn_app (goodIn_of _ (by decide +kernel)) ggX7_offIn_X7_isHeat
set_option maxRecDepth 20000 in
theorem ggX7_offIn_X7_isAir : GoodIn wsX7_offIn wsX7_isAir := goodIn_r _ [9] (by decide +kernel) (by decide +kernel)
set_option maxRecDepth 20000 in
theorem gX7_offIn_X7_isAir : GoodIn wsX7_offIn (va_wsS RX7 153 yX7_isAir wsX7_isAir) := goodIn_app (goodIn_of _ (by decide +kernel)) ggX7_offIn_X7_isAir
set_option maxRecDepth 20000 in
theorem ggX7_offIn_X0_rateIn : GoodIn wsX7_offIn wsX0_rateIn := goodIn_r _ [14, 15, 16, 17, 18, 13, 19, 20, 21, 22, 23, 24, 47, 48, 49, 50, 51, 52, 53] (by decide +kernel) (by decide +kernel)
set_option maxRecDepth 20000 in
theorem gX7_offIn_X0_rateIn : GoodIn wsX7_offIn (wsV RX7 156 RX0 yX0_rateIn wsX0_rateIn) := goodIn_app (goodIn_of _ (by decide +kernel)) ggX7_offIn_X0_rateIn
set_option maxRecDepth 20000 in
theorem ggX7_offIn_X0_setting : GoodIn wsX7_offIn wsX0_setting := goodIn_r _ [23, 24, 47, 48, 49, 50, 51, 52, 53] (by decide +kernel) (by decide +kernel)
set_option maxRecDepth 20000 in
theorem gX7_offIn_X0_setting : GoodIn wsX7_offIn (wsV RX7 115 RX0 yX0_setting wsX0_setting) := goodIn_app (goodIn_of _ (by decide +kernel)) ggX7_offIn_X0_setting
set_option maxRecDepth 20000 in
theorem ggX7_offIn_X1_become : GoodIn wsX7_offIn wsX1_become := goodIn_r _ [30, 31, 32, 54, 55] (by decide +kernel) (by decide +kernel)
set_option maxRecDepth 20000 in
theorem gX7_offIn_X1_become : GoodIn wsX7_offIn (wsV RX7 167 RX1 yX1_become wsX1_become) := goodIn_app (goodIn_of _ (by decide +kernel)) ggX7_offIn_X1_become
set_option maxRecDepth 20000 in
theorem ggX7_offIn_X1_isMoreThan : GoodIn wsX7_offIn wsX1_isMoreThan := goodIn_r _ [36, 31, 54, 55] (by decide +kernel) (by decide +kernel)
set_option maxRecDepth 20000 in
theorem gX7_offIn_X1_isMoreThan : GoodIn wsX7_offIn (wsV RX7 171 RX1 yX1_isMoreThan wsX1_isMoreThan) := goodIn_app (goodIn_of _ (by decide +kernel)) ggX7_offIn_X1_isMoreThan
set_option maxRecDepth 20000 in
theorem ggX7_offIn_X1_addHour : GoodIn wsX7_offIn wsX1_addHour := goodIn_r _ [40, 32, 31, 54, 55] (by decide +kernel) (by decide +kernel)
set_option maxRecDepth 20000 in
theorem gX7_offIn_X1_addHour : GoodIn wsX7_offIn (wsV RX7 174 RX1 yX1_addHour wsX1_addHour) := goodIn_app (goodIn_of _ (by decide +kernel)) ggX7_offIn_X1_addHour
theorem dX7_offIn_0 : decode cX7_offIn 0 = .ok (.iload_n 1, 1) := by decide +kernel
theorem dX7_offIn_1 : decode cX7_offIn 1 = .ok (.invokestatic 149, 3) := by decide +kernel
theorem dX7_offIn_4 : decode cX7_offIn 4 = .ok (.ifCond .eq 10, 3) := by decide +kernel
theorem dX7_offIn_7 : decode cX7_offIn 7 = .ok (.iload_n 2, 1) := by decide +kernel
theorem dX7_offIn_8 : decode cX7_offIn 8 = .ok (.invokestatic 153, 3) := by decide +kernel
theorem dX7_offIn_11 : decode cX7_offIn 11 = .ok (.ifCond .ne 6, 3) := by decide +kernel
theorem dX7_offIn_14 : decode cX7_offIn 14 = .ok (.bipush (-2), 2) := by decide +kernel
theorem dX7_offIn_16 : decode cX7_offIn 16 = .ok (.ireturn, 1) := by decide +kernel
theorem dX7_offIn_17 : decode cX7_offIn 17 = .ok (.aload_n 0, 1) := by decide +kernel
theorem dX7_offIn_18 : decode cX7_offIn 18 = .ok (.getfield 10, 3) := by decide +kernel
theorem dX7_offIn_21 : decode cX7_offIn 21 = .ok (.iload_n 1, 1) := by decide +kernel
theorem dX7_offIn_22 : decode cX7_offIn 22 = .ok (.iload_n 2, 1) := by decide +kernel
theorem dX7_offIn_23 : decode cX7_offIn 23 = .ok (.invokevirtual 156, 3) := by decide +kernel
theorem dX7_offIn_26 : decode cX7_offIn 26 = .ok (.istore_n 3, 1) := by decide +kernel
theorem dX7_offIn_27 : decode cX7_offIn 27 = .ok (.aload_n 0, 1) := by decide +kernel
theorem dX7_offIn_28 : decode cX7_offIn 28 = .ok (.getfield 10, 3) := by decide +kernel
theorem dX7_offIn_31 : decode cX7_offIn 31 = .ok (.iconst 3, 1) := by decide +kernel
theorem dX7_offIn_32 : decode cX7_offIn 32 = .ok (.invokevirtual 115, 3) := by decide +kernel
theorem dX7_offIn_35 : decode cX7_offIn 35 = .ok (.istore 4, 2) := by decide +kernel
theorem dX7_offIn_37 : decode cX7_offIn 37 = .ok (.aload_n 0, 1) := by decide +kernel
theorem dX7_offIn_38 : decode cX7_offIn 38 = .ok (.getfield 43, 3) := by decide +kernel
theorem dX7_offIn_41 : decode cX7_offIn 41 = .ok (.aload_n 0, 1) := by decide +kernel
theorem dX7_offIn_42 : decode cX7_offIn 42 = .ok (.getfield 10, 3) := by decide +kernel
theorem dX7_offIn_45 : decode cX7_offIn 45 = .ok (.getfield 72, 3) := by decide +kernel
theorem dX7_offIn_48 : decode cX7_offIn 48 = .ok (.invokevirtual 167, 3) := by decide +kernel
theorem dX7_offIn_51 : decode cX7_offIn 51 = .ok (.iconst 0, 1) := by decide +kernel
theorem dX7_offIn_52 : decode cX7_offIn 52 = .ok (.istore 5, 2) := by decide +kernel
theorem dX7_offIn_54 : decode cX7_offIn 54 = .ok (.iload 5, 2) := by decide +kernel
theorem dX7_offIn_56 : decode cX7_offIn 56 = .ok (.sipush 5000, 3) := by decide +kernel
theorem dX7_offIn_59 : decode cX7_offIn 59 = .ok (.if_icmp .gt 32, 3) := by decide +kernel
theorem dX7_offIn_62 : decode cX7_offIn 62 = .ok (.aload_n 0, 1) := by decide +kernel
theorem dX7_offIn_63 : decode cX7_offIn 63 = .ok (.getfield 43, 3) := by decide +kernel
theorem dX7_offIn_66 : decode cX7_offIn 66 = .ok (.iload 4, 2) := by decide +kernel
theorem dX7_offIn_68 : decode cX7_offIn 68 = .ok (.invokevirtual 171, 3) := by decide +kernel
theorem dX7_offIn_71 : decode cX7_offIn 71 = .ok (.ifCond .eq 6, 3) := by decide +kernel
theorem dX7_offIn_74 : decode cX7_offIn 74 = .ok (.iload 5, 2) := by decide +kernel
theorem dX7_offIn_76 : decode cX7_offIn 76 = .ok (.ireturn, 1) := by decide +kernel
theorem dX7_offIn_77 : decode cX7_offIn 77 = .ok (.aload_n 0, 1) := by decide +kernel
theorem dX7_offIn_78 : decode cX7_offIn 78 = .ok (.getfield 43, 3) := by decide +kernel
theorem dX7_offIn_81 : decode cX7_offIn 81 = .ok (.iload_n 3, 1) := by decide +kernel
theorem dX7_offIn_82 : decode cX7_offIn 82 = .ok (.invokevirtual 174, 3) := by decide +kernel
theorem dX7_offIn_85 : decode cX7_offIn 85 = .ok (.iinc 5 1, 3) := by decide +kernel
theorem dX7_offIn_88 : decode cX7_offIn 88 = .ok (.goto (-34), 3) := by decide +kernel
theorem dX7_offIn_91 : decode cX7_offIn 91 = .ok (.bipush (-6), 2) := by decide +kernel
theorem dX7_offIn_93 : decode cX7_offIn 93 = .ok (.ireturn, 1) := by decide +kernel
set_option maxRecDepth 20000 in
theorem ggX7_replay_X1_clear : GoodIn wsX7_replay wsX1_clear := goodIn_r _ [9, 10, 11, 63, 64] (by decide +kernel) (by decide +kernel)
set_option maxRecDepth 20000 in
theorem gX7_replay_X1_clear : GoodIn wsX7_replay (wsV RX7 79 RX1 yX1_clear wsX1_clear) := goodIn_app (goodIn_of _ (by decide +kernel)) ggX7_replay_X1_clear
set_option maxRecDepth 20000 in
theorem ggX7_replay_X3_length : GoodIn wsX7_replay wsX3_length := goodIn_r _ [16, 17, 18, 19, 20, 21, 65, 66] (by decide +kernel) (by decide +kernel)
set_option maxRecDepth 20000 in
theorem gX7_replay_X3_length : GoodIn wsX7_replay (wsV RX7 87 RX3 yX3_length wsX3_length) := goodIn_app (goodIn_of _ (by decide +kernel)) ggX7_replay_X3_length
set_option maxRecDepth 20000 in
theorem ggX7_replay_X3_fact : GoodIn wsX7_replay wsX3_fact := goodIn_r _ [25, 26, 27, 28, 29, 15, 30, 17, 65, 66] (by decide +kernel) (by decide +kernel)
set_option maxRecDepth 20000 in
theorem gX7_replay_X3_fact : GoodIn wsX7_replay (wsV RX7 97 RX3 yX3_fact wsX3_fact) := goodIn_app (goodIn_of _ (by decide +kernel)) ggX7_replay_X3_fact
set_option maxRecDepth 20000 in
theorem ggX7_replay_X0_rateIn : GoodIn wsX7_replay wsX0_rateIn := goodIn_r _ [35, 36, 37, 38, 39, 34, 40, 41, 42, 43, 44, 45, 56, 57, 58, 59, 60, 61, 62] (by decide +kernel) (by decide +kernel)
set_option maxRecDepth 20000 in
theorem gX7_replay_X0_rateIn : GoodIn wsX7_replay (wsV RX7 156 RX0 yX0_rateIn wsX0_rateIn) := goodIn_app (goodIn_of _ (by decide +kernel)) ggX7_replay_X0_rateIn
set_option maxRecDepth 20000 in
theorem ggX7_replay_X1_addHour : GoodIn wsX7_replay wsX1_addHour := goodIn_r _ [49, 11, 10, 63, 64] (by decide +kernel) (by decide +kernel)
set_option maxRecDepth 20000 in
theorem gX7_replay_X1_addHour : GoodIn wsX7_replay (wsV RX7 174 RX1 yX1_addHour wsX1_addHour) := goodIn_app (goodIn_of _ (by decide +kernel)) ggX7_replay_X1_addHour
theorem dX7_replay_0 : decode cX7_replay 0 = .ok (.aload_n 0, 1) := by decide +kernel
theorem dX7_replay_1 : decode cX7_replay 1 = .ok (.getfield 43, 3) := by decide +kernel
theorem dX7_replay_4 : decode cX7_replay 4 = .ok (.invokevirtual 79, 3) := by decide +kernel
theorem dX7_replay_7 : decode cX7_replay 7 = .ok (.aload_n 0, 1) := by decide +kernel
theorem dX7_replay_8 : decode cX7_replay 8 = .ok (.getfield 10, 3) := by decide +kernel
theorem dX7_replay_11 : decode cX7_replay 11 = .ok (.getfield 83, 3) := by decide +kernel
theorem dX7_replay_14 : decode cX7_replay 14 = .ok (.invokevirtual 87, 3) := by decide +kernel
theorem dX7_replay_17 : decode cX7_replay 17 = .ok (.iconst 1, 1) := by decide +kernel
theorem dX7_replay_18 : decode cX7_replay 18 = .ok (.isub, 1) := by decide +kernel
theorem dX7_replay_19 : decode cX7_replay 19 = .ok (.istore_n 1, 1) := by decide +kernel
theorem dX7_replay_20 : decode cX7_replay 20 = .ok (.iload_n 1, 1) := by decide +kernel
theorem dX7_replay_21 : decode cX7_replay 21 = .ok (.ifCond .lt 47, 3) := by decide +kernel
theorem dX7_replay_24 : decode cX7_replay 24 = .ok (.aload_n 0, 1) := by decide +kernel
theorem dX7_replay_25 : decode cX7_replay 25 = .ok (.getfield 43, 3) := by decide +kernel
theorem dX7_replay_28 : decode cX7_replay 28 = .ok (.aload_n 0, 1) := by decide +kernel
theorem dX7_replay_29 : decode cX7_replay 29 = .ok (.getfield 10, 3) := by decide +kernel
theorem dX7_replay_32 : decode cX7_replay 32 = .ok (.aload_n 0, 1) := by decide +kernel
theorem dX7_replay_33 : decode cX7_replay 33 = .ok (.getfield 10, 3) := by decide +kernel
theorem dX7_replay_36 : decode cX7_replay 36 = .ok (.getfield 83, 3) := by decide +kernel
theorem dX7_replay_39 : decode cX7_replay 39 = .ok (.iload_n 1, 1) := by decide +kernel
theorem dX7_replay_40 : decode cX7_replay 40 = .ok (.iconst 0, 1) := by decide +kernel
theorem dX7_replay_41 : decode cX7_replay 41 = .ok (.invokevirtual 97, 3) := by decide +kernel
theorem dX7_replay_44 : decode cX7_replay 44 = .ok (.aload_n 0, 1) := by decide +kernel
theorem dX7_replay_45 : decode cX7_replay 45 = .ok (.getfield 10, 3) := by decide +kernel
theorem dX7_replay_48 : decode cX7_replay 48 = .ok (.getfield 83, 3) := by decide +kernel
theorem dX7_replay_51 : decode cX7_replay 51 = .ok (.iload_n 1, 1) := by decide +kernel
theorem dX7_replay_52 : decode cX7_replay 52 = .ok (.iconst 1, 1) := by decide +kernel
theorem dX7_replay_53 : decode cX7_replay 53 = .ok (.invokevirtual 97, 3) := by decide +kernel
theorem dX7_replay_56 : decode cX7_replay 56 = .ok (.invokevirtual 156, 3) := by decide +kernel
theorem dX7_replay_59 : decode cX7_replay 59 = .ok (.invokevirtual 174, 3) := by decide +kernel
theorem dX7_replay_62 : decode cX7_replay 62 = .ok (.iinc 1 (-1), 3) := by decide +kernel
theorem dX7_replay_65 : decode cX7_replay 65 = .ok (.goto (-45), 3) := by decide +kernel
theorem dX7_replay_68 : decode cX7_replay 68 = .ok (.aload_n 0, 1) := by decide +kernel
theorem dX7_replay_69 : decode cX7_replay 69 = .ok (.getfield 43, 3) := by decide +kernel
theorem dX7_replay_72 : decode cX7_replay 72 = .ok (.getfield 75, 3) := by decide +kernel
theorem dX7_replay_75 : decode cX7_replay 75 = .ok (.ldc 82, 2) := by decide +kernel
theorem dX7_replay_77 : decode cX7_replay 77 = .ok (.iadd, 1) := by decide +kernel
theorem dX7_replay_78 : decode cX7_replay 78 = .ok (.ireturn, 1) := by decide +kernel
set_option maxRecDepth 20000 in
theorem ggX7_coolest_X7_isAir : GoodIn wsX7_coolest wsX7_isAir := goodIn_r _ [5] (by decide +kernel) (by decide +kernel)
set_option maxRecDepth 20000 in
theorem gX7_coolest_X7_isAir : GoodIn wsX7_coolest (va_wsS RX7 153 yX7_isAir wsX7_isAir) := goodIn_app (goodIn_of _ (by decide +kernel)) ggX7_coolest_X7_isAir
set_option maxRecDepth 20000 in
theorem ggX7_coolest_X0_rateIn : GoodIn wsX7_coolest wsX0_rateIn := goodIn_r _ [10, 11, 12, 13, 14, 9, 15, 16, 17, 18, 19, 20, 27, 28, 29, 30, 31, 32, 33] (by decide +kernel) (by decide +kernel)
set_option maxRecDepth 20000 in
theorem gX7_coolest_X0_rateIn : GoodIn wsX7_coolest (wsV RX7 156 RX0 yX0_rateIn wsX0_rateIn) := goodIn_app (goodIn_of _ (by decide +kernel)) ggX7_coolest_X0_rateIn
theorem dX7_coolest_0 : decode cX7_coolest 0 = .ok (.iload_n 1, 1) := by decide +kernel
theorem dX7_coolest_1 : decode cX7_coolest 1 = .ok (.invokestatic 153, 3) := by decide +kernel
theorem dX7_coolest_4 : decode cX7_coolest 4 = .ok (.ifCond .ne 6, 3) := by decide +kernel
theorem dX7_coolest_7 : decode cX7_coolest 7 = .ok (.bipush (-2), 2) := by decide +kernel
theorem dX7_coolest_9 : decode cX7_coolest 9 = .ok (.ireturn, 1) := by decide +kernel
theorem dX7_coolest_10 : decode cX7_coolest 10 = .ok (.bipush (-20), 2) := by decide +kernel
theorem dX7_coolest_12 : decode cX7_coolest 12 = .ok (.istore_n 2, 1) := by decide +kernel
theorem dX7_coolest_13 : decode cX7_coolest 13 = .ok (.iload_n 2, 1) := by decide +kernel
theorem dX7_coolest_14 : decode cX7_coolest 14 = .ok (.bipush 50, 2) := by decide +kernel
theorem dX7_coolest_16 : decode cX7_coolest 16 = .ok (.if_icmp .gt 26, 3) := by decide +kernel
theorem dX7_coolest_19 : decode cX7_coolest 19 = .ok (.aload_n 0, 1) := by decide +kernel
theorem dX7_coolest_20 : decode cX7_coolest 20 = .ok (.getfield 10, 3) := by decide +kernel
theorem dX7_coolest_23 : decode cX7_coolest 23 = .ok (.iload_n 2, 1) := by decide +kernel
theorem dX7_coolest_24 : decode cX7_coolest 24 = .ok (.iload_n 1, 1) := by decide +kernel
theorem dX7_coolest_25 : decode cX7_coolest 25 = .ok (.invokevirtual 156, 3) := by decide +kernel
theorem dX7_coolest_28 : decode cX7_coolest 28 = .ok (.ifCond .gt 8, 3) := by decide +kernel
theorem dX7_coolest_31 : decode cX7_coolest 31 = .ok (.iload_n 2, 1) := by decide +kernel
theorem dX7_coolest_32 : decode cX7_coolest 32 = .ok (.bipush 100, 2) := by decide +kernel
theorem dX7_coolest_34 : decode cX7_coolest 34 = .ok (.iadd, 1) := by decide +kernel
theorem dX7_coolest_35 : decode cX7_coolest 35 = .ok (.ireturn, 1) := by decide +kernel
theorem dX7_coolest_36 : decode cX7_coolest 36 = .ok (.iinc 2 1, 3) := by decide +kernel
theorem dX7_coolest_39 : decode cX7_coolest 39 = .ok (.goto (-26), 3) := by decide +kernel
theorem dX7_coolest_42 : decode cX7_coolest 42 = .ok (.bipush (-6), 2) := by decide +kernel
theorem dX7_coolest_44 : decode cX7_coolest 44 = .ok (.ireturn, 1) := by decide +kernel
theorem dX7_isHeat_0 : decode cX7_isHeat 0 = .ok (.iload_n 0, 1) := by decide +kernel
theorem dX7_isHeat_1 : decode cX7_isHeat 1 = .ok (.bipush (-20), 2) := by decide +kernel
theorem dX7_isHeat_3 : decode cX7_isHeat 3 = .ok (.if_icmp .lt 13, 3) := by decide +kernel
theorem dX7_isHeat_6 : decode cX7_isHeat 6 = .ok (.iload_n 0, 1) := by decide +kernel
theorem dX7_isHeat_7 : decode cX7_isHeat 7 = .ok (.bipush 50, 2) := by decide +kernel
theorem dX7_isHeat_9 : decode cX7_isHeat 9 = .ok (.if_icmp .gt 7, 3) := by decide +kernel
theorem dX7_isHeat_12 : decode cX7_isHeat 12 = .ok (.iconst 1, 1) := by decide +kernel
theorem dX7_isHeat_13 : decode cX7_isHeat 13 = .ok (.goto 4, 3) := by decide +kernel
theorem dX7_isHeat_16 : decode cX7_isHeat 16 = .ok (.iconst 0, 1) := by decide +kernel
theorem dX7_isHeat_17 : decode cX7_isHeat 17 = .ok (.ireturn, 1) := by decide +kernel
theorem dX7_isAir_0 : decode cX7_isAir 0 = .ok (.iload_n 0, 1) := by decide +kernel
theorem dX7_isAir_1 : decode cX7_isAir 1 = .ok (.sipush 800, 3) := by decide +kernel
theorem dX7_isAir_4 : decode cX7_isAir 4 = .ok (.if_icmp .lt 14, 3) := by decide +kernel
theorem dX7_isAir_7 : decode cX7_isAir 7 = .ok (.iload_n 0, 1) := by decide +kernel
theorem dX7_isAir_8 : decode cX7_isAir 8 = .ok (.sipush 1200, 3) := by decide +kernel
theorem dX7_isAir_11 : decode cX7_isAir 11 = .ok (.if_icmp .gt 7, 3) := by decide +kernel
theorem dX7_isAir_14 : decode cX7_isAir 14 = .ok (.iconst 1, 1) := by decide +kernel
theorem dX7_isAir_15 : decode cX7_isAir 15 = .ok (.goto 4, 3) := by decide +kernel
theorem dX7_isAir_18 : decode cX7_isAir 18 = .ok (.iconst 0, 1) := by decide +kernel
theorem dX7_isAir_19 : decode cX7_isAir 19 = .ok (.ireturn, 1) := by decide +kernel
theorem dX7_bitsOf_0 : decode cX7_bitsOf 0 = .ok (.dload_n 0, 1) := by decide +kernel
theorem dX7_bitsOf_1 : decode cX7_bitsOf 1 = .ok (.dconst 0, 1) := by decide +kernel
theorem dX7_bitsOf_2 : decode cX7_bitsOf 2 = .ok (.dcmp .l, 1) := by decide +kernel
theorem dX7_bitsOf_3 : decode cX7_bitsOf 3 = .ok (.ifCond .ne 5, 3) := by decide +kernel
theorem dX7_bitsOf_6 : decode cX7_bitsOf 6 = .ok (.lconst 0, 1) := by decide +kernel
theorem dX7_bitsOf_7 : decode cX7_bitsOf 7 = .ok (.lreturn, 1) := by decide +kernel
theorem dX7_bitsOf_8 : decode cX7_bitsOf 8 = .ok (.dload_n 0, 1) := by decide +kernel
theorem dX7_bitsOf_9 : decode cX7_bitsOf 9 = .ok (.dconst 0, 1) := by decide +kernel
theorem dX7_bitsOf_10 : decode cX7_bitsOf 10 = .ok (.dcmp .g, 1) := by decide +kernel
theorem dX7_bitsOf_11 : decode cX7_bitsOf 11 = .ok (.ifCond .ge 8, 3) := by decide +kernel
theorem dX7_bitsOf_14 : decode cX7_bitsOf 14 = .ok (.dload_n 0, 1) := by decide +kernel
theorem dX7_bitsOf_15 : decode cX7_bitsOf 15 = .ok (.dneg, 1) := by decide +kernel
theorem dX7_bitsOf_16 : decode cX7_bitsOf 16 = .ok (.goto 4, 3) := by decide +kernel
theorem dX7_bitsOf_19 : decode cX7_bitsOf 19 = .ok (.dload_n 0, 1) := by decide +kernel
theorem dX7_bitsOf_20 : decode cX7_bitsOf 20 = .ok (.dstore_n 2, 1) := by decide +kernel
theorem dX7_bitsOf_21 : decode cX7_bitsOf 21 = .ok (.ldc2_w 232, 3) := by decide +kernel
theorem dX7_bitsOf_24 : decode cX7_bitsOf 24 = .ok (.lstore 4, 2) := by decide +kernel
theorem dX7_bitsOf_26 : decode cX7_bitsOf 26 = .ok (.iconst 0, 1) := by decide +kernel
theorem dX7_bitsOf_27 : decode cX7_bitsOf 27 = .ok (.istore 6, 2) := by decide +kernel
theorem dX7_bitsOf_29 : decode cX7_bitsOf 29 = .ok (.iload 6, 2) := by decide +kernel
theorem dX7_bitsOf_31 : decode cX7_bitsOf 31 = .ok (.bipush 64, 2) := by decide +kernel
theorem dX7_bitsOf_33 : decode cX7_bitsOf 33 = .ok (.if_icmp .ge 29, 3) := by decide +kernel
theorem dX7_bitsOf_36 : decode cX7_bitsOf 36 = .ok (.dload_n 2, 1) := by decide +kernel
theorem dX7_bitsOf_37 : decode cX7_bitsOf 37 = .ok (.ldc2_w 234, 3) := by decide +kernel
theorem dX7_bitsOf_40 : decode cX7_bitsOf 40 = .ok (.dcmp .g, 1) := by decide +kernel
theorem dX7_bitsOf_41 : decode cX7_bitsOf 41 = .ok (.ifCond .ge 21, 3) := by decide +kernel
theorem dX7_bitsOf_44 : decode cX7_bitsOf 44 = .ok (.dload_n 2, 1) := by decide +kernel
theorem dX7_bitsOf_45 : decode cX7_bitsOf 45 = .ok (.ldc2_w 236, 3) := by decide +kernel
theorem dX7_bitsOf_48 : decode cX7_bitsOf 48 = .ok (.dmul, 1) := by decide +kernel
theorem dX7_bitsOf_49 : decode cX7_bitsOf 49 = .ok (.dstore_n 2, 1) := by decide +kernel
theorem dX7_bitsOf_50 : decode cX7_bitsOf 50 = .ok (.lload 4, 2) := by decide +kernel
theorem dX7_bitsOf_52 : decode cX7_bitsOf 52 = .ok (.lconst 1, 1) := by decide +kernel
theorem dX7_bitsOf_53 : decode cX7_bitsOf 53 = .ok (.lsub, 1) := by decide +kernel
theorem dX7_bitsOf_54 : decode cX7_bitsOf 54 = .ok (.lstore 4, 2) := by decide +kernel
theorem dX7_bitsOf_56 : decode cX7_bitsOf 56 = .ok (.iinc 6 1, 3) := by decide +kernel
theorem dX7_bitsOf_59 : decode cX7_bitsOf 59 = .ok (.goto (-30), 3) := by decide +kernel
theorem dX7_bitsOf_62 : decode cX7_bitsOf 62 = .ok (.dload_n 0, 1) := by decide +kernel
theorem dX7_bitsOf_63 : decode cX7_bitsOf 63 = .ok (.dconst 0, 1) := by decide +kernel
theorem dX7_bitsOf_64 : decode cX7_bitsOf 64 = .ok (.dcmp .g, 1) := by decide +kernel
theorem dX7_bitsOf_65 : decode cX7_bitsOf 65 = .ok (.ifCond .ge 9, 3) := by decide +kernel
theorem dX7_bitsOf_68 : decode cX7_bitsOf 68 = .ok (.ldc2_w 238, 3) := by decide +kernel
theorem dX7_bitsOf_71 : decode cX7_bitsOf 71 = .ok (.goto 4, 3) := by decide +kernel
theorem dX7_bitsOf_74 : decode cX7_bitsOf 74 = .ok (.lconst 0, 1) := by decide +kernel
theorem dX7_bitsOf_75 : decode cX7_bitsOf 75 = .ok (.lstore 6, 2) := by decide +kernel
theorem dX7_bitsOf_77 : decode cX7_bitsOf 77 = .ok (.lload 6, 2) := by decide +kernel
theorem dX7_bitsOf_79 : decode cX7_bitsOf 79 = .ok (.lload 4, 2) := by decide +kernel
theorem dX7_bitsOf_81 : decode cX7_bitsOf 81 = .ok (.bipush 52, 2) := by decide +kernel
theorem dX7_bitsOf_83 : decode cX7_bitsOf 83 = .ok (.lshl, 1) := by decide +kernel
theorem dX7_bitsOf_84 : decode cX7_bitsOf 84 = .ok (.lor, 1) := by decide +kernel
theorem dX7_bitsOf_85 : decode cX7_bitsOf 85 = .ok (.dload_n 2, 1) := by decide +kernel
theorem dX7_bitsOf_86 : decode cX7_bitsOf 86 = .ok (.d2l, 1) := by decide +kernel
theorem dX7_bitsOf_87 : decode cX7_bitsOf 87 = .ok (.ldc2_w 240, 3) := by decide +kernel
theorem dX7_bitsOf_90 : decode cX7_bitsOf 90 = .ok (.lsub, 1) := by decide +kernel
theorem dX7_bitsOf_91 : decode cX7_bitsOf 91 = .ok (.lor, 1) := by decide +kernel
theorem dX7_bitsOf_92 : decode cX7_bitsOf 92 = .ok (.lreturn, 1) := by decide +kernel
theorem dJ9_abs_0f7a4_0 : decode cJ9_abs_0f7a4 0 = .ok (.iload_n 0, 1) := by decide +kernel
theorem dJ9_abs_0f7a4_1 : decode cJ9_abs_0f7a4 1 = .ok (.ifCond .ge 8, 3) := by decide +kernel
theorem dJ9_abs_0f7a4_4 : decode cJ9_abs_0f7a4 4 = .ok (.iload_n 0, 1) := by decide +kernel
theorem dJ9_abs_0f7a4_5 : decode cJ9_abs_0f7a4 5 = .ok (.ineg, 1) := by decide +kernel
theorem dJ9_abs_0f7a4_6 : decode cJ9_abs_0f7a4 6 = .ok (.goto 4, 3) := by decide +kernel
theorem dJ9_abs_0f7a4_9 : decode cJ9_abs_0f7a4 9 = .ok (.iload_n 0, 1) := by decide +kernel
theorem dJ9_abs_0f7a4_10 : decode cJ9_abs_0f7a4 10 = .ok (.ireturn, 1) := by decide +kernel
theorem dJ9_max_7cf53_0 : decode cJ9_max_7cf53 0 = .ok (.iload_n 0, 1) := by decide +kernel
theorem dJ9_max_7cf53_1 : decode cJ9_max_7cf53 1 = .ok (.iload_n 1, 1) := by decide +kernel
theorem dJ9_max_7cf53_2 : decode cJ9_max_7cf53 2 = .ok (.if_icmp .lt 7, 3) := by decide +kernel
theorem dJ9_max_7cf53_5 : decode cJ9_max_7cf53 5 = .ok (.iload_n 0, 1) := by decide +kernel
theorem dJ9_max_7cf53_6 : decode cJ9_max_7cf53 6 = .ok (.goto 4, 3) := by decide +kernel
theorem dJ9_max_7cf53_9 : decode cJ9_max_7cf53 9 = .ok (.iload_n 1, 1) := by decide +kernel
theorem dJ9_max_7cf53_10 : decode cJ9_max_7cf53 10 = .ok (.ireturn, 1) := by decide +kernel
theorem dJ9_min_7cf53_0 : decode cJ9_min_7cf53 0 = .ok (.iload_n 0, 1) := by decide +kernel
theorem dJ9_min_7cf53_1 : decode cJ9_min_7cf53 1 = .ok (.iload_n 1, 1) := by decide +kernel
theorem dJ9_min_7cf53_2 : decode cJ9_min_7cf53 2 = .ok (.if_icmp .gt 7, 3) := by decide +kernel
theorem dJ9_min_7cf53_5 : decode cJ9_min_7cf53 5 = .ok (.iload_n 0, 1) := by decide +kernel
theorem dJ9_min_7cf53_6 : decode cJ9_min_7cf53 6 = .ok (.goto 4, 3) := by decide +kernel
theorem dJ9_min_7cf53_9 : decode cJ9_min_7cf53 9 = .ok (.iload_n 1, 1) := by decide +kernel
theorem dJ9_min_7cf53_10 : decode cJ9_min_7cf53 10 = .ok (.ireturn, 1) := by decide +kernel
theorem dL_cell_0 : decode cL_cell 0 = .ok (.iload_n 1, 1) := by decide +kernel
theorem dL_cell_1 : decode cL_cell 1 = .ok (.aload_n 0, 1) := by decide +kernel
theorem dL_cell_2 : decode cL_cell 2 = .ok (.arraylength, 1) := by decide +kernel
theorem dL_cell_3 : decode cL_cell 3 = .ok (.if_icmp .ge 9, 3) := by decide +kernel
theorem dL_cell_6 : decode cL_cell 6 = .ok (.aload_n 0, 1) := by decide +kernel
theorem dL_cell_7 : decode cL_cell 7 = .ok (.iload_n 1, 1) := by decide +kernel
theorem dL_cell_8 : decode cL_cell 8 = .ok (.iaload, 1) := by decide +kernel
theorem dL_cell_9 : decode cL_cell 9 = .ok (.goto 11, 3) := by decide +kernel
theorem dL_cell_12 : decode cL_cell 12 = .ok (.ldc 7, 2) := by decide +kernel
theorem dL_cell_14 : decode cL_cell 14 = .ok (.iload_n 1, 1) := by decide +kernel
theorem dL_cell_15 : decode cL_cell 15 = .ok (.sipush 1033, 3) := by decide +kernel
theorem dL_cell_18 : decode cL_cell 18 = .ok (.iadd, 1) := by decide +kernel
theorem dL_cell_19 : decode cL_cell 19 = .ok (.imul, 1) := by decide +kernel
theorem dL_cell_20 : decode cL_cell 20 = .ok (.ireturn, 1) := by decide +kernel
theorem dL_up_0 : decode cL_up 0 = .ok (.iload_n 0, 1) := by decide +kernel
theorem dL_up_1 : decode cL_up 1 = .ok (.ldc 8, 2) := by decide +kernel
theorem dL_up_3 : decode cL_up 3 = .ok (.iand, 1) := by decide +kernel
theorem dL_up_4 : decode cL_up 4 = .ok (.iload_n 1, 1) := by decide +kernel
theorem dL_up_5 : decode cL_up 5 = .ok (.irem, 1) := by decide +kernel
theorem dL_up_6 : decode cL_up 6 = .ok (.ireturn, 1) := by decide +kernel
set_option maxRecDepth 20000 in
theorem ggL_isStep_X7_count : GoodIn wsL_isStep wsX7_count := goodIn_r _ [7, 8, 9, 10, 11, 12, 13, 14, 15, 16, 17, 18, 19, 20, 21, 22, 23, 24, 25, 26, 27, 28, 29, 174, 175, 176, 177, 178, 179, 180, 181, 182, 183, 184, 185, 186, 187, 188, 189, 190, 191, 192, 193, 194, 195, 196, 197, 198, 199, 200, 201, 202] (by decide +kernel) (by decide +kernel)
set_option maxRecDepth 20000 in
theorem gL_isStep_X7_count : GoodIn wsL_isStep (wsV RL 9 RX7 yX7_count wsX7_count) := goodIn_app (goodIn_of _ (by decide +kernel)) ggL_isStep_X7_count
set_option maxRecDepth 20000 in
theorem ggL_isStep_L_up : GoodIn wsL_isStep wsL_up := goodIn_r _ [33, 34] (by decide +kernel) (by decide +kernel)
set_option maxRecDepth 20000 in
theorem gL_isStep_L_up : GoodIn wsL_isStep (va_wsS RL 15 yL_up wsL_up) := goodIn_app (goodIn_of _ (by decide +kernel)) ggL_isStep_L_up
set_option maxRecDepth 20000 in
theorem ggL_isStep_X7_pass : GoodIn wsL_isStep wsX7_pass := goodIn_r _ [38, 8, 13, 39, 40, 41, 27, 42, 43, 44, 6, 45, 46, 47, 48, 49, 50, 51, 52, 53, 54, 55, 21, 22, 23, 56, 57, 58, 59, 29, 60, 61, 62, 63, 64, 65, 66, 67, 68, 69, 70, 71, 72, 73, 74, 75, 76, 77, 78, 17, 79, 80, 81, 19, 82, 83, 84, 85, 86, 87, 88, 89, 90, 91, 92, 93, 94, 95, 96, 97, 98, 99, 25, 26, 28, 100, 101, 102, 103, 104, 105, 106, 107, 108, 109, 110, 111, 112, 113, 114, 115, 116, 117, 118, 119, 120, 121, 122, 123, 124, 125, 126, 127, 174, 175, 176, 177, 178, 179, 180, 181, 182, 183, 184, 185, 186, 199, 200, 187, 188, 201, 202] (by decide +kernel) (by decide +kernel)
set_option maxRecDepth 20000 in
theorem gL_isStep_X7_pass : GoodIn wsL_isStep (wsV RL 21 RX7 yX7_pass wsX7_pass) := goodIn_app (goodIn_of _ (by decide +kernel)) ggL_isStep_X7_pass
set_option maxRecDepth 20000 in
theorem ggL_isStep_X7_rate : GoodIn wsL_isStep wsX7_rate := goodIn_r _ [131, 8, 132, 133, 44, 6, 45, 134, 46, 47, 135, 92, 93, 27, 94, 66, 95, 96, 97, 98, 99, 25, 26, 28, 29, 174, 175, 176, 177, 178, 179, 180, 181, 182, 183, 184, 185, 186] (by decide +kernel) (by decide +kernel)
set_option maxRecDepth 20000 in
theorem gL_isStep_X7_rate : GoodIn wsL_isStep (wsV RL 25 RX7 yX7_rate wsX7_rate) := goodIn_app (goodIn_of _ (by decide +kernel)) ggL_isStep_X7_rate
set_option maxRecDepth 20000 in
theorem ggL_isStep_X7_weight : GoodIn wsL_isStep wsX7_weight := goodIn_r _ [139, 8, 13, 140, 141, 142, 27, 143, 48, 49, 50, 51, 52, 53, 54, 55, 21, 22, 23, 56, 57, 58, 59, 29, 60, 61, 62, 63, 64, 65, 66, 43, 67, 68, 69, 70, 71, 72, 73, 74, 75, 76, 77, 78, 17, 79, 80, 81, 19, 144, 145, 146, 147, 174, 175, 176, 177, 178, 179, 199, 200, 180, 181, 182, 183, 184, 185, 186, 187, 188, 201, 202] (by decide +kernel) (by decide +kernel)
set_option maxRecDepth 20000 in
theorem gL_isStep_X7_weight : GoodIn wsL_isStep (wsV RL 28 RX7 yX7_weight wsX7_weight) := goodIn_app (goodIn_of _ (by decide +kernel)) ggL_isStep_X7_weight
set_option maxRecDepth 20000 in
theorem ggL_isStep_X7_hour : GoodIn wsL_isStep wsX7_hour := goodIn_r _ [151, 8, 152, 14, 15, 16, 17, 18, 19, 20, 21, 22, 23, 153, 154, 155, 156, 80, 116, 117, 118, 119, 174, 175, 176, 177, 178, 179, 180, 181, 182, 183, 184, 185, 186, 201, 202] (by decide +kernel) (by decide +kernel)
set_option maxRecDepth 20000 in
theorem gL_isStep_X7_hour : GoodIn wsL_isStep (wsV RL 31 RX7 yX7_hour wsX7_hour) := goodIn_app (goodIn_of _ (by decide +kernel)) ggL_isStep_X7_hour
set_option maxRecDepth 20000 in
theorem ggL_isStep_X7_zero : GoodIn wsL_isStep wsX7_zero := goodIn_r _ [160, 13, 8, 9, 10, 48, 49, 50, 51, 52, 53, 54, 55, 21, 22, 23, 56, 57, 58, 27, 59, 29, 60, 61, 62, 63, 64, 65, 66, 43, 67, 68, 69, 70, 71, 72, 73, 74, 75, 76, 77, 78, 17, 79, 80, 81, 19, 161, 125, 126, 127, 174, 175, 176, 177, 178, 179, 180, 181, 182, 183, 184, 185, 186, 187, 188, 199, 200, 201, 202] (by decide +kernel) (by decide +kernel)
set_option maxRecDepth 20000 in
theorem gL_isStep_X7_zero : GoodIn wsL_isStep (wsV RL 34 RX7 yX7_zero wsX7_zero) := goodIn_app (goodIn_of _ (by decide +kernel)) ggL_isStep_X7_zero
set_option maxRecDepth 20000 in
theorem ggL_isStep_X7_set : GoodIn wsL_isStep wsX7_set := goodIn_r _ [165, 8, 13, 166, 167, 168, 27, 169, 48, 49, 50, 51, 52, 53, 54, 55, 21, 22, 23, 56, 57, 58, 59, 29, 60, 61, 62, 63, 64, 65, 66, 43, 67, 68, 69, 70, 71, 72, 73, 74, 75, 76, 77, 78, 17, 79, 80, 81, 19, 170, 171, 172, 173, 99, 25, 26, 28, 174, 175, 176, 177, 178, 179, 199, 200, 180, 181, 182, 183, 184, 185, 186, 187, 188, 201, 202] (by decide +kernel) (by decide +kernel)
set_option maxRecDepth 20000 in
theorem gL_isStep_X7_set : GoodIn wsL_isStep (wsV RL 40 RX7 yX7_set wsX7_set) := goodIn_app (goodIn_of _ (by decide +kernel)) ggL_isStep_X7_set
theorem dL_isStep_0 : decode cL_isStep 0 = .ok (.iload_n 2, 1) := by decide +kernel
theorem dL_isStep_1 : decode cL_isStep 1 = .ok (.iconst 4, 1) := by decide +kernel
theorem dL_isStep_2 : decode cL_isStep 2 = .ok (.ishr, 1) := by decide +kernel
theorem dL_isStep_3 : decode cL_isStep 3 = .ok (.istore_n 3, 1) := by decide +kernel
theorem dL_isStep_4 : decode cL_isStep 4 = .ok (.aload_n 0, 1) := by decide +kernel
theorem dL_isStep_5 : decode cL_isStep 5 = .ok (.iconst 0, 1) := by decide +kernel
theorem dL_isStep_6 : decode cL_isStep 6 = .ok (.invokevirtual 9, 3) := by decide +kernel
theorem dL_isStep_9 : decode cL_isStep 9 = .ok (.istore 4, 2) := by decide +kernel
theorem dL_isStep_11 : decode cL_isStep 11 = .ok (.aload_n 0, 1) := by decide +kernel
theorem dL_isStep_12 : decode cL_isStep 12 = .ok (.iconst 3, 1) := by decide +kernel
theorem dL_isStep_13 : decode cL_isStep 13 = .ok (.invokevirtual 9, 3) := by decide +kernel
theorem dL_isStep_16 : decode cL_isStep 16 = .ok (.istore 5, 2) := by decide +kernel
theorem dL_isStep_18 : decode cL_isStep 18 = .ok (.iload_n 2, 1) := by decide +kernel
theorem dL_isStep_19 : decode cL_isStep 19 = .ok (.bipush 14, 2) := by decide +kernel
theorem dL_isStep_21 : decode cL_isStep 21 = .ok (.invokestatic 15, 3) := by decide +kernel
theorem dL_isStep_24 : decode cL_isStep 24 = .ok (.tableswitch 610 0 10 #[60, 60, 60, 60, 60, 60, 358, 358, 358, 421, 467], 60) := by decide +kernel
theorem dL_isStep_84 : decode cL_isStep 84 = .ok (.iload_n 3, 1) := by decide +kernel
theorem dL_isStep_85 : decode cL_isStep 85 = .ok (.iconst 4, 1) := by decide +kernel
theorem dL_isStep_86 : decode cL_isStep 86 = .ok (.invokestatic 15, 3) := by decide +kernel
theorem dL_isStep_89 : decode cL_isStep 89 = .ok (.ifCond .ne 17, 3) := by decide +kernel
theorem dL_isStep_92 : decode cL_isStep 92 = .ok (.iload_n 3, 1) := by decide +kernel
theorem dL_isStep_93 : decode cL_isStep 93 = .ok (.iconst 2, 1) := by decide +kernel
theorem dL_isStep_94 : decode cL_isStep 94 = .ok (.ishr, 1) := by decide +kernel
theorem dL_isStep_95 : decode cL_isStep 95 = .ok (.bipush 71, 2) := by decide +kernel
theorem dL_isStep_97 : decode cL_isStep 97 = .ok (.invokestatic 15, 3) := by decide +kernel
theorem dL_isStep_100 : decode cL_isStep 100 = .ok (.bipush 20, 2) := by decide +kernel
theorem dL_isStep_102 : decode cL_isStep 102 = .ok (.isub, 1) := by decide +kernel
theorem dL_isStep_103 : decode cL_isStep 103 = .ok (.goto 14, 3) := by decide +kernel
theorem dL_isStep_106 : decode cL_isStep 106 = .ok (.bipush 15, 2) := by decide +kernel
theorem dL_isStep_108 : decode cL_isStep 108 = .ok (.iload_n 3, 1) := by decide +kernel
theorem dL_isStep_109 : decode cL_isStep 109 = .ok (.iconst 2, 1) := by decide +kernel
theorem dL_isStep_110 : decode cL_isStep 110 = .ok (.ishr, 1) := by decide +kernel
theorem dL_isStep_111 : decode cL_isStep 111 = .ok (.bipush 14, 2) := by decide +kernel
theorem dL_isStep_113 : decode cL_isStep 113 = .ok (.invokestatic 15, 3) := by decide +kernel
theorem dL_isStep_116 : decode cL_isStep 116 = .ok (.iadd, 1) := by decide +kernel
theorem dL_isStep_117 : decode cL_isStep 117 = .ok (.istore 6, 2) := by decide +kernel
theorem dL_isStep_119 : decode cL_isStep 119 = .ok (.iload_n 3, 1) := by decide +kernel
theorem dL_isStep_120 : decode cL_isStep 120 = .ok (.iconst 5, 1) := by decide +kernel
theorem dL_isStep_121 : decode cL_isStep 121 = .ok (.ishr, 1) := by decide +kernel
theorem dL_isStep_122 : decode cL_isStep 122 = .ok (.iconst 3, 1) := by decide +kernel
theorem dL_isStep_123 : decode cL_isStep 123 = .ok (.invokestatic 15, 3) := by decide +kernel
theorem dL_isStep_126 : decode cL_isStep 126 = .ok (.ifCond .ne 20, 3) := by decide +kernel
theorem dL_isStep_129 : decode cL_isStep 129 = .ok (.sipush 800, 3) := by decide +kernel
theorem dL_isStep_132 : decode cL_isStep 132 = .ok (.iload_n 3, 1) := by decide +kernel
theorem dL_isStep_133 : decode cL_isStep 133 = .ok (.bipush 6, 2) := by decide +kernel
theorem dL_isStep_135 : decode cL_isStep 135 = .ok (.ishr, 1) := by decide +kernel
theorem dL_isStep_136 : decode cL_isStep 136 = .ok (.sipush 401, 3) := by decide +kernel
theorem dL_isStep_139 : decode cL_isStep 139 = .ok (.invokestatic 15, 3) := by decide +kernel
theorem dL_isStep_142 : decode cL_isStep 142 = .ok (.iadd, 1) := by decide +kernel
theorem dL_isStep_143 : decode cL_isStep 143 = .ok (.goto 16, 3) := by decide +kernel
theorem dL_isStep_146 : decode cL_isStep 146 = .ok (.sipush 990, 3) := by decide +kernel
theorem dL_isStep_149 : decode cL_isStep 149 = .ok (.iload_n 3, 1) := by decide +kernel
theorem dL_isStep_150 : decode cL_isStep 150 = .ok (.bipush 6, 2) := by decide +kernel
theorem dL_isStep_152 : decode cL_isStep 152 = .ok (.ishr, 1) := by decide +kernel
theorem dL_isStep_153 : decode cL_isStep 153 = .ok (.bipush 22, 2) := by decide +kernel
theorem dL_isStep_155 : decode cL_isStep 155 = .ok (.invokestatic 15, 3) := by decide +kernel
theorem dL_isStep_158 : decode cL_isStep 158 = .ok (.iadd, 1) := by decide +kernel
theorem dL_isStep_159 : decode cL_isStep 159 = .ok (.istore 7, 2) := by decide +kernel
theorem dL_isStep_161 : decode cL_isStep 161 = .ok (.iload_n 3, 1) := by decide +kernel
theorem dL_isStep_162 : decode cL_isStep 162 = .ok (.bipush 10, 2) := by decide +kernel
theorem dL_isStep_164 : decode cL_isStep 164 = .ok (.ishr, 1) := by decide +kernel
theorem dL_isStep_165 : decode cL_isStep 165 = .ok (.iconst 2, 1) := by decide +kernel
theorem dL_isStep_166 : decode cL_isStep 166 = .ok (.invokestatic 15, 3) := by decide +kernel
theorem dL_isStep_169 : decode cL_isStep 169 = .ok (.istore 8, 2) := by decide +kernel
theorem dL_isStep_171 : decode cL_isStep 171 = .ok (.iconst 1, 1) := by decide +kernel
theorem dL_isStep_172 : decode cL_isStep 172 = .ok (.iload_n 3, 1) := by decide +kernel
theorem dL_isStep_173 : decode cL_isStep 173 = .ok (.bipush 12, 2) := by decide +kernel
theorem dL_isStep_175 : decode cL_isStep 175 = .ok (.ishr, 1) := by decide +kernel
theorem dL_isStep_176 : decode cL_isStep 176 = .ok (.iload_n 3, 1) := by decide +kernel
theorem dL_isStep_177 : decode cL_isStep 177 = .ok (.bipush 11, 2) := by decide +kernel
theorem dL_isStep_179 : decode cL_isStep 179 = .ok (.ishr, 1) := by decide +kernel
theorem dL_isStep_180 : decode cL_isStep 180 = .ok (.iconst 3, 1) := by decide +kernel
theorem dL_isStep_181 : decode cL_isStep 181 = .ok (.invokestatic 15, 3) := by decide +kernel
theorem dL_isStep_184 : decode cL_isStep 184 = .ok (.ifCond .ne 8, 3) := by decide +kernel
theorem dL_isStep_187 : decode cL_isStep 187 = .ok (.bipush 30, 2) := by decide +kernel
theorem dL_isStep_189 : decode cL_isStep 189 = .ok (.goto 4, 3) := by decide +kernel
theorem dL_isStep_192 : decode cL_isStep 192 = .ok (.iconst 3, 1) := by decide +kernel
theorem dL_isStep_193 : decode cL_isStep 193 = .ok (.invokestatic 15, 3) := by decide +kernel
theorem dL_isStep_196 : decode cL_isStep 196 = .ok (.iadd, 1) := by decide +kernel
theorem dL_isStep_197 : decode cL_isStep 197 = .ok (.istore 9, 2) := by decide +kernel
theorem dL_isStep_199 : decode cL_isStep 199 = .ok (.aload_n 0, 1) := by decide +kernel
theorem dL_isStep_200 : decode cL_isStep 200 = .ok (.iload 6, 2) := by decide +kernel
theorem dL_isStep_202 : decode cL_isStep 202 = .ok (.iload 7, 2) := by decide +kernel
theorem dL_isStep_204 : decode cL_isStep 204 = .ok (.iload 8, 2) := by decide +kernel
theorem dL_isStep_206 : decode cL_isStep 206 = .ok (.iload 9, 2) := by decide +kernel
theorem dL_isStep_208 : decode cL_isStep 208 = .ok (.invokevirtual 21, 3) := by decide +kernel
theorem dL_isStep_211 : decode cL_isStep 211 = .ok (.istore 10, 2) := by decide +kernel
theorem dL_isStep_213 : decode cL_isStep 213 = .ok (.iconst 0, 1) := by decide +kernel
theorem dL_isStep_214 : decode cL_isStep 214 = .ok (.istore 11, 2) := by decide +kernel
theorem dL_isStep_216 : decode cL_isStep 216 = .ok (.iconst 1, 1) := by decide +kernel
theorem dL_isStep_217 : decode cL_isStep 217 = .ok (.istore 12, 2) := by decide +kernel
theorem dL_isStep_219 : decode cL_isStep 219 = .ok (.iconst 0, 1) := by decide +kernel
theorem dL_isStep_220 : decode cL_isStep 220 = .ok (.istore 13, 2) := by decide +kernel
theorem dL_isStep_222 : decode cL_isStep 222 = .ok (.iload 13, 2) := by decide +kernel
theorem dL_isStep_224 : decode cL_isStep 224 = .ok (.iload 9, 2) := by decide +kernel
theorem dL_isStep_226 : decode cL_isStep 226 = .ok (.if_icmp .ge 114, 3) := by decide +kernel
theorem dL_isStep_229 : decode cL_isStep 229 = .ok (.iload 12, 2) := by decide +kernel
theorem dL_isStep_231 : decode cL_isStep 231 = .ok (.ifCond .eq 109, 3) := by decide +kernel
theorem dL_isStep_234 : decode cL_isStep 234 = .ok (.iload_n 2, 1) := by decide +kernel
theorem dL_isStep_235 : decode cL_isStep 235 = .ok (.iload 13, 2) := by decide +kernel
theorem dL_isStep_237 : decode cL_isStep 237 = .ok (.bipush 7, 2) := by decide +kernel
theorem dL_isStep_239 : decode cL_isStep 239 = .ok (.irem, 1) := by decide +kernel
theorem dL_isStep_240 : decode cL_isStep 240 = .ok (.ishr, 1) := by decide +kernel
theorem dL_isStep_241 : decode cL_isStep 241 = .ok (.bipush 8, 2) := by decide +kernel
theorem dL_isStep_243 : decode cL_isStep 243 = .ok (.invokestatic 15, 3) := by decide +kernel
theorem dL_isStep_246 : decode cL_isStep 246 = .ok (.istore 14, 2) := by decide +kernel
theorem dL_isStep_248 : decode cL_isStep 248 = .ok (.aload_n 1, 1) := by decide +kernel
theorem dL_isStep_249 : decode cL_isStep 249 = .ok (.iload 6, 2) := by decide +kernel
theorem dL_isStep_251 : decode cL_isStep 251 = .ok (.iload 7, 2) := by decide +kernel
