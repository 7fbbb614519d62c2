theorem dX8_count_122 : decode cX8_count 122 = .ok (.getfield 7, 3) := by decide +kernel
theorem dX8_count_125 : decode cX8_count 125 = .ok (.bipush 10, 2) := by decide +kernel
theorem dX8_count_127 : decode cX8_count 127 = .ok (.iaload, 1) := by decide +kernel
theorem dX8_count_128 : decode cX8_count 128 = .ok (.ireturn, 1) := by decide +kernel
theorem dX8_count_129 : decode cX8_count 129 = .ok (.aload_n 0, 1) := by decide +kernel
theorem dX8_count_130 : decode cX8_count 130 = .ok (.getfield 7, 3) := by decide +kernel
theorem dX8_count_133 : decode cX8_count 133 = .ok (.iload_n 1, 1) := by decide +kernel
theorem dX8_count_134 : decode cX8_count 134 = .ok (.bipush 7, 2) := by decide +kernel
theorem dX8_count_136 : decode cX8_count 136 = .ok (.isub, 1) := by decide +kernel
theorem dX8_count_137 : decode cX8_count 137 = .ok (.iaload, 1) := by decide +kernel
theorem dX8_count_138 : decode cX8_count 138 = .ok (.sipush 1000, 3) := by decide +kernel
theorem dX8_count_141 : decode cX8_count 141 = .ok (.iadd, 1) := by decide +kernel
theorem dX8_count_142 : decode cX8_count 142 = .ok (.ireturn, 1) := by decide +kernel
theorem dX8_count_143 : decode cX8_count 143 = .ok (.aload_n 0, 1) := by decide +kernel
theorem dX8_count_144 : decode cX8_count 144 = .ok (.getfield 125, 3) := by decide +kernel
theorem dX8_count_147 : decode cX8_count 147 = .ok (.ireturn, 1) := by decide +kernel
theorem dX8_count_148 : decode cX8_count 148 = .ok (.aload_n 0, 1) := by decide +kernel
theorem dX8_count_149 : decode cX8_count 149 = .ok (.getfield 28, 3) := by decide +kernel
theorem dX8_count_152 : decode cX8_count 152 = .ok (.ireturn, 1) := by decide +kernel
theorem dX8_count_153 : decode cX8_count 153 = .ok (.bipush (-2), 2) := by decide +kernel
theorem dX8_count_155 : decode cX8_count 155 = .ok (.ireturn, 1) := by decide +kernel
set_option maxRecDepth 20000 in
theorem ggX8_meanRate_X8_of : GoodIn wsX8_meanRate wsX8_of := goodIn_r _ [6, 1, 19, 20, 21, 22, 23, 24, 25, 26, 27, 28, 29, 30, 31, 32] (by decide +kernel) (by decide +kernel)
set_option maxRecDepth 20000 in
theorem gX8_meanRate_X8_of : GoodIn wsX8_meanRate (wsV RX8 121 RX8 yX8_of wsX8_of) := goodIn_app (goodIn_of _ (by decide +kernel)) ggX8_meanRate_X8_of
set_option maxRecDepth 20000 in
theorem ggX8_meanRate_Jxe99ae_doubleToLongBits_ccdee : GoodIn wsX8_meanRate wsJxe99ae_doubleToLongBits_ccdee := goodIn_r _ [10, 11, 12, 13, 14, 15, 16, 17, 9, 18] (by decide +kernel) (by decide +kernel)
set_option maxRecDepth 20000 in
theorem gX8_meanRate_Jxe99ae_doubleToLongBits_ccdee : GoodIn wsX8_meanRate (va_wsS RX8 128 yJxe99ae_doubleToLongBits_ccdee wsJxe99ae_doubleToLongBits_ccdee) := goodIn_app (goodIn_of _ (by decide +kernel)) ggX8_meanRate_Jxe99ae_doubleToLongBits_ccdee
theorem dX8_meanRate_0 : decode cX8_meanRate 0 = .ok (.aload_n 0, 1) := by decide +kernel
theorem dX8_meanRate_1 : decode cX8_meanRate 1 = .ok (.getfield 7, 3) := by decide +kernel
theorem dX8_meanRate_4 : decode cX8_meanRate 4 = .ok (.bipush 9, 2) := by decide +kernel
theorem dX8_meanRate_6 : decode cX8_meanRate 6 = .ok (.iaload, 1) := by decide +kernel
theorem dX8_meanRate_7 : decode cX8_meanRate 7 = .ok (.ifCond .ne 5, 3) := by decide +kernel
theorem dX8_meanRate_10 : decode cX8_meanRate 10 = .ok (.lconst 0, 1) := by decide +kernel
theorem dX8_meanRate_11 : decode cX8_meanRate 11 = .ok (.lreturn, 1) := by decide +kernel
theorem dX8_meanRate_12 : decode cX8_meanRate 12 = .ok (.iconst 0, 1) := by decide +kernel
theorem dX8_meanRate_13 : decode cX8_meanRate 13 = .ok (.istore_n 1, 1) := by decide +kernel
theorem dX8_meanRate_14 : decode cX8_meanRate 14 = .ok (.iconst 0, 1) := by decide +kernel
theorem dX8_meanRate_15 : decode cX8_meanRate 15 = .ok (.istore_n 2, 1) := by decide +kernel
theorem dX8_meanRate_16 : decode cX8_meanRate 16 = .ok (.iload_n 2, 1) := by decide +kernel
theorem dX8_meanRate_17 : decode cX8_meanRate 17 = .ok (.aload_n 0, 1) := by decide +kernel
theorem dX8_meanRate_18 : decode cX8_meanRate 18 = .ok (.getfield 7, 3) := by decide +kernel
theorem dX8_meanRate_21 : decode cX8_meanRate 21 = .ok (.bipush 9, 2) := by decide +kernel
theorem dX8_meanRate_23 : decode cX8_meanRate 23 = .ok (.iaload, 1) := by decide +kernel
theorem dX8_meanRate_24 : decode cX8_meanRate 24 = .ok (.if_icmp .ge 18, 3) := by decide +kernel
theorem dX8_meanRate_27 : decode cX8_meanRate 27 = .ok (.iload_n 1, 1) := by decide +kernel
theorem dX8_meanRate_28 : decode cX8_meanRate 28 = .ok (.aload_n 0, 1) := by decide +kernel
theorem dX8_meanRate_29 : decode cX8_meanRate 29 = .ok (.iload_n 2, 1) := by decide +kernel
theorem dX8_meanRate_30 : decode cX8_meanRate 30 = .ok (.iconst 3, 1) := by decide +kernel
theorem dX8_meanRate_31 : decode cX8_meanRate 31 = .ok (.invokevirtual 121, 3) := by decide +kernel
theorem dX8_meanRate_34 : decode cX8_meanRate 34 = .ok (.iadd, 1) := by decide +kernel
theorem dX8_meanRate_35 : decode cX8_meanRate 35 = .ok (.istore_n 1, 1) := by decide +kernel
theorem dX8_meanRate_36 : decode cX8_meanRate 36 = .ok (.iinc 2 1, 3) := by decide +kernel
theorem dX8_meanRate_39 : decode cX8_meanRate 39 = .ok (.goto (-23), 3) := by decide +kernel
theorem dX8_meanRate_42 : decode cX8_meanRate 42 = .ok (.iload_n 1, 1) := by decide +kernel
theorem dX8_meanRate_43 : decode cX8_meanRate 43 = .ok (.i2d, 1) := by decide +kernel
theorem dX8_meanRate_44 : decode cX8_meanRate 44 = .ok (.aload_n 0, 1) := by decide +kernel
theorem dX8_meanRate_45 : decode cX8_meanRate 45 = .ok (.getfield 7, 3) := by decide +kernel
theorem dX8_meanRate_48 : decode cX8_meanRate 48 = .ok (.bipush 9, 2) := by decide +kernel
theorem dX8_meanRate_50 : decode cX8_meanRate 50 = .ok (.iaload, 1) := by decide +kernel
theorem dX8_meanRate_51 : decode cX8_meanRate 51 = .ok (.i2d, 1) := by decide +kernel
theorem dX8_meanRate_52 : decode cX8_meanRate 52 = .ok (.ddiv, 1) := by decide +kernel
theorem dX8_meanRate_53 : decode cX8_meanRate 53 = .ok (.invokestatic 128, 3) := by decide +kernel
theorem dX8_meanRate_56 : decode cX8_meanRate 56 = .ok (.lreturn, 1) := by decide +kernel
set_option maxRecDepth 20000 in
theorem ggX8_greatest_X8_of : GoodIn wsX8_greatest wsX8_of := goodIn_r _ [6, 1, 7, 8, 9, 10, 11, 12, 13, 14, 15, 16, 17, 18, 19, 20] (by decide +kernel) (by decide +kernel)
set_option maxRecDepth 20000 in
theorem gX8_greatest_X8_of : GoodIn wsX8_greatest (wsV RX8 121 RX8 yX8_of wsX8_of) := goodIn_app (goodIn_of _ (by decide +kernel)) ggX8_greatest_X8_of
theorem dX8_greatest_0 : decode cX8_greatest 0 = .ok (.aload_n 0, 1) := by decide +kernel
theorem dX8_greatest_1 : decode cX8_greatest 1 = .ok (.iconst 0, 1) := by decide +kernel
theorem dX8_greatest_2 : decode cX8_greatest 2 = .ok (.iconst 3, 1) := by decide +kernel
theorem dX8_greatest_3 : decode cX8_greatest 3 = .ok (.invokevirtual 121, 3) := by decide +kernel
theorem dX8_greatest_6 : decode cX8_greatest 6 = .ok (.istore_n 1, 1) := by decide +kernel
theorem dX8_greatest_7 : decode cX8_greatest 7 = .ok (.iconst 1, 1) := by decide +kernel
theorem dX8_greatest_8 : decode cX8_greatest 8 = .ok (.istore_n 2, 1) := by decide +kernel
theorem dX8_greatest_9 : decode cX8_greatest 9 = .ok (.iload_n 2, 1) := by decide +kernel
theorem dX8_greatest_10 : decode cX8_greatest 10 = .ok (.aload_n 0, 1) := by decide +kernel
theorem dX8_greatest_11 : decode cX8_greatest 11 = .ok (.getfield 7, 3) := by decide +kernel
theorem dX8_greatest_14 : decode cX8_greatest 14 = .ok (.bipush 9, 2) := by decide +kernel
theorem dX8_greatest_16 : decode cX8_greatest 16 = .ok (.iaload, 1) := by decide +kernel
theorem dX8_greatest_17 : decode cX8_greatest 17 = .ok (.if_icmp .ge 30, 3) := by decide +kernel
theorem dX8_greatest_20 : decode cX8_greatest 20 = .ok (.aload_n 0, 1) := by decide +kernel
theorem dX8_greatest_21 : decode cX8_greatest 21 = .ok (.iload_n 2, 1) := by decide +kernel
theorem dX8_greatest_22 : decode cX8_greatest 22 = .ok (.iconst 3, 1) := by decide +kernel
theorem dX8_greatest_23 : decode cX8_greatest 23 = .ok (.invokevirtual 121, 3) := by decide +kernel
theorem dX8_greatest_26 : decode cX8_greatest 26 = .ok (.iload_n 1, 1) := by decide +kernel
theorem dX8_greatest_27 : decode cX8_greatest 27 = .ok (.if_icmp .le 12, 3) := by decide +kernel
theorem dX8_greatest_30 : decode cX8_greatest 30 = .ok (.aload_n 0, 1) := by decide +kernel
theorem dX8_greatest_31 : decode cX8_greatest 31 = .ok (.iload_n 2, 1) := by decide +kernel
theorem dX8_greatest_32 : decode cX8_greatest 32 = .ok (.iconst 3, 1) := by decide +kernel
theorem dX8_greatest_33 : decode cX8_greatest 33 = .ok (.invokevirtual 121, 3) := by decide +kernel
theorem dX8_greatest_36 : decode cX8_greatest 36 = .ok (.goto 4, 3) := by decide +kernel
theorem dX8_greatest_39 : decode cX8_greatest 39 = .ok (.iload_n 1, 1) := by decide +kernel
theorem dX8_greatest_40 : decode cX8_greatest 40 = .ok (.istore_n 1, 1) := by decide +kernel
theorem dX8_greatest_41 : decode cX8_greatest 41 = .ok (.iinc 2 1, 3) := by decide +kernel
theorem dX8_greatest_44 : decode cX8_greatest 44 = .ok (.goto (-35), 3) := by decide +kernel
theorem dX8_greatest_47 : decode cX8_greatest 47 = .ok (.iload_n 1, 1) := by decide +kernel
theorem dX8_greatest_48 : decode cX8_greatest 48 = .ok (.ireturn, 1) := by decide +kernel
set_option maxRecDepth 20000 in
theorem ggX8_least_X8_of : GoodIn wsX8_least wsX8_of := goodIn_r _ [6, 1, 7, 8, 9, 10, 11, 12, 13, 14, 15, 16, 17, 18, 19, 20] (by decide +kernel) (by decide +kernel)
set_option maxRecDepth 20000 in
theorem gX8_least_X8_of : GoodIn wsX8_least (wsV RX8 121 RX8 yX8_of wsX8_of) := goodIn_app (goodIn_of _ (by decide +kernel)) ggX8_least_X8_of
theorem dX8_least_0 : decode cX8_least 0 = .ok (.aload_n 0, 1) := by decide +kernel
theorem dX8_least_1 : decode cX8_least 1 = .ok (.iconst 0, 1) := by decide +kernel
theorem dX8_least_2 : decode cX8_least 2 = .ok (.iconst 3, 1) := by decide +kernel
theorem dX8_least_3 : decode cX8_least 3 = .ok (.invokevirtual 121, 3) := by decide +kernel
theorem dX8_least_6 : decode cX8_least 6 = .ok (.istore_n 1, 1) := by decide +kernel
theorem dX8_least_7 : decode cX8_least 7 = .ok (.iconst 1, 1) := by decide +kernel
theorem dX8_least_8 : decode cX8_least 8 = .ok (.istore_n 2, 1) := by decide +kernel
theorem dX8_least_9 : decode cX8_least 9 = .ok (.iload_n 2, 1) := by decide +kernel
theorem dX8_least_10 : decode cX8_least 10 = .ok (.aload_n 0, 1) := by decide +kernel
theorem dX8_least_11 : decode cX8_least 11 = .ok (.getfield 7, 3) := by decide +kernel
theorem dX8_least_14 : decode cX8_least 14 = .ok (.bipush 9, 2) := by decide +kernel
theorem dX8_least_16 : decode cX8_least 16 = .ok (.iaload, 1) := by decide +kernel
theorem dX8_least_17 : decode cX8_least 17 = .ok (.if_icmp .ge 30, 3) := by decide +kernel
theorem dX8_least_20 : decode cX8_least 20 = .ok (.aload_n 0, 1) := by decide +kernel
theorem dX8_least_21 : decode cX8_least 21 = .ok (.iload_n 2, 1) := by decide +kernel
theorem dX8_least_22 : decode cX8_least 22 = .ok (.iconst 3, 1) := by decide +kernel
theorem dX8_least_23 : decode cX8_least 23 = .ok (.invokevirtual 121, 3) := by decide +kernel
theorem dX8_least_26 : decode cX8_least 26 = .ok (.iload_n 1, 1) := by decide +kernel
theorem dX8_least_27 : decode cX8_least 27 = .ok (.if_icmp .ge 12, 3) := by decide +kernel
theorem dX8_least_30 : decode cX8_least 30 = .ok (.aload_n 0, 1) := by decide +kernel
theorem dX8_least_31 : decode cX8_least 31 = .ok (.iload_n 2, 1) := by decide +kernel
theorem dX8_least_32 : decode cX8_least 32 = .ok (.iconst 3, 1) := by decide +kernel
theorem dX8_least_33 : decode cX8_least 33 = .ok (.invokevirtual 121, 3) := by decide +kernel
theorem dX8_least_36 : decode cX8_least 36 = .ok (.goto 4, 3) := by decide +kernel
theorem dX8_least_39 : decode cX8_least 39 = .ok (.iload_n 1, 1) := by decide +kernel
theorem dX8_least_40 : decode cX8_least 40 = .ok (.istore_n 1, 1) := by decide +kernel
theorem dX8_least_41 : decode cX8_least 41 = .ok (.iinc 2 1, 3) := by decide +kernel
theorem dX8_least_44 : decode cX8_least 44 = .ok (.goto (-35), 3) := by decide +kernel
theorem dX8_least_47 : decode cX8_least 47 = .ok (.iload_n 1, 1) := by decide +kernel
theorem dX8_least_48 : decode cX8_least 48 = .ok (.ireturn, 1) := by decide +kernel
set_option maxRecDepth 20000 in
theorem ggX8_fastHours_X8_of : GoodIn wsX8_fastHours wsX8_of := goodIn_r _ [6, 1, 7, 8, 9, 10, 11, 12, 13, 14, 15, 16, 17, 18, 19, 20] (by decide +kernel) (by decide +kernel)
set_option maxRecDepth 20000 in
theorem gX8_fastHours_X8_of : GoodIn wsX8_fastHours (wsV RX8 121 RX8 yX8_of wsX8_of) := goodIn_app (goodIn_of _ (by decide +kernel)) ggX8_fastHours_X8_of
theorem dX8_fastHours_0 : decode cX8_fastHours 0 = .ok (.iconst 0, 1) := by decide +kernel
theorem dX8_fastHours_1 : decode cX8_fastHours 1 = .ok (.istore_n 1, 1) := by decide +kernel
theorem dX8_fastHours_2 : decode cX8_fastHours 2 = .ok (.iconst 0, 1) := by decide +kernel
theorem dX8_fastHours_3 : decode cX8_fastHours 3 = .ok (.istore_n 2, 1) := by decide +kernel
theorem dX8_fastHours_4 : decode cX8_fastHours 4 = .ok (.iload_n 2, 1) := by decide +kernel
theorem dX8_fastHours_5 : decode cX8_fastHours 5 = .ok (.aload_n 0, 1) := by decide +kernel
theorem dX8_fastHours_6 : decode cX8_fastHours 6 = .ok (.getfield 7, 3) := by decide +kernel
theorem dX8_fastHours_9 : decode cX8_fastHours 9 = .ok (.bipush 9, 2) := by decide +kernel
theorem dX8_fastHours_11 : decode cX8_fastHours 11 = .ok (.iaload, 1) := by decide +kernel
theorem dX8_fastHours_12 : decode cX8_fastHours 12 = .ok (.if_icmp .ge 26, 3) := by decide +kernel
theorem dX8_fastHours_15 : decode cX8_fastHours 15 = .ok (.iload_n 1, 1) := by decide +kernel
theorem dX8_fastHours_16 : decode cX8_fastHours 16 = .ok (.aload_n 0, 1) := by decide +kernel
theorem dX8_fastHours_17 : decode cX8_fastHours 17 = .ok (.iload_n 2, 1) := by decide +kernel
theorem dX8_fastHours_18 : decode cX8_fastHours 18 = .ok (.iconst 3, 1) := by decide +kernel
theorem dX8_fastHours_19 : decode cX8_fastHours 19 = .ok (.invokevirtual 121, 3) := by decide +kernel
theorem dX8_fastHours_22 : decode cX8_fastHours 22 = .ok (.ifCond .le 7, 3) := by decide +kernel
theorem dX8_fastHours_25 : decode cX8_fastHours 25 = .ok (.iconst 1, 1) := by decide +kernel
theorem dX8_fastHours_26 : decode cX8_fastHours 26 = .ok (.goto 4, 3) := by decide +kernel
theorem dX8_fastHours_29 : decode cX8_fastHours 29 = .ok (.iconst 0, 1) := by decide +kernel
theorem dX8_fastHours_30 : decode cX8_fastHours 30 = .ok (.iadd, 1) := by decide +kernel
theorem dX8_fastHours_31 : decode cX8_fastHours 31 = .ok (.istore_n 1, 1) := by decide +kernel
theorem dX8_fastHours_32 : decode cX8_fastHours 32 = .ok (.iinc 2 1, 3) := by decide +kernel
theorem dX8_fastHours_35 : decode cX8_fastHours 35 = .ok (.goto (-31), 3) := by decide +kernel
theorem dX8_fastHours_38 : decode cX8_fastHours 38 = .ok (.iload_n 1, 1) := by decide +kernel
theorem dX8_fastHours_39 : decode cX8_fastHours 39 = .ok (.ireturn, 1) := by decide +kernel
set_option maxRecDepth 20000 in
theorem ggX8_setHours_X8_of : GoodIn wsX8_setHours wsX8_of := goodIn_r _ [6, 1, 7, 8, 9, 10, 11, 12, 13, 14, 15, 16, 17, 18, 19, 20] (by decide +kernel) (by decide +kernel)
set_option maxRecDepth 20000 in
theorem gX8_setHours_X8_of : GoodIn wsX8_setHours (wsV RX8 121 RX8 yX8_of wsX8_of) := goodIn_app (goodIn_of _ (by decide +kernel)) ggX8_setHours_X8_of
theorem dX8_setHours_0 : decode cX8_setHours 0 = .ok (.iconst 0, 1) := by decide +kernel
theorem dX8_setHours_1 : decode cX8_setHours 1 = .ok (.istore_n 1, 1) := by decide +kernel
theorem dX8_setHours_2 : decode cX8_setHours 2 = .ok (.iconst 0, 1) := by decide +kernel
theorem dX8_setHours_3 : decode cX8_setHours 3 = .ok (.istore_n 2, 1) := by decide +kernel
theorem dX8_setHours_4 : decode cX8_setHours 4 = .ok (.iload_n 2, 1) := by decide +kernel
theorem dX8_setHours_5 : decode cX8_setHours 5 = .ok (.aload_n 0, 1) := by decide +kernel
theorem dX8_setHours_6 : decode cX8_setHours 6 = .ok (.getfield 7, 3) := by decide +kernel
theorem dX8_setHours_9 : decode cX8_setHours 9 = .ok (.bipush 9, 2) := by decide +kernel
theorem dX8_setHours_11 : decode cX8_setHours 11 = .ok (.iaload, 1) := by decide +kernel
theorem dX8_setHours_12 : decode cX8_setHours 12 = .ok (.if_icmp .ge 18, 3) := by decide +kernel
theorem dX8_setHours_15 : decode cX8_setHours 15 = .ok (.iload_n 1, 1) := by decide +kernel
theorem dX8_setHours_16 : decode cX8_setHours 16 = .ok (.aload_n 0, 1) := by decide +kernel
theorem dX8_setHours_17 : decode cX8_setHours 17 = .ok (.iload_n 2, 1) := by decide +kernel
theorem dX8_setHours_18 : decode cX8_setHours 18 = .ok (.iconst 5, 1) := by decide +kernel
theorem dX8_setHours_19 : decode cX8_setHours 19 = .ok (.invokevirtual 121, 3) := by decide +kernel
theorem dX8_setHours_22 : decode cX8_setHours 22 = .ok (.iadd, 1) := by decide +kernel
theorem dX8_setHours_23 : decode cX8_setHours 23 = .ok (.istore_n 1, 1) := by decide +kernel
theorem dX8_setHours_24 : decode cX8_setHours 24 = .ok (.iinc 2 1, 3) := by decide +kernel
theorem dX8_setHours_27 : decode cX8_setHours 27 = .ok (.goto (-23), 3) := by decide +kernel
theorem dX8_setHours_30 : decode cX8_setHours 30 = .ok (.iload_n 1, 1) := by decide +kernel
theorem dX8_setHours_31 : decode cX8_setHours 31 = .ok (.ireturn, 1) := by decide +kernel
set_option maxRecDepth 20000 in
theorem ggX8_changes_X8_of : GoodIn wsX8_changes wsX8_of := goodIn_r _ [6, 1, 7, 8, 9, 10, 11, 12, 13, 14, 15, 16, 17, 18, 19, 20] (by decide +kernel) (by decide +kernel)
set_option maxRecDepth 20000 in
theorem gX8_changes_X8_of : GoodIn wsX8_changes (wsV RX8 121 RX8 yX8_of wsX8_of) := goodIn_app (goodIn_of _ (by decide +kernel)) ggX8_changes_X8_of
theorem dX8_changes_0 : decode cX8_changes 0 = .ok (.iconst 0, 1) := by decide +kernel
theorem dX8_changes_1 : decode cX8_changes 1 = .ok (.istore_n 1, 1) := by decide +kernel
theorem dX8_changes_2 : decode cX8_changes 2 = .ok (.iconst 1, 1) := by decide +kernel
theorem dX8_changes_3 : decode cX8_changes 3 = .ok (.istore_n 2, 1) := by decide +kernel
theorem dX8_changes_4 : decode cX8_changes 4 = .ok (.iload_n 2, 1) := by decide +kernel
theorem dX8_changes_5 : decode cX8_changes 5 = .ok (.aload_n 0, 1) := by decide +kernel
theorem dX8_changes_6 : decode cX8_changes 6 = .ok (.getfield 7, 3) := by decide +kernel
theorem dX8_changes_9 : decode cX8_changes 9 = .ok (.bipush 9, 2) := by decide +kernel
theorem dX8_changes_11 : decode cX8_changes 11 = .ok (.iaload, 1) := by decide +kernel
theorem dX8_changes_12 : decode cX8_changes 12 = .ok (.if_icmp .ge 36, 3) := by decide +kernel
theorem dX8_changes_15 : decode cX8_changes 15 = .ok (.iload_n 1, 1) := by decide +kernel
theorem dX8_changes_16 : decode cX8_changes 16 = .ok (.aload_n 0, 1) := by decide +kernel
theorem dX8_changes_17 : decode cX8_changes 17 = .ok (.iload_n 2, 1) := by decide +kernel
theorem dX8_changes_18 : decode cX8_changes 18 = .ok (.bipush 6, 2) := by decide +kernel
theorem dX8_changes_20 : decode cX8_changes 20 = .ok (.invokevirtual 121, 3) := by decide +kernel
theorem dX8_changes_23 : decode cX8_changes 23 = .ok (.aload_n 0, 1) := by decide +kernel
theorem dX8_changes_24 : decode cX8_changes 24 = .ok (.iload_n 2, 1) := by decide +kernel
theorem dX8_changes_25 : decode cX8_changes 25 = .ok (.iconst 1, 1) := by decide +kernel
theorem dX8_changes_26 : decode cX8_changes 26 = .ok (.isub, 1) := by decide +kernel
theorem dX8_changes_27 : decode cX8_changes 27 = .ok (.bipush 6, 2) := by decide +kernel
theorem dX8_changes_29 : decode cX8_changes 29 = .ok (.invokevirtual 121, 3) := by decide +kernel
theorem dX8_changes_32 : decode cX8_changes 32 = .ok (.if_icmp .eq 7, 3) := by decide +kernel
theorem dX8_changes_35 : decode cX8_changes 35 = .ok (.iconst 1, 1) := by decide +kernel
theorem dX8_changes_36 : decode cX8_changes 36 = .ok (.goto 4, 3) := by decide +kernel
theorem dX8_changes_39 : decode cX8_changes 39 = .ok (.iconst 0, 1) := by decide +kernel
theorem dX8_changes_40 : decode cX8_changes 40 = .ok (.iadd, 1) := by decide +kernel
theorem dX8_changes_41 : decode cX8_changes 41 = .ok (.istore_n 1, 1) := by decide +kernel
theorem dX8_changes_42 : decode cX8_changes 42 = .ok (.iinc 2 1, 3) := by decide +kernel
theorem dX8_changes_45 : decode cX8_changes 45 = .ok (.goto (-41), 3) := by decide +kernel
theorem dX8_changes_48 : decode cX8_changes 48 = .ok (.iload_n 1, 1) := by decide +kernel
theorem dX8_changes_49 : decode cX8_changes 49 = .ok (.ireturn, 1) := by decide +kernel
set_option maxRecDepth 20000 in
theorem ggX8_ofLog_X8_in : GoodIn wsX8_ofLog wsX8_in := goodIn_r _ [7] (by decide +kernel) (by decide +kernel)
set_option maxRecDepth 20000 in
theorem gX8_ofLog_X8_in : GoodIn wsX8_ofLog (va_wsS RX8 36 yX8_in wsX8_in) := goodIn_app (goodIn_of _ (by decide +kernel)) ggX8_ofLog_X8_in
set_option maxRecDepth 20000 in
theorem ggX8_ofLog_X8_greatest : GoodIn wsX8_ofLog wsX8_greatest := goodIn_r _ [11, 2, 12, 13, 14, 6, 15, 32, 33, 34, 35, 36, 37, 38, 39, 40, 41, 42, 43, 44, 45] (by decide +kernel) (by decide +kernel)
set_option maxRecDepth 20000 in
theorem gX8_ofLog_X8_greatest : GoodIn wsX8_ofLog (wsV RX8 136 RX8 yX8_greatest wsX8_greatest) := goodIn_app (goodIn_of _ (by decide +kernel)) ggX8_ofLog_X8_greatest
set_option maxRecDepth 20000 in
theorem ggX8_ofLog_X8_least : GoodIn wsX8_ofLog wsX8_least := goodIn_r _ [19, 2, 12, 13, 14, 6, 15, 32, 33, 34, 35, 36, 37, 38, 39, 40, 41, 42, 43, 44, 45] (by decide +kernel) (by decide +kernel)
set_option maxRecDepth 20000 in
theorem gX8_ofLog_X8_least : GoodIn wsX8_ofLog (wsV RX8 139 RX8 yX8_least wsX8_least) := goodIn_app (goodIn_of _ (by decide +kernel)) ggX8_ofLog_X8_least
set_option maxRecDepth 20000 in
theorem ggX8_ofLog_X8_fastHours : GoodIn wsX8_ofLog wsX8_fastHours := goodIn_r _ [23, 2, 12, 13, 14, 6, 15, 32, 33, 34, 35, 36, 37, 38, 39, 40, 41, 42, 43, 44, 45] (by decide +kernel) (by decide +kernel)
set_option maxRecDepth 20000 in
theorem gX8_ofLog_X8_fastHours : GoodIn wsX8_ofLog (wsV RX8 142 RX8 yX8_fastHours wsX8_fastHours) := goodIn_app (goodIn_of _ (by decide +kernel)) ggX8_ofLog_X8_fastHours
set_option maxRecDepth 20000 in
theorem ggX8_ofLog_X8_setHours : GoodIn wsX8_ofLog wsX8_setHours := goodIn_r _ [27, 2, 12, 13, 14, 6, 15, 32, 33, 34, 35, 36, 37, 38, 39, 40, 41, 42, 43, 44, 45] (by decide +kernel) (by decide +kernel)
set_option maxRecDepth 20000 in
theorem gX8_ofLog_X8_setHours : GoodIn wsX8_ofLog (wsV RX8 145 RX8 yX8_setHours wsX8_setHours) := goodIn_app (goodIn_of _ (by decide +kernel)) ggX8_ofLog_X8_setHours
set_option maxRecDepth 20000 in
theorem ggX8_ofLog_X8_changes : GoodIn wsX8_ofLog wsX8_changes := goodIn_r _ [31, 2, 12, 13, 14, 6, 15, 32, 33, 34, 35, 36, 37, 38, 39, 40, 41, 42, 43, 44, 45] (by decide +kernel) (by decide +kernel)
set_option maxRecDepth 20000 in
theorem gX8_ofLog_X8_changes : GoodIn wsX8_ofLog (wsV RX8 148 RX8 yX8_changes wsX8_changes) := goodIn_app (goodIn_of _ (by decide +kernel)) ggX8_ofLog_X8_changes
theorem dX8_ofLog_0 : decode cX8_ofLog 0 = .ok (.iload_n 1, 1) := by decide +kernel
theorem dX8_ofLog_1 : decode cX8_ofLog 1 = .ok (.i2l, 1) := by decide +kernel
theorem dX8_ofLog_2 : decode cX8_ofLog 2 = .ok (.lconst 0, 1) := by decide +kernel
theorem dX8_ofLog_3 : decode cX8_ofLog 3 = .ok (.ldc2_w 134, 3) := by decide +kernel
theorem dX8_ofLog_6 : decode cX8_ofLog 6 = .ok (.invokestatic 36, 3) := by decide +kernel
theorem dX8_ofLog_9 : decode cX8_ofLog 9 = .ok (.ifCond .ne 6, 3) := by decide +kernel
theorem dX8_ofLog_12 : decode cX8_ofLog 12 = .ok (.bipush (-2), 2) := by decide +kernel
theorem dX8_ofLog_14 : decode cX8_ofLog 14 = .ok (.ireturn, 1) := by decide +kernel
theorem dX8_ofLog_15 : decode cX8_ofLog 15 = .ok (.aload_n 0, 1) := by decide +kernel
theorem dX8_ofLog_16 : decode cX8_ofLog 16 = .ok (.getfield 7, 3) := by decide +kernel
theorem dX8_ofLog_19 : decode cX8_ofLog 19 = .ok (.bipush 9, 2) := by decide +kernel
theorem dX8_ofLog_21 : decode cX8_ofLog 21 = .ok (.iaload, 1) := by decide +kernel
theorem dX8_ofLog_22 : decode cX8_ofLog 22 = .ok (.ifCond .ne 6, 3) := by decide +kernel
theorem dX8_ofLog_25 : decode cX8_ofLog 25 = .ok (.bipush (-6), 2) := by decide +kernel
theorem dX8_ofLog_27 : decode cX8_ofLog 27 = .ok (.ireturn, 1) := by decide +kernel
theorem dX8_ofLog_28 : decode cX8_ofLog 28 = .ok (.iload_n 1, 1) := by decide +kernel
theorem dX8_ofLog_29 : decode cX8_ofLog 29 = .ok (.ifCond .ne 13, 3) := by decide +kernel
theorem dX8_ofLog_32 : decode cX8_ofLog 32 = .ok (.aload_n 0, 1) := by decide +kernel
theorem dX8_ofLog_33 : decode cX8_ofLog 33 = .ok (.invokevirtual 136, 3) := by decide +kernel
theorem dX8_ofLog_36 : decode cX8_ofLog 36 = .ok (.ldc 124, 2) := by decide +kernel
theorem dX8_ofLog_38 : decode cX8_ofLog 38 = .ok (.iadd, 1) := by decide +kernel
theorem dX8_ofLog_39 : decode cX8_ofLog 39 = .ok (.goto 46, 3) := by decide +kernel
theorem dX8_ofLog_42 : decode cX8_ofLog 42 = .ok (.iload_n 1, 1) := by decide +kernel
theorem dX8_ofLog_43 : decode cX8_ofLog 43 = .ok (.iconst 1, 1) := by decide +kernel
theorem dX8_ofLog_44 : decode cX8_ofLog 44 = .ok (.if_icmp .ne 13, 3) := by decide +kernel
theorem dX8_ofLog_47 : decode cX8_ofLog 47 = .ok (.aload_n 0, 1) := by decide +kernel
theorem dX8_ofLog_48 : decode cX8_ofLog 48 = .ok (.invokevirtual 139, 3) := by decide +kernel
theorem dX8_ofLog_51 : decode cX8_ofLog 51 = .ok (.ldc 124, 2) := by decide +kernel
theorem dX8_ofLog_53 : decode cX8_ofLog 53 = .ok (.iadd, 1) := by decide +kernel
theorem dX8_ofLog_54 : decode cX8_ofLog 54 = .ok (.goto 31, 3) := by decide +kernel
theorem dX8_ofLog_57 : decode cX8_ofLog 57 = .ok (.iload_n 1, 1) := by decide +kernel
theorem dX8_ofLog_58 : decode cX8_ofLog 58 = .ok (.iconst 2, 1) := by decide +kernel
theorem dX8_ofLog_59 : decode cX8_ofLog 59 = .ok (.if_icmp .ne 10, 3) := by decide +kernel
theorem dX8_ofLog_62 : decode cX8_ofLog 62 = .ok (.aload_n 0, 1) := by decide +kernel
theorem dX8_ofLog_63 : decode cX8_ofLog 63 = .ok (.invokevirtual 142, 3) := by decide +kernel
theorem dX8_ofLog_66 : decode cX8_ofLog 66 = .ok (.goto 19, 3) := by decide +kernel
theorem dX8_ofLog_69 : decode cX8_ofLog 69 = .ok (.iload_n 1, 1) := by decide +kernel
theorem dX8_ofLog_70 : decode cX8_ofLog 70 = .ok (.iconst 3, 1) := by decide +kernel
theorem dX8_ofLog_71 : decode cX8_ofLog 71 = .ok (.if_icmp .ne 10, 3) := by decide +kernel
theorem dX8_ofLog_74 : decode cX8_ofLog 74 = .ok (.aload_n 0, 1) := by decide +kernel
theorem dX8_ofLog_75 : decode cX8_ofLog 75 = .ok (.invokevirtual 145, 3) := by decide +kernel
theorem dX8_ofLog_78 : decode cX8_ofLog 78 = .ok (.goto 7, 3) := by decide +kernel
theorem dX8_ofLog_81 : decode cX8_ofLog 81 = .ok (.aload_n 0, 1) := by decide +kernel
theorem dX8_ofLog_82 : decode cX8_ofLog 82 = .ok (.invokevirtual 148, 3) := by decide +kernel
theorem dX8_ofLog_85 : decode cX8_ofLog 85 = .ok (.ireturn, 1) := by decide +kernel
set_option maxRecDepth 20000 in
theorem ggX8_rate_X8_isHeat : GoodIn wsX8_rate wsX8_isHeat := goodIn_r _ [5, 6, 7, 8, 9, 4, 10] (by decide +kernel) (by decide +kernel)
set_option maxRecDepth 20000 in
theorem gX8_rate_X8_isHeat : GoodIn wsX8_rate (va_wsS RX8 87 yX8_isHeat wsX8_isHeat) := goodIn_app (goodIn_of _ (by decide +kernel)) ggX8_rate_X8_isHeat
set_option maxRecDepth 20000 in
theorem ggX8_rate_X8_isAir : GoodIn wsX8_rate wsX8_isAir := goodIn_r _ [13, 14, 15, 8, 9, 4, 10] (by decide +kernel) (by decide +kernel)
set_option maxRecDepth 20000 in
theorem gX8_rate_X8_isAir : GoodIn wsX8_rate (va_wsS RX8 91 yX8_isAir wsX8_isAir) := goodIn_app (goodIn_of _ (by decide +kernel)) ggX8_rate_X8_isAir
set_option maxRecDepth 20000 in
theorem ggX8_rate_X8_rateNow : GoodIn wsX8_rate wsX8_rateNow := goodIn_r _ [19, 20, 21, 22, 23, 4, 24, 25, 26, 27, 28, 29, 30, 31, 32, 33, 34, 35, 36, 37, 38] (by decide +kernel) (by decide +kernel)
set_option maxRecDepth 20000 in
theorem gX8_rate_X8_rateNow : GoodIn wsX8_rate (wsV RX8 58 RX8 yX8_rateNow wsX8_rateNow) := goodIn_app (goodIn_of _ (by decide +kernel)) ggX8_rate_X8_rateNow
theorem dX8_rate_0 : decode cX8_rate 0 = .ok (.iload_n 1, 1) := by decide +kernel
theorem dX8_rate_1 : decode cX8_rate 1 = .ok (.invokestatic 87, 3) := by decide +kernel
theorem dX8_rate_4 : decode cX8_rate 4 = .ok (.ifCond .eq 22, 3) := by decide +kernel
theorem dX8_rate_7 : decode cX8_rate 7 = .ok (.iload_n 2, 1) := by decide +kernel
theorem dX8_rate_8 : decode cX8_rate 8 = .ok (.invokestatic 91, 3) := by decide +kernel
theorem dX8_rate_11 : decode cX8_rate 11 = .ok (.ifCond .eq 15, 3) := by decide +kernel
theorem dX8_rate_14 : decode cX8_rate 14 = .ok (.aload_n 0, 1) := by decide +kernel
theorem dX8_rate_15 : decode cX8_rate 15 = .ok (.iload_n 1, 1) := by decide +kernel
theorem dX8_rate_16 : decode cX8_rate 16 = .ok (.iload_n 2, 1) := by decide +kernel
theorem dX8_rate_17 : decode cX8_rate 17 = .ok (.invokevirtual 58, 3) := by decide +kernel
theorem dX8_rate_20 : decode cX8_rate 20 = .ok (.ldc 124, 2) := by decide +kernel
theorem dX8_rate_22 : decode cX8_rate 22 = .ok (.iadd, 1) := by decide +kernel
theorem dX8_rate_23 : decode cX8_rate 23 = .ok (.goto 5, 3) := by decide +kernel
theorem dX8_rate_26 : decode cX8_rate 26 = .ok (.bipush (-2), 2) := by decide +kernel
theorem dX8_rate_28 : decode cX8_rate 28 = .ok (.ireturn, 1) := by decide +kernel
theorem dX8_size_0 : decode cX8_size 0 = .ok (.iload_n 0, 1) := by decide +kernel
theorem dX8_size_1 : decode cX8_size 1 = .ok (.ifCond .ge 8, 3) := by decide +kernel
theorem dX8_size_4 : decode cX8_size 4 = .ok (.iload_n 0, 1) := by decide +kernel
theorem dX8_size_5 : decode cX8_size 5 = .ok (.ineg, 1) := by decide +kernel
theorem dX8_size_6 : decode cX8_size 6 = .ok (.goto 4, 3) := by decide +kernel
theorem dX8_size_9 : decode cX8_size 9 = .ok (.iload_n 0, 1) := by decide +kernel
theorem dX8_size_10 : decode cX8_size 10 = .ok (.ireturn, 1) := by decide +kernel
set_option maxRecDepth 20000 in
theorem ggX8_bestWeights_X8_isHeat : GoodIn wsX8_bestWeights wsX8_isHeat := goodIn_r _ [5, 6, 7, 8, 9, 4, 10] (by decide +kernel) (by decide +kernel)
set_option maxRecDepth 20000 in
theorem gX8_bestWeights_X8_isHeat : GoodIn wsX8_bestWeights (va_wsS RX8 87 yX8_isHeat wsX8_isHeat) := goodIn_app (goodIn_of _ (by decide +kernel)) ggX8_bestWeights_X8_isHeat
set_option maxRecDepth 20000 in
theorem ggX8_bestWeights_X8_isAir : GoodIn wsX8_bestWeights wsX8_isAir := goodIn_r _ [13, 14, 15, 8, 9, 4, 10] (by decide +kernel) (by decide +kernel)
set_option maxRecDepth 20000 in
theorem gX8_bestWeights_X8_isAir : GoodIn wsX8_bestWeights (va_wsS RX8 91 yX8_isAir wsX8_isAir) := goodIn_app (goodIn_of _ (by decide +kernel)) ggX8_bestWeights_X8_isAir
set_option maxRecDepth 20000 in
theorem ggX8_bestWeights_X8_in : GoodIn wsX8_bestWeights wsX8_in := goodIn_r _ [10] (by decide +kernel) (by decide +kernel)
set_option maxRecDepth 20000 in
theorem gX8_bestWeights_X8_in : GoodIn wsX8_bestWeights (va_wsS RX8 36 yX8_in wsX8_in) := goodIn_app (goodIn_of _ (by decide +kernel)) ggX8_bestWeights_X8_in
set_option maxRecDepth 20000 in
theorem ggX8_bestWeights_X8_rateWith : GoodIn wsX8_bestWeights wsX8_rateWith := goodIn_r _ [19, 20, 24, 25, 26, 27, 28, 29, 30, 31, 32, 33, 34, 35, 36, 37] (by decide +kernel) (by decide +kernel)
set_option maxRecDepth 20000 in
theorem gX8_bestWeights_X8_rateWith : GoodIn wsX8_bestWeights (wsV RX8 44 RX8 yX8_rateWith wsX8_rateWith) := goodIn_app (goodIn_of _ (by decide +kernel)) ggX8_bestWeights_X8_rateWith
set_option maxRecDepth 20000 in
theorem ggX8_bestWeights_X8_size : GoodIn wsX8_bestWeights wsX8_size := goodIn_r _ [23] (by decide +kernel) (by decide +kernel)
set_option maxRecDepth 20000 in
theorem gX8_bestWeights_X8_size : GoodIn wsX8_bestWeights (va_wsS RX8 151 yX8_size wsX8_size) := goodIn_app (goodIn_of _ (by decide +kernel)) ggX8_bestWeights_X8_size
theorem dX8_bestWeights_0 : decode cX8_bestWeights 0 = .ok (.iload_n 1, 1) := by decide +kernel
theorem dX8_bestWeights_1 : decode cX8_bestWeights 1 = .ok (.invokestatic 87, 3) := by decide +kernel
theorem dX8_bestWeights_4 : decode cX8_bestWeights 4 = .ok (.ifCond .eq 20, 3) := by decide +kernel
theorem dX8_bestWeights_7 : decode cX8_bestWeights 7 = .ok (.iload_n 2, 1) := by decide +kernel
theorem dX8_bestWeights_8 : decode cX8_bestWeights 8 = .ok (.invokestatic 91, 3) := by decide +kernel
theorem dX8_bestWeights_11 : decode cX8_bestWeights 11 = .ok (.ifCond .eq 13, 3) := by decide +kernel
theorem dX8_bestWeights_14 : decode cX8_bestWeights 14 = .ok (.iload_n 3, 1) := by decide +kernel
theorem dX8_bestWeights_15 : decode cX8_bestWeights 15 = .ok (.i2l, 1) := by decide +kernel
theorem dX8_bestWeights_16 : decode cX8_bestWeights 16 = .ok (.lconst 0, 1) := by decide +kernel
theorem dX8_bestWeights_17 : decode cX8_bestWeights 17 = .ok (.lconst 1, 1) := by decide +kernel
theorem dX8_bestWeights_18 : decode cX8_bestWeights 18 = .ok (.invokestatic 36, 3) := by decide +kernel
theorem dX8_bestWeights_21 : decode cX8_bestWeights 21 = .ok (.ifCond .ne 6, 3) := by decide +kernel
theorem dX8_bestWeights_24 : decode cX8_bestWeights 24 = .ok (.bipush (-2), 2) := by decide +kernel
theorem dX8_bestWeights_26 : decode cX8_bestWeights 26 = .ok (.ireturn, 1) := by decide +kernel
theorem dX8_bestWeights_27 : decode cX8_bestWeights 27 = .ok (.iconst 0, 1) := by decide +kernel
theorem dX8_bestWeights_28 : decode cX8_bestWeights 28 = .ok (.istore 4, 2) := by decide +kernel
theorem dX8_bestWeights_30 : decode cX8_bestWeights 30 = .ok (.iconst 1, 1) := by decide +kernel
theorem dX8_bestWeights_31 : decode cX8_bestWeights 31 = .ok (.istore 5, 2) := by decide +kernel
theorem dX8_bestWeights_33 : decode cX8_bestWeights 33 = .ok (.iload 5, 2) := by decide +kernel
theorem dX8_bestWeights_35 : decode cX8_bestWeights 35 = .ok (.sipush 256, 3) := by decide +kernel
theorem dX8_bestWeights_38 : decode cX8_bestWeights 38 = .ok (.if_icmp .ge 43, 3) := by decide +kernel
theorem dX8_bestWeights_41 : decode cX8_bestWeights 41 = .ok (.aload_n 0, 1) := by decide +kernel
theorem dX8_bestWeights_42 : decode cX8_bestWeights 42 = .ok (.iload_n 1, 1) := by decide +kernel
theorem dX8_bestWeights_43 : decode cX8_bestWeights 43 = .ok (.iload_n 2, 1) := by decide +kernel
theorem dX8_bestWeights_44 : decode cX8_bestWeights 44 = .ok (.iload 5, 2) := by decide +kernel
theorem dX8_bestWeights_46 : decode cX8_bestWeights 46 = .ok (.invokevirtual 44, 3) := by decide +kernel
theorem dX8_bestWeights_49 : decode cX8_bestWeights 49 = .ok (.invokestatic 151, 3) := by decide +kernel
theorem dX8_bestWeights_52 : decode cX8_bestWeights 52 = .ok (.aload_n 0, 1) := by decide +kernel
theorem dX8_bestWeights_53 : decode cX8_bestWeights 53 = .ok (.iload_n 1, 1) := by decide +kernel
theorem dX8_bestWeights_54 : decode cX8_bestWeights 54 = .ok (.iload_n 2, 1) := by decide +kernel
theorem dX8_bestWeights_55 : decode cX8_bestWeights 55 = .ok (.iload 4, 2) := by decide +kernel
theorem dX8_bestWeights_57 : decode cX8_bestWeights 57 = .ok (.invokevirtual 44, 3) := by decide +kernel
theorem dX8_bestWeights_60 : decode cX8_bestWeights 60 = .ok (.invokestatic 151, 3) := by decide +kernel
theorem dX8_bestWeights_63 : decode cX8_bestWeights 63 = .ok (.if_icmp .ge 8, 3) := by decide +kernel
theorem dX8_bestWeights_66 : decode cX8_bestWeights 66 = .ok (.iload 5, 2) := by decide +kernel
theorem dX8_bestWeights_68 : decode cX8_bestWeights 68 = .ok (.goto 5, 3) := by decide +kernel
theorem dX8_bestWeights_71 : decode cX8_bestWeights 71 = .ok (.iload 4, 2) := by decide +kernel
theorem dX8_bestWeights_73 : decode cX8_bestWeights 73 = .ok (.istore 4, 2) := by decide +kernel
theorem dX8_bestWeights_75 : decode cX8_bestWeights 75 = .ok (.iinc 5 1, 3) := by decide +kernel
theorem dX8_bestWeights_78 : decode cX8_bestWeights 78 = .ok (.goto (-45), 3) := by decide +kernel
theorem dX8_bestWeights_81 : decode cX8_bestWeights 81 = .ok (.iload_n 3, 1) := by decide +kernel
theorem dX8_bestWeights_82 : decode cX8_bestWeights 82 = .ok (.ifCond .ne 8, 3) := by decide +kernel
theorem dX8_bestWeights_85 : decode cX8_bestWeights 85 = .ok (.iload 4, 2) := by decide +kernel
theorem dX8_bestWeights_87 : decode cX8_bestWeights 87 = .ok (.goto 14, 3) := by decide +kernel
theorem dX8_bestWeights_90 : decode cX8_bestWeights 90 = .ok (.aload_n 0, 1) := by decide +kernel
theorem dX8_bestWeights_91 : decode cX8_bestWeights 91 = .ok (.iload_n 1, 1) := by decide +kernel
theorem dX8_bestWeights_92 : decode cX8_bestWeights 92 = .ok (.iload_n 2, 1) := by decide +kernel
theorem dX8_bestWeights_93 : decode cX8_bestWeights 93 = .ok (.iload 4, 2) := by decide +kernel
theorem dX8_bestWeights_95 : decode cX8_bestWeights 95 = .ok (.invokevirtual 44, 3) := by decide +kernel
theorem dX8_bestWeights_98 : decode cX8_bestWeights 98 = .ok (.ldc 124, 2) := by decide +kernel
theorem dX8_bestWeights_100 : decode cX8_bestWeights 100 = .ok (.iadd, 1) := by decide +kernel
theorem dX8_bestWeights_101 : decode cX8_bestWeights 101 = .ok (.ireturn, 1) := by decide +kernel
set_option maxRecDepth 20000 in
theorem ggX8_offIn_X8_isHeat : GoodIn wsX8_offIn wsX8_isHeat := goodIn_r _ [7, 8, 9, 10, 11, 6, 12] (by decide +kernel) (by decide +kernel)
set_option maxRecDepth 20000 in
theorem gX8_offIn_X8_isHeat : GoodIn wsX8_offIn (va_wsS RX8 87 yX8_isHeat wsX8_isHeat) := goodIn_app (goodIn_of _ (by decide +kernel)) ggX8_offIn_X8_isHeat
set_option maxRecDepth 20000 in
theorem ggX8_offIn_X8_isAir : GoodIn wsX8_offIn wsX8_isAir := goodIn_r _ [15, 16, 17, 10, 11, 6, 12] (by decide +kernel) (by decide +kernel)
set_option maxRecDepth 20000 in
theorem gX8_offIn_X8_isAir : GoodIn wsX8_offIn (va_wsS RX8 91 yX8_isAir wsX8_isAir) := goodIn_app (goodIn_of _ (by decide +kernel)) ggX8_offIn_X8_isAir
set_option maxRecDepth 20000 in
theorem ggX8_offIn_X8_isTooFar : GoodIn wsX8_offIn wsX8_isTooFar := goodIn_r _ [21, 2, 1, 34, 35, 36, 37, 38, 39, 40, 41, 42, 43, 44, 45, 46, 47] (by decide +kernel) (by decide +kernel)
set_option maxRecDepth 20000 in
theorem gX8_offIn_X8_isTooFar : GoodIn wsX8_offIn (wsV RX8 66 RX8 yX8_isTooFar wsX8_isTooFar) := goodIn_app (goodIn_of _ (by decide +kernel)) ggX8_offIn_X8_isTooFar
set_option maxRecDepth 20000 in
theorem ggX8_offIn_X8_rateNow : GoodIn wsX8_offIn wsX8_rateNow := goodIn_r _ [25, 1, 26, 27, 28, 6, 29, 34, 35, 36, 37, 38, 39, 40, 41, 42, 43, 44, 45, 46, 47] (by decide +kernel) (by decide +kernel)
set_option maxRecDepth 20000 in
theorem gX8_offIn_X8_rateNow : GoodIn wsX8_offIn (wsV RX8 58 RX8 yX8_rateNow wsX8_rateNow) := goodIn_app (goodIn_of _ (by decide +kernel)) ggX8_offIn_X8_rateNow
set_option maxRecDepth 20000 in
theorem ggX8_offIn_X8_goes : GoodIn wsX8_offIn wsX8_goes := goodIn_r _ [33, 3, 2, 34, 35, 36, 37, 38, 39, 40, 41, 42, 43, 44, 45, 46, 47] (by decide +kernel) (by decide +kernel)
set_option maxRecDepth 20000 in
theorem gX8_offIn_X8_goes : GoodIn wsX8_offIn (wsV RX8 62 RX8 yX8_goes wsX8_goes) := goodIn_app (goodIn_of _ (by decide +kernel)) ggX8_offIn_X8_goes
theorem dX8_offIn_0 : decode cX8_offIn 0 = .ok (.iload_n 1, 1) := by decide +kernel
theorem dX8_offIn_1 : decode cX8_offIn 1 = .ok (.invokestatic 87, 3) := by decide +kernel
theorem dX8_offIn_4 : decode cX8_offIn 4 = .ok (.ifCond .eq 10, 3) := by decide +kernel
theorem dX8_offIn_7 : decode cX8_offIn 7 = .ok (.iload_n 2, 1) := by decide +kernel
theorem dX8_offIn_8 : decode cX8_offIn 8 = .ok (.invokestatic 91, 3) := by decide +kernel
theorem dX8_offIn_11 : decode cX8_offIn 11 = .ok (.ifCond .ne 6, 3) := by decide +kernel
theorem dX8_offIn_14 : decode cX8_offIn 14 = .ok (.bipush (-2), 2) := by decide +kernel
theorem dX8_offIn_16 : decode cX8_offIn 16 = .ok (.ireturn, 1) := by decide +kernel
theorem dX8_offIn_17 : decode cX8_offIn 17 = .ok (.aload_n 0, 1) := by decide +kernel
theorem dX8_offIn_18 : decode cX8_offIn 18 = .ok (.aload_n 0, 1) := by decide +kernel
theorem dX8_offIn_19 : decode cX8_offIn 19 = .ok (.getfield 7, 3) := by decide +kernel
theorem dX8_offIn_22 : decode cX8_offIn 22 = .ok (.iconst 5, 1) := by decide +kernel
theorem dX8_offIn_23 : decode cX8_offIn 23 = .ok (.iaload, 1) := by decide +kernel
theorem dX8_offIn_24 : decode cX8_offIn 24 = .ok (.putfield 51, 3) := by decide +kernel
theorem dX8_offIn_27 : decode cX8_offIn 27 = .ok (.aload_n 0, 1) := by decide +kernel
theorem dX8_offIn_28 : decode cX8_offIn 28 = .ok (.aload_n 0, 1) := by decide +kernel
theorem dX8_offIn_29 : decode cX8_offIn 29 = .ok (.getfield 7, 3) := by decide +kernel
theorem dX8_offIn_32 : decode cX8_offIn 32 = .ok (.bipush 6, 2) := by decide +kernel
theorem dX8_offIn_34 : decode cX8_offIn 34 = .ok (.iaload, 1) := by decide +kernel
theorem dX8_offIn_35 : decode cX8_offIn 35 = .ok (.putfield 48, 3) := by decide +kernel
theorem dX8_offIn_38 : decode cX8_offIn 38 = .ok (.iconst 0, 1) := by decide +kernel
theorem dX8_offIn_39 : decode cX8_offIn 39 = .ok (.istore_n 3, 1) := by decide +kernel
theorem dX8_offIn_40 : decode cX8_offIn 40 = .ok (.aload_n 0, 1) := by decide +kernel
theorem dX8_offIn_41 : decode cX8_offIn 41 = .ok (.invokevirtual 66, 3) := by decide +kernel
theorem dX8_offIn_44 : decode cX8_offIn 44 = .ok (.ifCond .ne 26, 3) := by decide +kernel
theorem dX8_offIn_47 : decode cX8_offIn 47 = .ok (.iload_n 3, 1) := by decide +kernel
theorem dX8_offIn_48 : decode cX8_offIn 48 = .ok (.sipush 5000, 3) := by decide +kernel
theorem dX8_offIn_51 : decode cX8_offIn 51 = .ok (.if_icmp .gt 19, 3) := by decide +kernel
theorem dX8_offIn_54 : decode cX8_offIn 54 = .ok (.aload_n 0, 1) := by decide +kernel
theorem dX8_offIn_55 : decode cX8_offIn 55 = .ok (.aload_n 0, 1) := by decide +kernel
theorem dX8_offIn_56 : decode cX8_offIn 56 = .ok (.iload_n 1, 1) := by decide +kernel
theorem dX8_offIn_57 : decode cX8_offIn 57 = .ok (.iload_n 2, 1) := by decide +kernel
theorem dX8_offIn_58 : decode cX8_offIn 58 = .ok (.invokevirtual 58, 3) := by decide +kernel
theorem dX8_offIn_61 : decode cX8_offIn 61 = .ok (.invokevirtual 62, 3) := by decide +kernel
theorem dX8_offIn_64 : decode cX8_offIn 64 = .ok (.iinc 3 1, 3) := by decide +kernel
theorem dX8_offIn_67 : decode cX8_offIn 67 = .ok (.goto (-27), 3) := by decide +kernel
theorem dX8_offIn_70 : decode cX8_offIn 70 = .ok (.iload_n 3, 1) := by decide +kernel
theorem dX8_offIn_71 : decode cX8_offIn 71 = .ok (.sipush 5000, 3) := by decide +kernel
theorem dX8_offIn_74 : decode cX8_offIn 74 = .ok (.if_icmp .le 8, 3) := by decide +kernel
theorem dX8_offIn_77 : decode cX8_offIn 77 = .ok (.bipush (-6), 2) := by decide +kernel
theorem dX8_offIn_79 : decode cX8_offIn 79 = .ok (.goto 4, 3) := by decide +kernel
theorem dX8_offIn_82 : decode cX8_offIn 82 = .ok (.iload_n 3, 1) := by decide +kernel
theorem dX8_offIn_83 : decode cX8_offIn 83 = .ok (.ireturn, 1) := by decide +kernel
set_option maxRecDepth 20000 in
theorem ggX8_replay_X8_of : GoodIn wsX8_replay wsX8_of := goodIn_r _ [9, 3, 22, 23, 24, 25, 26, 27, 28, 29, 30, 31, 32, 33, 34, 35] (by decide +kernel) (by decide +kernel)
set_option maxRecDepth 20000 in
theorem gX8_replay_X8_of : GoodIn wsX8_replay (wsV RX8 121 RX8 yX8_of wsX8_of) := goodIn_app (goodIn_of _ (by decide +kernel)) ggX8_replay_X8_of
set_option maxRecDepth 20000 in
theorem ggX8_replay_X8_rateNow : GoodIn wsX8_replay wsX8_rateNow := goodIn_r _ [13, 3, 14, 15, 16, 8, 17, 22, 23, 24, 25, 26, 27, 28, 29, 30, 31, 32, 33, 34, 35] (by decide +kernel) (by decide +kernel)
set_option maxRecDepth 20000 in
theorem gX8_replay_X8_rateNow : GoodIn wsX8_replay (wsV RX8 58 RX8 yX8_rateNow wsX8_rateNow) := goodIn_app (goodIn_of _ (by decide +kernel)) ggX8_replay_X8_rateNow
set_option maxRecDepth 20000 in
theorem ggX8_replay_X8_goes : GoodIn wsX8_replay wsX8_goes := goodIn_r _ [21, 2, 1, 22, 23, 24, 25, 26, 27, 28, 29, 30, 31, 32, 33, 34, 35] (by decide +kernel) (by decide +kernel)
set_option maxRecDepth 20000 in
theorem gX8_replay_X8_goes : GoodIn wsX8_replay (wsV RX8 62 RX8 yX8_goes wsX8_goes) := goodIn_app (goodIn_of _ (by decide +kernel)) ggX8_replay_X8_goes
theorem dX8_replay_0 : decode cX8_replay 0 = .ok (.aload_n 0, 1) := by decide +kernel
theorem dX8_replay_1 : decode cX8_replay 1 = .ok (.iconst 0, 1) := by decide +kernel
theorem dX8_replay_2 : decode cX8_replay 2 = .ok (.putfield 51, 3) := by decide +kernel
theorem dX8_replay_5 : decode cX8_replay 5 = .ok (.aload_n 0, 1) := by decide +kernel
theorem dX8_replay_6 : decode cX8_replay 6 = .ok (.iconst 0, 1) := by decide +kernel
theorem dX8_replay_7 : decode cX8_replay 7 = .ok (.putfield 48, 3) := by decide +kernel
theorem dX8_replay_10 : decode cX8_replay 10 = .ok (.aload_n 0, 1) := by decide +kernel
theorem dX8_replay_11 : decode cX8_replay 11 = .ok (.getfield 7, 3) := by decide +kernel
theorem dX8_replay_14 : decode cX8_replay 14 = .ok (.bipush 9, 2) := by decide +kernel
theorem dX8_replay_16 : decode cX8_replay 16 = .ok (.iaload, 1) := by decide +kernel
theorem dX8_replay_17 : decode cX8_replay 17 = .ok (.iconst 1, 1) := by decide +kernel
theorem dX8_replay_18 : decode cX8_replay 18 = .ok (.isub, 1) := by decide +kernel
theorem dX8_replay_19 : decode cX8_replay 19 = .ok (.istore_n 1, 1) := by decide +kernel
theorem dX8_replay_20 : decode cX8_replay 20 = .ok (.iload_n 1, 1) := by decide +kernel
theorem dX8_replay_21 : decode cX8_replay 21 = .ok (.ifCond .lt 29, 3) := by decide +kernel
theorem dX8_replay_24 : decode cX8_replay 24 = .ok (.aload_n 0, 1) := by decide +kernel
theorem dX8_replay_25 : decode cX8_replay 25 = .ok (.aload_n 0, 1) := by decide +kernel
theorem dX8_replay_26 : decode cX8_replay 26 = .ok (.aload_n 0, 1) := by decide +kernel
theorem dX8_replay_27 : decode cX8_replay 27 = .ok (.iload_n 1, 1) := by decide +kernel
theorem dX8_replay_28 : decode cX8_replay 28 = .ok (.iconst 0, 1) := by decide +kernel
theorem dX8_replay_29 : decode cX8_replay 29 = .ok (.invokevirtual 121, 3) := by decide +kernel
theorem dX8_replay_32 : decode cX8_replay 32 = .ok (.aload_n 0, 1) := by decide +kernel
theorem dX8_replay_33 : decode cX8_replay 33 = .ok (.iload_n 1, 1) := by decide +kernel
theorem dX8_replay_34 : decode cX8_replay 34 = .ok (.iconst 1, 1) := by decide +kernel
theorem dX8_replay_35 : decode cX8_replay 35 = .ok (.invokevirtual 121, 3) := by decide +kernel
theorem dX8_replay_38 : decode cX8_replay 38 = .ok (.invokevirtual 58, 3) := by decide +kernel
theorem dX8_replay_41 : decode cX8_replay 41 = .ok (.invokevirtual 62, 3) := by decide +kernel
theorem dX8_replay_44 : decode cX8_replay 44 = .ok (.iinc 1 (-1), 3) := by decide +kernel
theorem dX8_replay_47 : decode cX8_replay 47 = .ok (.goto (-27), 3) := by decide +kernel
theorem dX8_replay_50 : decode cX8_replay 50 = .ok (.aload_n 0, 1) := by decide +kernel
theorem dX8_replay_51 : decode cX8_replay 51 = .ok (.getfield 51, 3) := by decide +kernel
theorem dX8_replay_54 : decode cX8_replay 54 = .ok (.ldc 98, 2) := by decide +kernel
theorem dX8_replay_56 : decode cX8_replay 56 = .ok (.iadd, 1) := by decide +kernel
theorem dX8_replay_57 : decode cX8_replay 57 = .ok (.ireturn, 1) := by decide +kernel
set_option maxRecDepth 20000 in
theorem ggX8_coolest_X8_isAir : GoodIn wsX8_coolest wsX8_isAir := goodIn_r _ [4, 5, 6, 7, 8, 3, 9] (by decide +kernel) (by decide +kernel)
set_option maxRecDepth 20000 in
theorem gX8_coolest_X8_isAir : GoodIn wsX8_coolest (va_wsS RX8 91 yX8_isAir wsX8_isAir) := goodIn_app (goodIn_of _ (by decide +kernel)) ggX8_coolest_X8_isAir
set_option maxRecDepth 20000 in
theorem ggX8_coolest_X8_rateNow : GoodIn wsX8_coolest wsX8_rateNow := goodIn_r _ [13, 14, 15, 16, 17, 3, 18, 19, 20, 21, 22, 23, 24, 25, 26, 27, 28, 29, 30, 31, 32] (by decide +kernel) (by decide +kernel)
set_option maxRecDepth 20000 in
theorem gX8_coolest_X8_rateNow : GoodIn wsX8_coolest (wsV RX8 58 RX8 yX8_rateNow wsX8_rateNow) := goodIn_app (goodIn_of _ (by decide +kernel)) ggX8_coolest_X8_rateNow
theorem dX8_coolest_0 : decode cX8_coolest 0 = .ok (.iload_n 1, 1) := by decide +kernel
theorem dX8_coolest_1 : decode cX8_coolest 1 = .ok (.invokestatic 91, 3) := by decide +kernel
theorem dX8_coolest_4 : decode cX8_coolest 4 = .ok (.ifCond .ne 6, 3) := by decide +kernel
theorem dX8_coolest_7 : decode cX8_coolest 7 = .ok (.bipush (-2), 2) := by decide +kernel
theorem dX8_coolest_9 : decode cX8_coolest 9 = .ok (.ireturn, 1) := by decide +kernel
theorem dX8_coolest_10 : decode cX8_coolest 10 = .ok (.bipush (-20), 2) := by decide +kernel
theorem dX8_coolest_12 : decode cX8_coolest 12 = .ok (.istore_n 2, 1) := by decide +kernel
theorem dX8_coolest_13 : decode cX8_coolest 13 = .ok (.iload_n 2, 1) := by decide +kernel
theorem dX8_coolest_14 : decode cX8_coolest 14 = .ok (.bipush 50, 2) := by decide +kernel
theorem dX8_coolest_16 : decode cX8_coolest 16 = .ok (.if_icmp .gt 23, 3) := by decide +kernel
theorem dX8_coolest_19 : decode cX8_coolest 19 = .ok (.aload_n 0, 1) := by decide +kernel
theorem dX8_coolest_20 : decode cX8_coolest 20 = .ok (.iload_n 2, 1) := by decide +kernel
theorem dX8_coolest_21 : decode cX8_coolest 21 = .ok (.iload_n 1, 1) := by decide +kernel
theorem dX8_coolest_22 : decode cX8_coolest 22 = .ok (.invokevirtual 58, 3) := by decide +kernel
theorem dX8_coolest_25 : decode cX8_coolest 25 = .ok (.ifCond .gt 8, 3) := by decide +kernel
theorem dX8_coolest_28 : decode cX8_coolest 28 = .ok (.iload_n 2, 1) := by decide +kernel
theorem dX8_coolest_29 : decode cX8_coolest 29 = .ok (.bipush 100, 2) := by decide +kernel
theorem dX8_coolest_31 : decode cX8_coolest 31 = .ok (.iadd, 1) := by decide +kernel
theorem dX8_coolest_32 : decode cX8_coolest 32 = .ok (.ireturn, 1) := by decide +kernel
theorem dX8_coolest_33 : decode cX8_coolest 33 = .ok (.iinc 2 1, 3) := by decide +kernel
theorem dX8_coolest_36 : decode cX8_coolest 36 = .ok (.goto (-23), 3) := by decide +kernel
theorem dX8_coolest_39 : decode cX8_coolest 39 = .ok (.bipush (-6), 2) := by decide +kernel
theorem dX8_coolest_41 : decode cX8_coolest 41 = .ok (.ireturn, 1) := by decide +kernel
set_option maxRecDepth 20000 in
theorem ggX8_put_X8_in : GoodIn wsX8_put wsX8_in := goodIn_r _ [9] (by decide +kernel) (by decide +kernel)
set_option maxRecDepth 20000 in
theorem gX8_put_X8_in : GoodIn wsX8_put (va_wsS RX8 36 yX8_in wsX8_in) := goodIn_app (goodIn_of _ (by decide +kernel)) ggX8_put_X8_in
theorem dX8_put_0 : decode cX8_put 0 = .ok (.iconst 0, 1) := by decide +kernel
theorem dX8_put_1 : decode cX8_put 1 = .ok (.istore_n 3, 1) := by decide +kernel
theorem dX8_put_2 : decode cX8_put 2 = .ok (.iconst 1, 1) := by decide +kernel
theorem dX8_put_3 : decode cX8_put 3 = .ok (.istore 4, 2) := by decide +kernel
theorem dX8_put_5 : decode cX8_put 5 = .ok (.lload_n 1, 1) := by decide +kernel
theorem dX8_put_6 : decode cX8_put 6 = .ok (.lstore 5, 2) := by decide +kernel
theorem dX8_put_8 : decode cX8_put 8 = .ok (.iload_n 3, 1) := by decide +kernel
theorem dX8_put_9 : decode cX8_put 9 = .ok (.bipush 8, 2) := by decide +kernel
theorem dX8_put_11 : decode cX8_put 11 = .ok (.if_icmp .ge 57, 3) := by decide +kernel
theorem dX8_put_14 : decode cX8_put 14 = .ok (.lload 5, 2) := by decide +kernel
theorem dX8_put_16 : decode cX8_put 16 = .ok (.ldc2_w 154, 3) := by decide +kernel
theorem dX8_put_19 : decode cX8_put 19 = .ok (.land, 1) := by decide +kernel
theorem dX8_put_20 : decode cX8_put 20 = .ok (.lconst 0, 1) := by decide +kernel
theorem dX8_put_21 : decode cX8_put 21 = .ok (.lcmp, 1) := by decide +kernel
theorem dX8_put_22 : decode cX8_put 22 = .ok (.ifCond .eq 46, 3) := by decide +kernel
theorem dX8_put_25 : decode cX8_put 25 = .ok (.iload 4, 2) := by decide +kernel
theorem dX8_put_27 : decode cX8_put 27 = .ok (.ifCond .eq 25, 3) := by decide +kernel
theorem dX8_put_30 : decode cX8_put 30 = .ok (.lload 5, 2) := by decide +kernel
theorem dX8_put_32 : decode cX8_put 32 = .ok (.ldc2_w 154, 3) := by decide +kernel
theorem dX8_put_35 : decode cX8_put 35 = .ok (.land, 1) := by decide +kernel
theorem dX8_put_36 : decode cX8_put 36 = .ok (.ldc2_w 156, 3) := by decide +kernel
theorem dX8_put_39 : decode cX8_put 39 = .ok (.ldc2_w 158, 3) := by decide +kernel
theorem dX8_put_42 : decode cX8_put 42 = .ok (.invokestatic 36, 3) := by decide +kernel
theorem dX8_put_45 : decode cX8_put 45 = .ok (.ifCond .eq 7, 3) := by decide +kernel
theorem dX8_put_48 : decode cX8_put 48 = .ok (.iconst 1, 1) := by decide +kernel
theorem dX8_put_49 : decode cX8_put 49 = .ok (.goto 4, 3) := by decide +kernel
theorem dX8_put_52 : decode cX8_put 52 = .ok (.iconst 0, 1) := by decide +kernel
theorem dX8_put_53 : decode cX8_put 53 = .ok (.istore 4, 2) := by decide +kernel
theorem dX8_put_55 : decode cX8_put 55 = .ok (.lload 5, 2) := by decide +kernel
theorem dX8_put_57 : decode cX8_put 57 = .ok (.bipush 8, 2) := by decide +kernel
theorem dX8_put_59 : decode cX8_put 59 = .ok (.lushr, 1) := by decide +kernel
theorem dX8_put_60 : decode cX8_put 60 = .ok (.lstore 5, 2) := by decide +kernel
theorem dX8_put_62 : decode cX8_put 62 = .ok (.iinc 3 1, 3) := by decide +kernel
theorem dX8_put_65 : decode cX8_put 65 = .ok (.goto (-57), 3) := by decide +kernel
theorem dX8_put_68 : decode cX8_put 68 = .ok (.iload_n 3, 1) := by decide +kernel
theorem dX8_put_69 : decode cX8_put 69 = .ok (.ifCond .eq 15, 3) := by decide +kernel
theorem dX8_put_72 : decode cX8_put 72 = .ok (.lload 5, 2) := by decide +kernel
theorem dX8_put_74 : decode cX8_put 74 = .ok (.lconst 0, 1) := by decide +kernel
theorem dX8_put_75 : decode cX8_put 75 = .ok (.lcmp, 1) := by decide +kernel
theorem dX8_put_76 : decode cX8_put 76 = .ok (.ifCond .ne 8, 3) := by decide +kernel
theorem dX8_put_79 : decode cX8_put 79 = .ok (.iload 4, 2) := by decide +kernel
theorem dX8_put_81 : decode cX8_put 81 = .ok (.ifCond .ne 6, 3) := by decide +kernel
theorem dX8_put_84 : decode cX8_put 84 = .ok (.bipush (-2), 2) := by decide +kernel
theorem dX8_put_86 : decode cX8_put 86 = .ok (.ireturn, 1) := by decide +kernel
theorem dX8_put_87 : decode cX8_put 87 = .ok (.aload_n 0, 1) := by decide +kernel
theorem dX8_put_88 : decode cX8_put 88 = .ok (.getfield 125, 3) := by decide +kernel
theorem dX8_put_91 : decode cX8_put 91 = .ok (.iload_n 3, 1) := by decide +kernel
theorem dX8_put_92 : decode cX8_put 92 = .ok (.iadd, 1) := by decide +kernel
theorem dX8_put_93 : decode cX8_put 93 = .ok (.bipush 80, 2) := by decide +kernel
theorem dX8_put_95 : decode cX8_put 95 = .ok (.if_icmp .le 6, 3) := by decide +kernel
theorem dX8_put_98 : decode cX8_put 98 = .ok (.bipush (-4), 2) := by decide +kernel
theorem dX8_put_100 : decode cX8_put 100 = .ok (.ireturn, 1) := by decide +kernel
theorem dX8_put_101 : decode cX8_put 101 = .ok (.iload_n 3, 1) := by decide +kernel
theorem dX8_put_102 : decode cX8_put 102 = .ok (.iconst 1, 1) := by decide +kernel
theorem dX8_put_103 : decode cX8_put 103 = .ok (.isub, 1) := by decide +kernel
theorem dX8_put_104 : decode cX8_put 104 = .ok (.istore 7, 2) := by decide +kernel
theorem dX8_put_106 : decode cX8_put 106 = .ok (.iload 7, 2) := by decide +kernel
theorem dX8_put_108 : decode cX8_put 108 = .ok (.ifCond .lt 40, 3) := by decide +kernel
theorem dX8_put_111 : decode cX8_put 111 = .ok (.aload_n 0, 1) := by decide +kernel
theorem dX8_put_112 : decode cX8_put 112 = .ok (.getfield 25, 3) := by decide +kernel
theorem dX8_put_115 : decode cX8_put 115 = .ok (.aload_n 0, 1) := by decide +kernel
theorem dX8_put_116 : decode cX8_put 116 = .ok (.getfield 125, 3) := by decide +kernel
theorem dX8_put_119 : decode cX8_put 119 = .ok (.lload_n 1, 1) := by decide +kernel
theorem dX8_put_120 : decode cX8_put 120 = .ok (.bipush 8, 2) := by decide +kernel
theorem dX8_put_122 : decode cX8_put 122 = .ok (.iload 7, 2) := by decide +kernel
theorem dX8_put_124 : decode cX8_put 124 = .ok (.imul, 1) := by decide +kernel
theorem dX8_put_125 : decode cX8_put 125 = .ok (.lushr, 1) := by decide +kernel
theorem dX8_put_126 : decode cX8_put 126 = .ok (.ldc2_w 154, 3) := by decide +kernel
theorem dX8_put_129 : decode cX8_put 129 = .ok (.land, 1) := by decide +kernel
theorem dX8_put_130 : decode cX8_put 130 = .ok (.l2i, 1) := by decide +kernel
theorem dX8_put_131 : decode cX8_put 131 = .ok (.iastore, 1) := by decide +kernel
theorem dX8_put_132 : decode cX8_put 132 = .ok (.aload_n 0, 1) := by decide +kernel
theorem dX8_put_133 : decode cX8_put 133 = .ok (.dup, 1) := by decide +kernel
theorem dX8_put_134 : decode cX8_put 134 = .ok (.getfield 125, 3) := by decide +kernel
theorem dX8_put_137 : decode cX8_put 137 = .ok (.iconst 1, 1) := by decide +kernel
theorem dX8_put_138 : decode cX8_put 138 = .ok (.iadd, 1) := by decide +kernel
theorem dX8_put_139 : decode cX8_put 139 = .ok (.putfield 125, 3) := by decide +kernel
theorem dX8_put_142 : decode cX8_put 142 = .ok (.iinc 7 (-1), 3) := by decide +kernel
theorem dX8_put_145 : decode cX8_put 145 = .ok (.goto (-39), 3) := by decide +kernel
theorem dX8_put_148 : decode cX8_put 148 = .ok (.aload_n 0, 1) := by decide +kernel
theorem dX8_put_149 : decode cX8_put 149 = .ok (.getfield 125, 3) := by decide +kernel
theorem dX8_put_152 : decode cX8_put 152 = .ok (.ireturn, 1) := by decide +kernel
theorem dX8_wipe_0 : decode cX8_wipe 0 = .ok (.aload_n 0, 1) := by decide +kernel
theorem dX8_wipe_1 : decode cX8_wipe 1 = .ok (.getfield 125, 3) := by decide +kernel
theorem dX8_wipe_4 : decode cX8_wipe 4 = .ok (.istore_n 1, 1) := by decide +kernel
theorem dX8_wipe_5 : decode cX8_wipe 5 = .ok (.aload_n 0, 1) := by decide +kernel
theorem dX8_wipe_6 : decode cX8_wipe 6 = .ok (.iconst 0, 1) := by decide +kernel
theorem dX8_wipe_7 : decode cX8_wipe 7 = .ok (.putfield 125, 3) := by decide +kernel
theorem dX8_wipe_10 : decode cX8_wipe 10 = .ok (.iload_n 1, 1) := by decide +kernel
theorem dX8_wipe_11 : decode cX8_wipe 11 = .ok (.ireturn, 1) := by decide +kernel
set_option maxRecDepth 20000 in
theorem ggX8_isHere_X8_in : GoodIn wsX8_isHere wsX8_in := goodIn_r _ [7] (by decide +kernel) (by decide +kernel)
set_option maxRecDepth 20000 in
theorem gX8_isHere_X8_in : GoodIn wsX8_isHere (va_wsS RX8 36 yX8_in wsX8_in) := goodIn_app (goodIn_of _ (by decide +kernel)) ggX8_isHere_X8_in
theorem dX8_isHere_0 : decode cX8_isHere 0 = .ok (.aload_n 0, 1) := by decide +kernel
theorem dX8_isHere_1 : decode cX8_isHere 1 = .ok (.getfield 160, 3) := by decide +kernel
theorem dX8_isHere_4 : decode cX8_isHere 4 = .ok (.aload_n 0, 1) := by decide +kernel
theorem dX8_isHere_5 : decode cX8_isHere 5 = .ok (.getfield 125, 3) := by decide +kernel
theorem dX8_isHere_8 : decode cX8_isHere 8 = .ok (.if_icmp .ge 27, 3) := by decide +kernel
theorem dX8_isHere_11 : decode cX8_isHere 11 = .ok (.aload_n 0, 1) := by decide +kernel
theorem dX8_isHere_12 : decode cX8_isHere 12 = .ok (.getfield 25, 3) := by decide +kernel
theorem dX8_isHere_15 : decode cX8_isHere 15 = .ok (.aload_n 0, 1) := by decide +kernel
theorem dX8_isHere_16 : decode cX8_isHere 16 = .ok (.getfield 160, 3) := by decide +kernel
theorem dX8_isHere_19 : decode cX8_isHere 19 = .ok (.iaload, 1) := by decide +kernel
theorem dX8_isHere_20 : decode cX8_isHere 20 = .ok (.i2l, 1) := by decide +kernel
theorem dX8_isHere_21 : decode cX8_isHere 21 = .ok (.iload_n 1, 1) := by decide +kernel
theorem dX8_isHere_22 : decode cX8_isHere 22 = .ok (.i2l, 1) := by decide +kernel
theorem dX8_isHere_23 : decode cX8_isHere 23 = .ok (.iload_n 2, 1) := by decide +kernel
theorem dX8_isHere_24 : decode cX8_isHere 24 = .ok (.i2l, 1) := by decide +kernel
theorem dX8_isHere_25 : decode cX8_isHere 25 = .ok (.invokestatic 36, 3) := by decide +kernel
theorem dX8_isHere_28 : decode cX8_isHere 28 = .ok (.ifCond .eq 7, 3) := by decide +kernel
theorem dX8_isHere_31 : decode cX8_isHere 31 = .ok (.iconst 1, 1) := by decide +kernel
theorem dX8_isHere_32 : decode cX8_isHere 32 = .ok (.goto 4, 3) := by decide +kernel
theorem dX8_isHere_35 : decode cX8_isHere 35 = .ok (.iconst 0, 1) := by decide +kernel
theorem dX8_isHere_36 : decode cX8_isHere 36 = .ok (.ireturn, 1) := by decide +kernel
set_option maxRecDepth 20000 in
theorem ggX8_takes_X8_isHere : GoodIn wsX8_takes wsX8_isHere := goodIn_r _ [6, 1, 7, 8, 9, 10, 5, 11, 12, 13, 14, 15, 16, 17, 18, 19, 20, 21, 22, 23, 24, 25] (by decide +kernel) (by decide +kernel)
set_option maxRecDepth 20000 in
theorem gX8_takes_X8_isHere : GoodIn wsX8_takes (wsV RX8 163 RX8 yX8_isHere wsX8_isHere) := goodIn_app (goodIn_of _ (by decide +kernel)) ggX8_takes_X8_isHere
theorem dX8_takes_0 : decode cX8_takes 0 = .ok (.aload_n 0, 1) := by decide +kernel
theorem dX8_takes_1 : decode cX8_takes 1 = .ok (.iload_n 1, 1) := by decide +kernel
theorem dX8_takes_2 : decode cX8_takes 2 = .ok (.iload_n 1, 1) := by decide +kernel
theorem dX8_takes_3 : decode cX8_takes 3 = .ok (.invokevirtual 163, 3) := by decide +kernel
theorem dX8_takes_6 : decode cX8_takes 6 = .ok (.istore_n 2, 1) := by decide +kernel
theorem dX8_takes_7 : decode cX8_takes 7 = .ok (.aload_n 0, 1) := by decide +kernel
theorem dX8_takes_8 : decode cX8_takes 8 = .ok (.dup, 1) := by decide +kernel
theorem dX8_takes_9 : decode cX8_takes 9 = .ok (.getfield 160, 3) := by decide +kernel
theorem dX8_takes_12 : decode cX8_takes 12 = .ok (.iload_n 2, 1) := by decide +kernel
theorem dX8_takes_13 : decode cX8_takes 13 = .ok (.ifCond .eq 7, 3) := by decide +kernel
theorem dX8_takes_16 : decode cX8_takes 16 = .ok (.iconst 1, 1) := by decide +kernel
theorem dX8_takes_17 : decode cX8_takes 17 = .ok (.goto 4, 3) := by decide +kernel
theorem dX8_takes_20 : decode cX8_takes 20 = .ok (.iconst 0, 1) := by decide +kernel
theorem dX8_takes_21 : decode cX8_takes 21 = .ok (.iadd, 1) := by decide +kernel
theorem dX8_takes_22 : decode cX8_takes 22 = .ok (.putfield 160, 3) := by decide +kernel
theorem dX8_takes_25 : decode cX8_takes 25 = .ok (.iload_n 2, 1) := by decide +kernel
theorem dX8_takes_26 : decode cX8_takes 26 = .ok (.ireturn, 1) := by decide +kernel
set_option maxRecDepth 20000 in
theorem ggX8_readsNumber_X8_isHere : GoodIn wsX8_readsNumber wsX8_isHere := goodIn_r _ [8, 2, 9, 1, 10, 11, 7, 12, 13, 14, 15, 16, 17, 18, 19, 20, 21, 22, 23, 24, 25, 26] (by decide +kernel) (by decide +kernel)
set_option maxRecDepth 20000 in
theorem gX8_readsNumber_X8_isHere : GoodIn wsX8_readsNumber (wsV RX8 163 RX8 yX8_isHere wsX8_isHere) := goodIn_app (goodIn_of _ (by decide +kernel)) ggX8_readsNumber_X8_isHere
theorem dX8_readsNumber_0 : decode cX8_readsNumber 0 = .ok (.aload_n 0, 1) := by decide +kernel
theorem dX8_readsNumber_1 : decode cX8_readsNumber 1 = .ok (.bipush 48, 2) := by decide +kernel
theorem dX8_readsNumber_3 : decode cX8_readsNumber 3 = .ok (.bipush 57, 2) := by decide +kernel
theorem dX8_readsNumber_5 : decode cX8_readsNumber 5 = .ok (.invokevirtual 163, 3) := by decide +kernel
theorem dX8_readsNumber_8 : decode cX8_readsNumber 8 = .ok (.ifCond .ne 5, 3) := by decide +kernel
theorem dX8_readsNumber_11 : decode cX8_readsNumber 11 = .ok (.iconst 0, 1) := by decide +kernel
theorem dX8_readsNumber_12 : decode cX8_readsNumber 12 = .ok (.ireturn, 1) := by decide +kernel
theorem dX8_readsNumber_13 : decode cX8_readsNumber 13 = .ok (.aload_n 0, 1) := by decide +kernel
theorem dX8_readsNumber_14 : decode cX8_readsNumber 14 = .ok (.aload_n 0, 1) := by decide +kernel
theorem dX8_readsNumber_15 : decode cX8_readsNumber 15 = .ok (.getfield 25, 3) := by decide +kernel
theorem dX8_readsNumber_18 : decode cX8_readsNumber 18 = .ok (.aload_n 0, 1) := by decide +kernel
theorem dX8_readsNumber_19 : decode cX8_readsNumber 19 = .ok (.getfield 160, 3) := by decide +kernel
theorem dX8_readsNumber_22 : decode cX8_readsNumber 22 = .ok (.iaload, 1) := by decide +kernel
theorem dX8_readsNumber_23 : decode cX8_readsNumber 23 = .ok (.bipush 48, 2) := by decide +kernel
theorem dX8_readsNumber_25 : decode cX8_readsNumber 25 = .ok (.isub, 1) := by decide +kernel
theorem dX8_readsNumber_26 : decode cX8_readsNumber 26 = .ok (.putfield 166, 3) := by decide +kernel
theorem dX8_readsNumber_29 : decode cX8_readsNumber 29 = .ok (.aload_n 0, 1) := by decide +kernel
theorem dX8_readsNumber_30 : decode cX8_readsNumber 30 = .ok (.dup, 1) := by decide +kernel
theorem dX8_readsNumber_31 : decode cX8_readsNumber 31 = .ok (.getfield 160, 3) := by decide +kernel
theorem dX8_readsNumber_34 : decode cX8_readsNumber 34 = .ok (.iconst 1, 1) := by decide +kernel
theorem dX8_readsNumber_35 : decode cX8_readsNumber 35 = .ok (.iadd, 1) := by decide +kernel
theorem dX8_readsNumber_36 : decode cX8_readsNumber 36 = .ok (.putfield 160, 3) := by decide +kernel
theorem dX8_readsNumber_39 : decode cX8_readsNumber 39 = .ok (.aload_n 0, 1) := by decide +kernel
theorem dX8_readsNumber_40 : decode cX8_readsNumber 40 = .ok (.getfield 166, 3) := by decide +kernel
theorem dX8_readsNumber_43 : decode cX8_readsNumber 43 = .ok (.ifCond .le 77, 3) := by decide +kernel
theorem dX8_readsNumber_46 : decode cX8_readsNumber 46 = .ok (.aload_n 0, 1) := by decide +kernel
theorem dX8_readsNumber_47 : decode cX8_readsNumber 47 = .ok (.bipush 48, 2) := by decide +kernel
theorem dX8_readsNumber_49 : decode cX8_readsNumber 49 = .ok (.bipush 57, 2) := by decide +kernel
theorem dX8_readsNumber_51 : decode cX8_readsNumber 51 = .ok (.invokevirtual 163, 3) := by decide +kernel
theorem dX8_readsNumber_54 : decode cX8_readsNumber 54 = .ok (.ifCond .eq 66, 3) := by decide +kernel
theorem dX8_readsNumber_57 : decode cX8_readsNumber 57 = .ok (.bipush 10, 2) := by decide +kernel
theorem dX8_readsNumber_59 : decode cX8_readsNumber 59 = .ok (.aload_n 0, 1) := by decide +kernel
theorem dX8_readsNumber_60 : decode cX8_readsNumber 60 = .ok (.getfield 166, 3) := by decide +kernel
theorem dX8_readsNumber_63 : decode cX8_readsNumber 63 = .ok (.imul, 1) := by decide +kernel
theorem dX8_readsNumber_64 : decode cX8_readsNumber 64 = .ok (.aload_n 0, 1) := by decide +kernel
theorem dX8_readsNumber_65 : decode cX8_readsNumber 65 = .ok (.getfield 25, 3) := by decide +kernel
theorem dX8_readsNumber_68 : decode cX8_readsNumber 68 = .ok (.aload_n 0, 1) := by decide +kernel
theorem dX8_readsNumber_69 : decode cX8_readsNumber 69 = .ok (.getfield 160, 3) := by decide +kernel
theorem dX8_readsNumber_72 : decode cX8_readsNumber 72 = .ok (.iaload, 1) := by decide +kernel
theorem dX8_readsNumber_73 : decode cX8_readsNumber 73 = .ok (.iadd, 1) := by decide +kernel
theorem dX8_readsNumber_74 : decode cX8_readsNumber 74 = .ok (.bipush 48, 2) := by decide +kernel
theorem dX8_readsNumber_76 : decode cX8_readsNumber 76 = .ok (.isub, 1) := by decide +kernel
theorem dX8_readsNumber_77 : decode cX8_readsNumber 77 = .ok (.sipush 9999, 3) := by decide +kernel
theorem dX8_readsNumber_80 : decode cX8_readsNumber 80 = .ok (.if_icmp .gt 40, 3) := by decide +kernel
theorem dX8_readsNumber_83 : decode cX8_readsNumber 83 = .ok (.aload_n 0, 1) := by decide +kernel
theorem dX8_readsNumber_84 : decode cX8_readsNumber 84 = .ok (.bipush 10, 2) := by decide +kernel
theorem dX8_readsNumber_86 : decode cX8_readsNumber 86 = .ok (.aload_n 0, 1) := by decide +kernel
theorem dX8_readsNumber_87 : decode cX8_readsNumber 87 = .ok (.getfield 166, 3) := by decide +kernel
theorem dX8_readsNumber_90 : decode cX8_readsNumber 90 = .ok (.imul, 1) := by decide +kernel
theorem dX8_readsNumber_91 : decode cX8_readsNumber 91 = .ok (.aload_n 0, 1) := by decide +kernel
theorem dX8_readsNumber_92 : decode cX8_readsNumber 92 = .ok (.getfield 25, 3) := by decide +kernel
theorem dX8_readsNumber_95 : decode cX8_readsNumber 95 = .ok (.aload_n 0, 1) := by decide +kernel
theorem dX8_readsNumber_96 : decode cX8_readsNumber 96 = .ok (.getfield 160, 3) := by decide +kernel
theorem dX8_readsNumber_99 : decode cX8_readsNumber 99 = .ok (.iaload, 1) := by decide +kernel
theorem dX8_readsNumber_100 : decode cX8_readsNumber 100 = .ok (.iadd, 1) := by decide +kernel
theorem dX8_readsNumber_101 : decode cX8_readsNumber 101 = .ok (.bipush 48, 2) := by decide +kernel
theorem dX8_readsNumber_103 : decode cX8_readsNumber 103 = .ok (.isub, 1) := by decide +kernel
theorem dX8_readsNumber_104 : decode cX8_readsNumber 104 = .ok (.putfield 166, 3) := by decide +kernel
theorem dX8_readsNumber_107 : decode cX8_readsNumber 107 = .ok (.aload_n 0, 1) := by decide +kernel
theorem dX8_readsNumber_108 : decode cX8_readsNumber 108 = .ok (.dup, 1) := by decide +kernel
theorem dX8_readsNumber_109 : decode cX8_readsNumber 109 = .ok (.getfield 160, 3) := by decide +kernel
theorem dX8_readsNumber_112 : decode cX8_readsNumber 112 = .ok (.iconst 1, 1) := by decide +kernel
theorem dX8_readsNumber_113 : decode cX8_readsNumber 113 = .ok (.iadd, 1) := by decide +kernel
theorem dX8_readsNumber_114 : decode cX8_readsNumber 114 = .ok (.putfield 160, 3) := by decide +kernel
theorem dX8_readsNumber_117 : decode cX8_readsNumber 117 = .ok (.goto (-78), 3) := by decide +kernel
theorem dX8_readsNumber_120 : decode cX8_readsNumber 120 = .ok (.iconst 1, 1) := by decide +kernel
theorem dX8_readsNumber_121 : decode cX8_readsNumber 121 = .ok (.ireturn, 1) := by decide +kernel
set_option maxRecDepth 20000 in
theorem ggX8_readsValue_X8_takes : GoodIn wsX8_readsValue wsX8_takes := goodIn_r _ [6, 7, 8, 9, 10, 5, 11, 12, 13, 14, 15, 16, 21, 22, 23, 24, 25, 26, 27, 28, 29, 30, 31, 32, 33, 34] (by decide +kernel) (by decide +kernel)
set_option maxRecDepth 20000 in
theorem gX8_readsValue_X8_takes : GoodIn wsX8_readsValue (wsV RX8 169 RX8 yX8_takes wsX8_takes) := goodIn_app (goodIn_of _ (by decide +kernel)) ggX8_readsValue_X8_takes
set_option maxRecDepth 20000 in
theorem ggX8_readsValue_X8_readsNumber : GoodIn wsX8_readsValue wsX8_readsNumber := goodIn_r _ [20, 13, 7, 1, 8, 9, 10, 5, 11, 12, 14, 15, 16, 21, 22, 23, 24, 25, 26, 27, 28, 29, 30, 31, 32, 33, 34] (by decide +kernel) (by decide +kernel)
set_option maxRecDepth 20000 in
theorem gX8_readsValue_X8_readsNumber : GoodIn wsX8_readsValue (wsV RX8 172 RX8 yX8_readsNumber wsX8_readsNumber) := goodIn_app (goodIn_of _ (by decide +kernel)) ggX8_readsValue_X8_readsNumber
theorem dX8_readsValue_0 : decode cX8_readsValue 0 = .ok (.aload_n 0, 1) := by decide +kernel
theorem dX8_readsValue_1 : decode cX8_readsValue 1 = .ok (.bipush 45, 2) := by decide +kernel
theorem dX8_readsValue_3 : decode cX8_readsValue 3 = .ok (.invokevirtual 169, 3) := by decide +kernel
theorem dX8_readsValue_6 : decode cX8_readsValue 6 = .ok (.istore_n 1, 1) := by decide +kernel
theorem dX8_readsValue_7 : decode cX8_readsValue 7 = .ok (.aload_n 0, 1) := by decide +kernel
theorem dX8_readsValue_8 : decode cX8_readsValue 8 = .ok (.invokevirtual 172, 3) := by decide +kernel
theorem dX8_readsValue_11 : decode cX8_readsValue 11 = .ok (.istore_n 2, 1) := by decide +kernel
theorem dX8_readsValue_12 : decode cX8_readsValue 12 = .ok (.aload_n 0, 1) := by decide +kernel
theorem dX8_readsValue_13 : decode cX8_readsValue 13 = .ok (.iload_n 1, 1) := by decide +kernel
theorem dX8_readsValue_14 : decode cX8_readsValue 14 = .ok (.ifCond .eq 11, 3) := by decide +kernel
theorem dX8_readsValue_17 : decode cX8_readsValue 17 = .ok (.aload_n 0, 1) := by decide +kernel
theorem dX8_readsValue_18 : decode cX8_readsValue 18 = .ok (.getfield 166, 3) := by decide +kernel
theorem dX8_readsValue_21 : decode cX8_readsValue 21 = .ok (.ineg, 1) := by decide +kernel
theorem dX8_readsValue_22 : decode cX8_readsValue 22 = .ok (.goto 7, 3) := by decide +kernel
theorem dX8_readsValue_25 : decode cX8_readsValue 25 = .ok (.aload_n 0, 1) := by decide +kernel
theorem dX8_readsValue_26 : decode cX8_readsValue 26 = .ok (.getfield 166, 3) := by decide +kernel
theorem dX8_readsValue_29 : decode cX8_readsValue 29 = .ok (.putfield 166, 3) := by decide +kernel
theorem dX8_readsValue_32 : decode cX8_readsValue 32 = .ok (.iload_n 2, 1) := by decide +kernel
theorem dX8_readsValue_33 : decode cX8_readsValue 33 = .ok (.ireturn, 1) := by decide +kernel
theorem dX8_does_0 : decode cX8_does 0 = .ok (.aload_n 0, 1) := by decide +kernel
theorem dX8_does_1 : decode cX8_does 1 = .ok (.iload_n 1, 1) := by decide +kernel
theorem dX8_does_2 : decode cX8_does 2 = .ok (.ifCond .ge 7, 3) := by decide +kernel
theorem dX8_does_5 : decode cX8_does 5 = .ok (.iload_n 1, 1) := by decide +kernel
theorem dX8_does_6 : decode cX8_does 6 = .ok (.goto 4, 3) := by decide +kernel
theorem dX8_does_9 : decode cX8_does 9 = .ok (.iconst 0, 1) := by decide +kernel
theorem dX8_does_10 : decode cX8_does 10 = .ok (.putfield 175, 3) := by decide +kernel
theorem dX8_does_13 : decode cX8_does 13 = .ok (.return_, 1) := by decide +kernel
set_option maxRecDepth 20000 in
theorem ggX8_readsHours_X8_readsValue : GoodIn wsX8_readsHours wsX8_readsValue := goodIn_r _ [7, 1, 8, 9, 10, 6, 11, 12, 13, 14, 15, 16, 17, 18, 19, 20, 21, 22, 23, 24, 25, 77, 78, 79, 80, 81, 82, 83, 84, 85, 86, 87, 88, 89, 90] (by decide +kernel) (by decide +kernel)
set_option maxRecDepth 20000 in
theorem gX8_readsHours_X8_readsValue : GoodIn wsX8_readsHours (wsV RX8 178 RX8 yX8_readsValue wsX8_readsValue) := goodIn_app (goodIn_of _ (by decide +kernel)) ggX8_readsHours_X8_readsValue
set_option maxRecDepth 20000 in
theorem ggX8_readsHours_X8_takes : GoodIn wsX8_readsHours wsX8_takes := goodIn_r _ [11, 12, 13, 14, 15, 6, 16, 17, 18, 19, 20, 21, 77, 78, 79, 80, 81, 82, 83, 84, 85, 86, 87, 88, 89, 90] (by decide +kernel) (by decide +kernel)
set_option maxRecDepth 20000 in
theorem gX8_readsHours_X8_takes : GoodIn wsX8_readsHours (wsV RX8 169 RX8 yX8_takes wsX8_takes) := goodIn_app (goodIn_of _ (by decide +kernel)) ggX8_readsHours_X8_takes
set_option maxRecDepth 20000 in
theorem ggX8_readsHours_X8_readsNumber : GoodIn wsX8_readsHours wsX8_readsNumber := goodIn_r _ [25, 18, 12, 1, 13, 14, 15, 6, 16, 17, 19, 20, 21, 77, 78, 79, 80, 81, 82, 83, 84, 85, 86, 87, 88, 89, 90] (by decide +kernel) (by decide +kernel)
set_option maxRecDepth 20000 in
theorem gX8_readsHours_X8_readsNumber : GoodIn wsX8_readsHours (wsV RX8 172 RX8 yX8_readsNumber wsX8_readsNumber) := goodIn_app (goodIn_of _ (by decide +kernel)) ggX8_readsHours_X8_readsNumber
set_option maxRecDepth 20000 in
theorem ggX8_readsHours_X8_doPass : GoodIn wsX8_readsHours wsX8_doPass := goodIn_r _ [29, 30, 31, 32, 33, 6, 34, 35, 36, 19, 20, 21, 37, 38, 39, 40, 41, 42, 43, 44, 45, 46, 47, 48, 49, 50, 51, 52, 53, 54, 55, 56, 57, 58, 59, 60, 61, 62, 63, 64, 65, 66, 67, 68, 69, 70, 71, 77, 78, 79, 80, 81, 82, 83, 84, 85, 86, 87, 88, 89, 90] (by decide +kernel) (by decide +kernel)
set_option maxRecDepth 20000 in
theorem gX8_readsHours_X8_doPass : GoodIn wsX8_readsHours (wsV RX8 111 RX8 yX8_doPass wsX8_doPass) := goodIn_app (goodIn_of _ (by decide +kernel)) ggX8_readsHours_X8_doPass
set_option maxRecDepth 20000 in
theorem ggX8_readsHours_X8_does : GoodIn wsX8_readsHours wsX8_does := goodIn_r _ [75, 76, 77, 78, 79, 80, 81, 82, 83, 84, 85, 86, 87, 88, 89, 90] (by decide +kernel) (by decide +kernel)
set_option maxRecDepth 20000 in
theorem gX8_readsHours_X8_does : GoodIn wsX8_readsHours (wsV RX8 185 RX8 yX8_does wsX8_does) := goodIn_app (goodIn_of _ (by decide +kernel)) ggX8_readsHours_X8_does
theorem dX8_readsHours_0 : decode cX8_readsHours 0 = .ok (.aload_n 0, 1) := by decide +kernel
theorem dX8_readsHours_1 : decode cX8_readsHours 1 = .ok (.invokevirtual 178, 3) := by decide +kernel
theorem dX8_readsHours_4 : decode cX8_readsHours 4 = .ok (.ifCond .ne 5, 3) := by decide +kernel
theorem dX8_readsHours_7 : decode cX8_readsHours 7 = .ok (.iconst 0, 1) := by decide +kernel
theorem dX8_readsHours_8 : decode cX8_readsHours 8 = .ok (.ireturn, 1) := by decide +kernel
theorem dX8_readsHours_9 : decode cX8_readsHours 9 = .ok (.aload_n 0, 1) := by decide +kernel
theorem dX8_readsHours_10 : decode cX8_readsHours 10 = .ok (.getfield 166, 3) := by decide +kernel
theorem dX8_readsHours_13 : decode cX8_readsHours 13 = .ok (.istore_n 1, 1) := by decide +kernel
theorem dX8_readsHours_14 : decode cX8_readsHours 14 = .ok (.aload_n 0, 1) := by decide +kernel
theorem dX8_readsHours_15 : decode cX8_readsHours 15 = .ok (.bipush 44, 2) := by decide +kernel
theorem dX8_readsHours_17 : decode cX8_readsHours 17 = .ok (.invokevirtual 169, 3) := by decide +kernel
theorem dX8_readsHours_20 : decode cX8_readsHours 20 = .ok (.ifCond .eq 10, 3) := by decide +kernel
theorem dX8_readsHours_23 : decode cX8_readsHours 23 = .ok (.aload_n 0, 1) := by decide +kernel
theorem dX8_readsHours_24 : decode cX8_readsHours 24 = .ok (.invokevirtual 172, 3) := by decide +kernel
theorem dX8_readsHours_27 : decode cX8_readsHours 27 = .ok (.ifCond .ne 5, 3) := by decide +kernel
theorem dX8_readsHours_30 : decode cX8_readsHours 30 = .ok (.iconst 0, 1) := by decide +kernel
theorem dX8_readsHours_31 : decode cX8_readsHours 31 = .ok (.ireturn, 1) := by decide +kernel
theorem dX8_readsHours_32 : decode cX8_readsHours 32 = .ok (.aload_n 0, 1) := by decide +kernel
theorem dX8_readsHours_33 : decode cX8_readsHours 33 = .ok (.getfield 166, 3) := by decide +kernel
theorem dX8_readsHours_36 : decode cX8_readsHours 36 = .ok (.istore_n 2, 1) := by decide +kernel
theorem dX8_readsHours_37 : decode cX8_readsHours 37 = .ok (.aload_n 0, 1) := by decide +kernel
theorem dX8_readsHours_38 : decode cX8_readsHours 38 = .ok (.bipush 114, 2) := by decide +kernel
theorem dX8_readsHours_40 : decode cX8_readsHours 40 = .ok (.invokevirtual 169, 3) := by decide +kernel
theorem dX8_readsHours_43 : decode cX8_readsHours 43 = .ok (.ifCond .eq 7, 3) := by decide +kernel
theorem dX8_readsHours_46 : decode cX8_readsHours 46 = .ok (.iconst 1, 1) := by decide +kernel
theorem dX8_readsHours_47 : decode cX8_readsHours 47 = .ok (.goto 4, 3) := by decide +kernel
theorem dX8_readsHours_50 : decode cX8_readsHours 50 = .ok (.iconst 0, 1) := by decide +kernel
theorem dX8_readsHours_51 : decode cX8_readsHours 51 = .ok (.istore_n 3, 1) := by decide +kernel
theorem dX8_readsHours_52 : decode cX8_readsHours 52 = .ok (.aload_n 0, 1) := by decide +kernel
theorem dX8_readsHours_53 : decode cX8_readsHours 53 = .ok (.iconst 1, 1) := by decide +kernel
theorem dX8_readsHours_54 : decode cX8_readsHours 54 = .ok (.putfield 166, 3) := by decide +kernel
theorem dX8_readsHours_57 : decode cX8_readsHours 57 = .ok (.aload_n 0, 1) := by decide +kernel
theorem dX8_readsHours_58 : decode cX8_readsHours 58 = .ok (.bipush 42, 2) := by decide +kernel
theorem dX8_readsHours_60 : decode cX8_readsHours 60 = .ok (.invokevirtual 169, 3) := by decide +kernel
theorem dX8_readsHours_63 : decode cX8_readsHours 63 = .ok (.ifCond .eq 12, 3) := by decide +kernel
theorem dX8_readsHours_66 : decode cX8_readsHours 66 = .ok (.aload_n 0, 1) := by decide +kernel
theorem dX8_readsHours_67 : decode cX8_readsHours 67 = .ok (.invokevirtual 172, 3) := by decide +kernel
theorem dX8_readsHours_70 : decode cX8_readsHours 70 = .ok (.ifCond .ne 5, 3) := by decide +kernel
theorem dX8_readsHours_73 : decode cX8_readsHours 73 = .ok (.iconst 0, 1) := by decide +kernel
theorem dX8_readsHours_74 : decode cX8_readsHours 74 = .ok (.ireturn, 1) := by decide +kernel
theorem dX8_readsHours_75 : decode cX8_readsHours 75 = .ok (.aload_n 0, 1) := by decide +kernel
theorem dX8_readsHours_76 : decode cX8_readsHours 76 = .ok (.getfield 181, 3) := by decide +kernel
theorem dX8_readsHours_79 : decode cX8_readsHours 79 = .ok (.ifCond .eq 18, 3) := by decide +kernel
theorem dX8_readsHours_82 : decode cX8_readsHours 82 = .ok (.aload_n 0, 1) := by decide +kernel
theorem dX8_readsHours_83 : decode cX8_readsHours 83 = .ok (.aload_n 0, 1) := by decide +kernel
theorem dX8_readsHours_84 : decode cX8_readsHours 84 = .ok (.iload_n 1, 1) := by decide +kernel
theorem dX8_readsHours_85 : decode cX8_readsHours 85 = .ok (.iload_n 2, 1) := by decide +kernel
theorem dX8_readsHours_86 : decode cX8_readsHours 86 = .ok (.iload_n 3, 1) := by decide +kernel
theorem dX8_readsHours_87 : decode cX8_readsHours 87 = .ok (.aload_n 0, 1) := by decide +kernel
theorem dX8_readsHours_88 : decode cX8_readsHours 88 = .ok (.getfield 166, 3) := by decide +kernel
theorem dX8_readsHours_91 : decode cX8_readsHours 91 = .ok (.invokevirtual 111, 3) := by decide +kernel
theorem dX8_readsHours_94 : decode cX8_readsHours 94 = .ok (.invokevirtual 185, 3) := by decide +kernel
theorem dX8_readsHours_97 : decode cX8_readsHours 97 = .ok (.iconst 1, 1) := by decide +kernel
theorem dX8_readsHours_98 : decode cX8_readsHours 98 = .ok (.ireturn, 1) := by decide +kernel
set_option maxRecDepth 20000 in
theorem ggX8_readsOrder_X8_takes : GoodIn wsX8_readsOrder wsX8_takes := goodIn_r _ [9, 3, 10, 11, 12, 8, 13, 14, 2, 15, 16, 17, 101, 102, 103, 104, 105, 106, 107, 108, 109, 110, 111, 112, 113, 114] (by decide +kernel) (by decide +kernel)
set_option maxRecDepth 20000 in
theorem gX8_readsOrder_X8_takes : GoodIn wsX8_readsOrder (wsV RX8 169 RX8 yX8_takes wsX8_takes) := goodIn_app (goodIn_of _ (by decide +kernel)) ggX8_readsOrder_X8_takes
set_option maxRecDepth 20000 in
theorem ggX8_readsOrder_X8_doZero : GoodIn wsX8_readsOrder wsX8_doZero := goodIn_r _ [21, 22, 23, 101, 102, 103, 104, 105, 106, 107, 108, 109, 110, 111, 112, 113, 114] (by decide +kernel) (by decide +kernel)
set_option maxRecDepth 20000 in
theorem gX8_readsOrder_X8_doZero : GoodIn wsX8_readsOrder (wsV RX8 115 RX8 yX8_doZero wsX8_doZero) := goodIn_app (goodIn_of _ (by decide +kernel)) ggX8_readsOrder_X8_doZero
set_option maxRecDepth 20000 in
theorem ggX8_readsOrder_X8_does : GoodIn wsX8_readsOrder wsX8_does := goodIn_r _ [27, 28, 101, 102, 103, 104, 105, 106, 107, 108, 109, 110, 111, 112, 113, 114] (by decide +kernel) (by decide +kernel)
set_option maxRecDepth 20000 in
theorem gX8_readsOrder_X8_does : GoodIn wsX8_readsOrder (wsV RX8 185 RX8 yX8_does wsX8_does) := goodIn_app (goodIn_of _ (by decide +kernel)) ggX8_readsOrder_X8_does
set_option maxRecDepth 20000 in
theorem ggX8_readsOrder_X8_isHere : GoodIn wsX8_readsOrder wsX8_isHere := goodIn_r _ [13, 3, 14, 2, 15, 16, 8, 17, 101, 102, 103, 104, 105, 106, 107, 108, 109, 110, 111, 112, 113, 114] (by decide +kernel) (by decide +kernel)
set_option maxRecDepth 20000 in
theorem gX8_readsOrder_X8_isHere : GoodIn wsX8_readsOrder (wsV RX8 163 RX8 yX8_isHere wsX8_isHere) := goodIn_app (goodIn_of _ (by decide +kernel)) ggX8_readsOrder_X8_isHere
set_option maxRecDepth 20000 in
theorem ggX8_readsOrder_X8_doWeight : GoodIn wsX8_readsOrder wsX8_doWeight := goodIn_r _ [32, 33, 22, 15, 16, 8, 17, 101, 102, 103, 104, 105, 106, 107, 108, 109, 110, 111, 112, 113, 114] (by decide +kernel) (by decide +kernel)
set_option maxRecDepth 20000 in
theorem gX8_readsOrder_X8_doWeight : GoodIn wsX8_readsOrder (wsV RX8 108 RX8 yX8_doWeight wsX8_doWeight) := goodIn_app (goodIn_of _ (by decide +kernel)) ggX8_readsOrder_X8_doWeight
set_option maxRecDepth 20000 in
theorem ggX8_readsOrder_X8_readsValue : GoodIn wsX8_readsOrder wsX8_readsValue := goodIn_r _ [37, 4, 5, 6, 7, 8, 9, 3, 10, 11, 12, 13, 14, 2, 15, 16, 17, 38, 39, 40, 41, 101, 102, 103, 104, 105, 106, 107, 108, 109, 110, 111, 112, 113, 114] (by decide +kernel) (by decide +kernel)
set_option maxRecDepth 20000 in
theorem gX8_readsOrder_X8_readsValue : GoodIn wsX8_readsOrder (wsV RX8 178 RX8 yX8_readsValue wsX8_readsValue) := goodIn_app (goodIn_of _ (by decide +kernel)) ggX8_readsOrder_X8_readsValue
set_option maxRecDepth 20000 in
theorem ggX8_readsOrder_X8_doSet : GoodIn wsX8_readsOrder wsX8_doSet := goodIn_r _ [45, 22, 46, 47, 8, 48, 49, 50, 51, 52, 15, 16, 17, 101, 102, 103, 104, 105, 106, 107, 108, 109, 110, 111, 112, 113, 114] (by decide +kernel) (by decide +kernel)
set_option maxRecDepth 20000 in
theorem gX8_readsOrder_X8_doSet : GoodIn wsX8_readsOrder (wsV RX8 102 RX8 yX8_doSet wsX8_doSet) := goodIn_app (goodIn_of _ (by decide +kernel)) ggX8_readsOrder_X8_doSet
set_option maxRecDepth 20000 in
theorem ggX8_readsOrder_X8_readsHours : GoodIn wsX8_readsOrder wsX8_readsHours := goodIn_r _ [56, 4, 1, 34, 35, 36, 8, 37, 5, 6, 7, 9, 3, 10, 11, 12, 13, 14, 2, 15, 16, 17, 38, 39, 40, 41, 57, 58, 59, 60, 49, 22, 61, 62, 63, 64, 65, 66, 67, 68, 69, 70, 71, 72, 73, 74, 75, 76, 77, 78, 79, 80, 81, 82, 83, 84, 85, 86, 87, 88, 89, 90, 91, 92, 93, 94, 95, 96, 97, 98, 99, 100, 24, 25, 26, 27, 28, 101, 102, 103, 104, 105, 106, 107, 108, 109, 110, 111, 112, 113, 114] (by decide +kernel) (by decide +kernel)
set_option maxRecDepth 20000 in
theorem gX8_readsOrder_X8_readsHours : GoodIn wsX8_readsOrder (wsV RX8 188 RX8 yX8_readsHours wsX8_readsHours) := goodIn_app (goodIn_of _ (by decide +kernel)) ggX8_readsOrder_X8_readsHours
theorem dX8_readsOrder_0 : decode cX8_readsOrder 0 = .ok (.aload_n 0, 1) := by decide +kernel
theorem dX8_readsOrder_1 : decode cX8_readsOrder 1 = .ok (.bipush 122, 2) := by decide +kernel
theorem dX8_readsOrder_3 : decode cX8_readsOrder 3 = .ok (.invokevirtual 169, 3) := by decide +kernel
theorem dX8_readsOrder_6 : decode cX8_readsOrder 6 = .ok (.ifCond .eq 20, 3) := by decide +kernel
theorem dX8_readsOrder_9 : decode cX8_readsOrder 9 = .ok (.aload_n 0, 1) := by decide +kernel
theorem dX8_readsOrder_10 : decode cX8_readsOrder 10 = .ok (.getfield 181, 3) := by decide +kernel
theorem dX8_readsOrder_13 : decode cX8_readsOrder 13 = .ok (.ifCond .eq 11, 3) := by decide +kernel
theorem dX8_readsOrder_16 : decode cX8_readsOrder 16 = .ok (.aload_n 0, 1) := by decide +kernel
theorem dX8_readsOrder_17 : decode cX8_readsOrder 17 = .ok (.aload_n 0, 1) := by decide +kernel
theorem dX8_readsOrder_18 : decode cX8_readsOrder 18 = .ok (.invokevirtual 115, 3) := by decide +kernel
theorem dX8_readsOrder_21 : decode cX8_readsOrder 21 = .ok (.invokevirtual 185, 3) := by decide +kernel
theorem dX8_readsOrder_24 : decode cX8_readsOrder 24 = .ok (.iconst 1, 1) := by decide +kernel
theorem dX8_readsOrder_25 : decode cX8_readsOrder 25 = .ok (.ireturn, 1) := by decide +kernel
theorem dX8_readsOrder_26 : decode cX8_readsOrder 26 = .ok (.aload_n 0, 1) := by decide +kernel
theorem dX8_readsOrder_27 : decode cX8_readsOrder 27 = .ok (.bipush 119, 2) := by decide +kernel
theorem dX8_readsOrder_29 : decode cX8_readsOrder 29 = .ok (.invokevirtual 169, 3) := by decide +kernel
theorem dX8_readsOrder_32 : decode cX8_readsOrder 32 = .ok (.ifCond .eq 55, 3) := by decide +kernel
theorem dX8_readsOrder_35 : decode cX8_readsOrder 35 = .ok (.aload_n 0, 1) := by decide +kernel
theorem dX8_readsOrder_36 : decode cX8_readsOrder 36 = .ok (.bipush 48, 2) := by decide +kernel
theorem dX8_readsOrder_38 : decode cX8_readsOrder 38 = .ok (.bipush 55, 2) := by decide +kernel
theorem dX8_readsOrder_40 : decode cX8_readsOrder 40 = .ok (.invokevirtual 163, 3) := by decide +kernel
theorem dX8_readsOrder_43 : decode cX8_readsOrder 43 = .ok (.ifCond .ne 5, 3) := by decide +kernel
theorem dX8_readsOrder_46 : decode cX8_readsOrder 46 = .ok (.iconst 0, 1) := by decide +kernel
theorem dX8_readsOrder_47 : decode cX8_readsOrder 47 = .ok (.ireturn, 1) := by decide +kernel
theorem dX8_readsOrder_48 : decode cX8_readsOrder 48 = .ok (.aload_n 0, 1) := by decide +kernel
theorem dX8_readsOrder_49 : decode cX8_readsOrder 49 = .ok (.getfield 181, 3) := by decide +kernel
theorem dX8_readsOrder_52 : decode cX8_readsOrder 52 = .ok (.ifCond .eq 23, 3) := by decide +kernel
theorem dX8_readsOrder_55 : decode cX8_readsOrder 55 = .ok (.aload_n 0, 1) := by decide +kernel
theorem dX8_readsOrder_56 : decode cX8_readsOrder 56 = .ok (.aload_n 0, 1) := by decide +kernel
theorem dX8_readsOrder_57 : decode cX8_readsOrder 57 = .ok (.aload_n 0, 1) := by decide +kernel
theorem dX8_readsOrder_58 : decode cX8_readsOrder 58 = .ok (.getfield 25, 3) := by decide +kernel
theorem dX8_readsOrder_61 : decode cX8_readsOrder 61 = .ok (.aload_n 0, 1) := by decide +kernel
theorem dX8_readsOrder_62 : decode cX8_readsOrder 62 = .ok (.getfield 160, 3) := by decide +kernel
theorem dX8_readsOrder_65 : decode cX8_readsOrder 65 = .ok (.iaload, 1) := by decide +kernel
theorem dX8_readsOrder_66 : decode cX8_readsOrder 66 = .ok (.bipush 48, 2) := by decide +kernel
theorem dX8_readsOrder_68 : decode cX8_readsOrder 68 = .ok (.isub, 1) := by decide +kernel
theorem dX8_readsOrder_69 : decode cX8_readsOrder 69 = .ok (.invokevirtual 108, 3) := by decide +kernel
theorem dX8_readsOrder_72 : decode cX8_readsOrder 72 = .ok (.invokevirtual 185, 3) := by decide +kernel
theorem dX8_readsOrder_75 : decode cX8_readsOrder 75 = .ok (.aload_n 0, 1) := by decide +kernel
theorem dX8_readsOrder_76 : decode cX8_readsOrder 76 = .ok (.dup, 1) := by decide +kernel
theorem dX8_readsOrder_77 : decode cX8_readsOrder 77 = .ok (.getfield 160, 3) := by decide +kernel
theorem dX8_readsOrder_80 : decode cX8_readsOrder 80 = .ok (.iconst 1, 1) := by decide +kernel
theorem dX8_readsOrder_81 : decode cX8_readsOrder 81 = .ok (.iadd, 1) := by decide +kernel
theorem dX8_readsOrder_82 : decode cX8_readsOrder 82 = .ok (.putfield 160, 3) := by decide +kernel
theorem dX8_readsOrder_85 : decode cX8_readsOrder 85 = .ok (.iconst 1, 1) := by decide +kernel
theorem dX8_readsOrder_86 : decode cX8_readsOrder 86 = .ok (.ireturn, 1) := by decide +kernel
theorem dX8_readsOrder_87 : decode cX8_readsOrder 87 = .ok (.aload_n 0, 1) := by decide +kernel
theorem dX8_readsOrder_88 : decode cX8_readsOrder 88 = .ok (.bipush 98, 2) := by decide +kernel
theorem dX8_readsOrder_90 : decode cX8_readsOrder 90 = .ok (.invokevirtual 169, 3) := by decide +kernel
theorem dX8_readsOrder_93 : decode cX8_readsOrder 93 = .ok (.ifCond .eq 34, 3) := by decide +kernel
theorem dX8_readsOrder_96 : decode cX8_readsOrder 96 = .ok (.aload_n 0, 1) := by decide +kernel
theorem dX8_readsOrder_97 : decode cX8_readsOrder 97 = .ok (.invokevirtual 178, 3) := by decide +kernel
theorem dX8_readsOrder_100 : decode cX8_readsOrder 100 = .ok (.ifCond .ne 5, 3) := by decide +kernel
theorem dX8_readsOrder_103 : decode cX8_readsOrder 103 = .ok (.iconst 0, 1) := by decide +kernel
theorem dX8_readsOrder_104 : decode cX8_readsOrder 104 = .ok (.ireturn, 1) := by decide +kernel
theorem dX8_readsOrder_105 : decode cX8_readsOrder 105 = .ok (.aload_n 0, 1) := by decide +kernel
theorem dX8_readsOrder_106 : decode cX8_readsOrder 106 = .ok (.getfield 181, 3) := by decide +kernel
theorem dX8_readsOrder_109 : decode cX8_readsOrder 109 = .ok (.ifCond .eq 16, 3) := by decide +kernel
theorem dX8_readsOrder_112 : decode cX8_readsOrder 112 = .ok (.aload_n 0, 1) := by decide +kernel
theorem dX8_readsOrder_113 : decode cX8_readsOrder 113 = .ok (.aload_n 0, 1) := by decide +kernel
theorem dX8_readsOrder_114 : decode cX8_readsOrder 114 = .ok (.iconst 2, 1) := by decide +kernel
theorem dX8_readsOrder_115 : decode cX8_readsOrder 115 = .ok (.aload_n 0, 1) := by decide +kernel
theorem dX8_readsOrder_116 : decode cX8_readsOrder 116 = .ok (.getfield 166, 3) := by decide +kernel
theorem dX8_readsOrder_119 : decode cX8_readsOrder 119 = .ok (.invokevirtual 102, 3) := by decide +kernel
theorem dX8_readsOrder_122 : decode cX8_readsOrder 122 = .ok (.invokevirtual 185, 3) := by decide +kernel
theorem dX8_readsOrder_125 : decode cX8_readsOrder 125 = .ok (.iconst 1, 1) := by decide +kernel
theorem dX8_readsOrder_126 : decode cX8_readsOrder 126 = .ok (.ireturn, 1) := by decide +kernel
theorem dX8_readsOrder_127 : decode cX8_readsOrder 127 = .ok (.aload_n 0, 1) := by decide +kernel
theorem dX8_readsOrder_128 : decode cX8_readsOrder 128 = .ok (.bipush 104, 2) := by decide +kernel
theorem dX8_readsOrder_130 : decode cX8_readsOrder 130 = .ok (.invokevirtual 169, 3) := by decide +kernel
theorem dX8_readsOrder_133 : decode cX8_readsOrder 133 = .ok (.ifCond .eq 14, 3) := by decide +kernel
theorem dX8_readsOrder_136 : decode cX8_readsOrder 136 = .ok (.aload_n 0, 1) := by decide +kernel
theorem dX8_readsOrder_137 : decode cX8_readsOrder 137 = .ok (.invokevirtual 188, 3) := by decide +kernel
theorem dX8_readsOrder_140 : decode cX8_readsOrder 140 = .ok (.ifCond .eq 7, 3) := by decide +kernel
theorem dX8_readsOrder_143 : decode cX8_readsOrder 143 = .ok (.iconst 1, 1) := by decide +kernel
theorem dX8_readsOrder_144 : decode cX8_readsOrder 144 = .ok (.goto 4, 3) := by decide +kernel
theorem dX8_readsOrder_147 : decode cX8_readsOrder 147 = .ok (.iconst 0, 1) := by decide +kernel
theorem dX8_readsOrder_148 : decode cX8_readsOrder 148 = .ok (.ireturn, 1) := by decide +kernel
set_option maxRecDepth 20000 in
theorem ggX8_fault_X8_readsOrder : GoodIn wsX8_fault wsX8_readsOrder := goodIn_r _ [8, 2, 9, 1, 10, 11, 12, 13, 7, 14, 15, 16, 17, 18, 3, 19, 20, 21, 22, 23, 24, 25, 26, 27, 28, 29, 30, 31, 32, 33, 34, 35, 36, 37, 38, 39, 40, 41, 42, 43, 44, 45, 46, 47, 48, 49, 50, 51, 52, 53, 54, 55, 56, 57, 58, 59, 60, 61, 62, 63, 64, 65, 66, 67, 68, 69, 70, 71, 72, 73, 74, 75, 76, 77, 78, 79, 80, 81, 82, 83, 84, 85, 86, 87, 88, 89, 90, 91, 92, 93, 94, 95, 96, 97, 98, 99, 100, 101, 102, 103, 104, 105, 106, 107, 108, 109, 110, 111, 112, 113, 114, 115, 116, 117, 118] (by decide +kernel) (by decide +kernel)
set_option maxRecDepth 20000 in
theorem gX8_fault_X8_readsOrder : GoodIn wsX8_fault (wsV RX8 191 RX8 yX8_readsOrder wsX8_readsOrder) := goodIn_app (goodIn_of _ (by decide +kernel)) ggX8_fault_X8_readsOrder
set_option maxRecDepth 20000 in
theorem ggX8_fault_X8_takes : GoodIn wsX8_fault wsX8_takes := goodIn_r _ [14, 1, 15, 16, 17, 7, 18, 3, 9, 19, 20, 21, 105, 106, 107, 108, 109, 110, 111, 112, 113, 114, 115, 116, 117, 118] (by decide +kernel) (by decide +kernel)
set_option maxRecDepth 20000 in
theorem gX8_fault_X8_takes : GoodIn wsX8_fault (wsV RX8 169 RX8 yX8_takes wsX8_takes) := goodIn_app (goodIn_of _ (by decide +kernel)) ggX8_fault_X8_takes
theorem dX8_fault_0 : decode cX8_fault 0 = .ok (.aload_n 0, 1) := by decide +kernel
theorem dX8_fault_1 : decode cX8_fault 1 = .ok (.iconst 0, 1) := by decide +kernel
theorem dX8_fault_2 : decode cX8_fault 2 = .ok (.putfield 160, 3) := by decide +kernel
theorem dX8_fault_5 : decode cX8_fault 5 = .ok (.aload_n 0, 1) := by decide +kernel
theorem dX8_fault_6 : decode cX8_fault 6 = .ok (.iconst 0, 1) := by decide +kernel
theorem dX8_fault_7 : decode cX8_fault 7 = .ok (.putfield 181, 3) := by decide +kernel
theorem dX8_fault_10 : decode cX8_fault 10 = .ok (.iconst 1, 1) := by decide +kernel
theorem dX8_fault_11 : decode cX8_fault 11 = .ok (.istore_n 1, 1) := by decide +kernel
theorem dX8_fault_12 : decode cX8_fault 12 = .ok (.iload_n 1, 1) := by decide +kernel
theorem dX8_fault_13 : decode cX8_fault 13 = .ok (.ifCond .eq 25, 3) := by decide +kernel
theorem dX8_fault_16 : decode cX8_fault 16 = .ok (.aload_n 0, 1) := by decide +kernel
theorem dX8_fault_17 : decode cX8_fault 17 = .ok (.invokevirtual 191, 3) := by decide +kernel
theorem dX8_fault_20 : decode cX8_fault 20 = .ok (.ifCond .ne 8, 3) := by decide +kernel
theorem dX8_fault_23 : decode cX8_fault 23 = .ok (.aload_n 0, 1) := by decide +kernel
theorem dX8_fault_24 : decode cX8_fault 24 = .ok (.getfield 160, 3) := by decide +kernel
theorem dX8_fault_27 : decode cX8_fault 27 = .ok (.ireturn, 1) := by decide +kernel
theorem dX8_fault_28 : decode cX8_fault 28 = .ok (.aload_n 0, 1) := by decide +kernel
theorem dX8_fault_29 : decode cX8_fault 29 = .ok (.bipush 59, 2) := by decide +kernel
theorem dX8_fault_31 : decode cX8_fault 31 = .ok (.invokevirtual 169, 3) := by decide +kernel
theorem dX8_fault_34 : decode cX8_fault 34 = .ok (.istore_n 1, 1) := by decide +kernel
theorem dX8_fault_35 : decode cX8_fault 35 = .ok (.goto (-23), 3) := by decide +kernel
theorem dX8_fault_38 : decode cX8_fault 38 = .ok (.aload_n 0, 1) := by decide +kernel
theorem dX8_fault_39 : decode cX8_fault 39 = .ok (.getfield 160, 3) := by decide +kernel
theorem dX8_fault_42 : decode cX8_fault 42 = .ok (.aload_n 0, 1) := by decide +kernel
theorem dX8_fault_43 : decode cX8_fault 43 = .ok (.getfield 125, 3) := by decide +kernel
theorem dX8_fault_46 : decode cX8_fault 46 = .ok (.if_icmp .ne 8, 3) := by decide +kernel
theorem dX8_fault_49 : decode cX8_fault 49 = .ok (.bipush (-6), 2) := by decide +kernel
theorem dX8_fault_51 : decode cX8_fault 51 = .ok (.goto 7, 3) := by decide +kernel
theorem dX8_fault_54 : decode cX8_fault 54 = .ok (.aload_n 0, 1) := by decide +kernel
theorem dX8_fault_55 : decode cX8_fault 55 = .ok (.getfield 160, 3) := by decide +kernel
theorem dX8_fault_58 : decode cX8_fault 58 = .ok (.ireturn, 1) := by decide +kernel
set_option maxRecDepth 20000 in
theorem ggX8_carryOut_X8_fault : GoodIn wsX8_carryOut wsX8_fault := goodIn_r _ [9, 1, 2, 4, 10, 11, 12, 8, 13, 14, 15, 16, 17, 18, 19, 20, 21, 22, 23, 24, 25, 26, 27, 28, 29, 30, 31, 32, 33, 34, 35, 36, 3, 37, 38, 39, 40, 41, 42, 43, 44, 45, 46, 47, 48, 49, 50, 51, 52, 53, 54, 55, 56, 57, 58, 59, 60, 61, 62, 63, 64, 65, 66, 67, 68, 69, 70, 71, 72, 73, 74, 75, 76, 77, 78, 79, 80, 81, 82, 83, 84, 85, 86, 87, 88, 89, 90, 91, 92, 93, 94, 95, 96, 97, 98, 99, 100, 101, 102, 103, 104, 105, 106, 107, 108, 120, 121, 122, 123, 124, 125, 126, 127, 128, 129, 130, 131, 132, 133] (by decide +kernel) (by decide +kernel)
set_option maxRecDepth 20000 in
theorem gX8_carryOut_X8_fault : GoodIn wsX8_carryOut (wsV RX8 194 RX8 yX8_fault wsX8_fault) := goodIn_app (goodIn_of _ (by decide +kernel)) ggX8_carryOut_X8_fault
set_option maxRecDepth 20000 in
theorem ggX8_carryOut_X8_keep : GoodIn wsX8_carryOut wsX8_keep := goodIn_r _ [112, 113, 31, 120, 121, 122, 123, 124, 125, 126, 127, 128, 129, 130, 131, 132, 133] (by decide +kernel) (by decide +kernel)
set_option maxRecDepth 20000 in
theorem gX8_carryOut_X8_keep : GoodIn wsX8_carryOut (wsV RX8 99 RX8 yX8_keep wsX8_keep) := goodIn_app (goodIn_of _ (by decide +kernel)) ggX8_carryOut_X8_keep
set_option maxRecDepth 20000 in
theorem ggX8_carryOut_X8_readsOrder : GoodIn wsX8_carryOut wsX8_readsOrder := goodIn_r _ [13, 2, 14, 1, 15, 16, 17, 18, 8, 19, 20, 21, 22, 23, 4, 24, 25, 26, 27, 28, 29, 30, 31, 32, 33, 34, 35, 36, 3, 37, 38, 39, 40, 41, 42, 43, 44, 45, 46, 47, 48, 49, 50, 51, 52, 53, 54, 55, 56, 57, 58, 59, 60, 61, 62, 63, 64, 65, 66, 67, 68, 69, 70, 71, 72, 73, 74, 75, 76, 77, 78, 79, 80, 81, 82, 83, 84, 85, 86, 87, 88, 89, 90, 91, 92, 93, 94, 95, 96, 97, 98, 99, 100, 101, 102, 103, 104, 105, 106, 107, 108, 120, 121, 122, 123, 124, 125, 126, 127, 128, 129, 130, 131, 132, 133] (by decide +kernel) (by decide +kernel)
set_option maxRecDepth 20000 in
theorem gX8_carryOut_X8_readsOrder : GoodIn wsX8_carryOut (wsV RX8 191 RX8 yX8_readsOrder wsX8_readsOrder) := goodIn_app (goodIn_of _ (by decide +kernel)) ggX8_carryOut_X8_readsOrder
set_option maxRecDepth 20000 in
theorem ggX8_carryOut_X8_takes : GoodIn wsX8_carryOut wsX8_takes := goodIn_r _ [19, 1, 20, 21, 22, 8, 23, 4, 14, 24, 25, 26, 120, 121, 122, 123, 124, 125, 126, 127, 128, 129, 130, 131, 132, 133] (by decide +kernel) (by decide +kernel)
set_option maxRecDepth 20000 in
theorem gX8_carryOut_X8_takes : GoodIn wsX8_carryOut (wsV RX8 169 RX8 yX8_takes wsX8_takes) := goodIn_app (goodIn_of _ (by decide +kernel)) ggX8_carryOut_X8_takes
set_option maxRecDepth 20000 in
theorem ggX8_carryOut_X8_changed : GoodIn wsX8_carryOut wsX8_changed := goodIn_r _ [117, 118, 119, 113, 120, 121, 122, 123, 124, 125, 126, 127, 128, 129, 130, 131, 132, 133] (by decide +kernel) (by decide +kernel)
set_option maxRecDepth 20000 in
theorem gX8_carryOut_X8_changed : GoodIn wsX8_carryOut (wsV RX8 105 RX8 yX8_changed wsX8_changed) := goodIn_app (goodIn_of _ (by decide +kernel)) ggX8_carryOut_X8_changed
theorem dX8_carryOut_0 : decode cX8_carryOut 0 = .ok (.aload_n 0, 1) := by decide +kernel
theorem dX8_carryOut_1 : decode cX8_carryOut 1 = .ok (.invokevirtual 194, 3) := by decide +kernel
theorem dX8_carryOut_4 : decode cX8_carryOut 4 = .ok (.bipush (-6), 2) := by decide +kernel
theorem dX8_carryOut_6 : decode cX8_carryOut 6 = .ok (.if_icmp .eq 6, 3) := by decide +kernel
theorem dX8_carryOut_9 : decode cX8_carryOut 9 = .ok (.bipush (-3), 2) := by decide +kernel
theorem dX8_carryOut_11 : decode cX8_carryOut 11 = .ok (.ireturn, 1) := by decide +kernel
theorem dX8_carryOut_12 : decode cX8_carryOut 12 = .ok (.aload_n 0, 1) := by decide +kernel
theorem dX8_carryOut_13 : decode cX8_carryOut 13 = .ok (.invokevirtual 99, 3) := by decide +kernel
theorem dX8_carryOut_16 : decode cX8_carryOut 16 = .ok (.aload_n 0, 1) := by decide +kernel
theorem dX8_carryOut_17 : decode cX8_carryOut 17 = .ok (.iconst 0, 1) := by decide +kernel
theorem dX8_carryOut_18 : decode cX8_carryOut 18 = .ok (.putfield 160, 3) := by decide +kernel
theorem dX8_carryOut_21 : decode cX8_carryOut 21 = .ok (.aload_n 0, 1) := by decide +kernel
theorem dX8_carryOut_22 : decode cX8_carryOut 22 = .ok (.iconst 1, 1) := by decide +kernel
theorem dX8_carryOut_23 : decode cX8_carryOut 23 = .ok (.putfield 181, 3) := by decide +kernel
theorem dX8_carryOut_26 : decode cX8_carryOut 26 = .ok (.aload_n 0, 1) := by decide +kernel
theorem dX8_carryOut_27 : decode cX8_carryOut 27 = .ok (.iconst 0, 1) := by decide +kernel
theorem dX8_carryOut_28 : decode cX8_carryOut 28 = .ok (.putfield 175, 3) := by decide +kernel
theorem dX8_carryOut_31 : decode cX8_carryOut 31 = .ok (.iconst 0, 1) := by decide +kernel
theorem dX8_carryOut_32 : decode cX8_carryOut 32 = .ok (.istore_n 1, 1) := by decide +kernel
theorem dX8_carryOut_33 : decode cX8_carryOut 33 = .ok (.iconst 1, 1) := by decide +kernel
theorem dX8_carryOut_34 : decode cX8_carryOut 34 = .ok (.istore_n 2, 1) := by decide +kernel
theorem dX8_carryOut_35 : decode cX8_carryOut 35 = .ok (.iload_n 2, 1) := by decide +kernel
theorem dX8_carryOut_36 : decode cX8_carryOut 36 = .ok (.ifCond .eq 48, 3) := by decide +kernel
theorem dX8_carryOut_39 : decode cX8_carryOut 39 = .ok (.aload_n 0, 1) := by decide +kernel
theorem dX8_carryOut_40 : decode cX8_carryOut 40 = .ok (.invokevirtual 191, 3) := by decide +kernel
theorem dX8_carryOut_43 : decode cX8_carryOut 43 = .ok (.istore_n 3, 1) := by decide +kernel
theorem dX8_carryOut_44 : decode cX8_carryOut 44 = .ok (.iload_n 1, 1) := by decide +kernel
theorem dX8_carryOut_45 : decode cX8_carryOut 45 = .ok (.aload_n 0, 1) := by decide +kernel
theorem dX8_carryOut_46 : decode cX8_carryOut 46 = .ok (.getfield 175, 3) := by decide +kernel
theorem dX8_carryOut_49 : decode cX8_carryOut 49 = .ok (.ifCond .ne 7, 3) := by decide +kernel
theorem dX8_carryOut_52 : decode cX8_carryOut 52 = .ok (.iconst 1, 1) := by decide +kernel
theorem dX8_carryOut_53 : decode cX8_carryOut 53 = .ok (.goto 4, 3) := by decide +kernel
theorem dX8_carryOut_56 : decode cX8_carryOut 56 = .ok (.iconst 0, 1) := by decide +kernel
theorem dX8_carryOut_57 : decode cX8_carryOut 57 = .ok (.iadd, 1) := by decide +kernel
theorem dX8_carryOut_58 : decode cX8_carryOut 58 = .ok (.istore_n 1, 1) := by decide +kernel
theorem dX8_carryOut_59 : decode cX8_carryOut 59 = .ok (.aload_n 0, 1) := by decide +kernel
theorem dX8_carryOut_60 : decode cX8_carryOut 60 = .ok (.getfield 175, 3) := by decide +kernel
theorem dX8_carryOut_63 : decode cX8_carryOut 63 = .ok (.ifCond .ne 16, 3) := by decide +kernel
theorem dX8_carryOut_66 : decode cX8_carryOut 66 = .ok (.aload_n 0, 1) := by decide +kernel
theorem dX8_carryOut_67 : decode cX8_carryOut 67 = .ok (.bipush 59, 2) := by decide +kernel
theorem dX8_carryOut_69 : decode cX8_carryOut 69 = .ok (.invokevirtual 169, 3) := by decide +kernel
theorem dX8_carryOut_72 : decode cX8_carryOut 72 = .ok (.ifCond .eq 7, 3) := by decide +kernel
theorem dX8_carryOut_75 : decode cX8_carryOut 75 = .ok (.iconst 1, 1) := by decide +kernel
theorem dX8_carryOut_76 : decode cX8_carryOut 76 = .ok (.goto 4, 3) := by decide +kernel
theorem dX8_carryOut_79 : decode cX8_carryOut 79 = .ok (.iconst 0, 1) := by decide +kernel
theorem dX8_carryOut_80 : decode cX8_carryOut 80 = .ok (.istore_n 2, 1) := by decide +kernel
theorem dX8_carryOut_81 : decode cX8_carryOut 81 = .ok (.goto (-46), 3) := by decide +kernel
theorem dX8_carryOut_84 : decode cX8_carryOut 84 = .ok (.aload_n 0, 1) := by decide +kernel
theorem dX8_carryOut_85 : decode cX8_carryOut 85 = .ok (.iconst 0, 1) := by decide +kernel
theorem dX8_carryOut_86 : decode cX8_carryOut 86 = .ok (.putfield 125, 3) := by decide +kernel
theorem dX8_carryOut_89 : decode cX8_carryOut 89 = .ok (.aload_n 0, 1) := by decide +kernel
theorem dX8_carryOut_90 : decode cX8_carryOut 90 = .ok (.iload_n 1, 1) := by decide +kernel
theorem dX8_carryOut_91 : decode cX8_carryOut 91 = .ok (.invokevirtual 105, 3) := by decide +kernel
theorem dX8_carryOut_94 : decode cX8_carryOut 94 = .ok (.ireturn, 1) := by decide +kernel
theorem dX8_undo_0 : decode cX8_undo 0 = .ok (.aload_n 0, 1) := by decide +kernel
theorem dX8_undo_1 : decode cX8_undo 1 = .ok (.getfield 28, 3) := by decide +kernel
theorem dX8_undo_4 : decode cX8_undo 4 = .ok (.ifCond .ne 6, 3) := by decide +kernel
theorem dX8_undo_7 : decode cX8_undo 7 = .ok (.bipush (-5), 2) := by decide +kernel
theorem dX8_undo_9 : decode cX8_undo 9 = .ok (.ireturn, 1) := by decide +kernel
theorem dX8_undo_10 : decode cX8_undo 10 = .ok (.aload_n 0, 1) := by decide +kernel
theorem dX8_undo_11 : decode cX8_undo 11 = .ok (.dup, 1) := by decide +kernel
theorem dX8_undo_12 : decode cX8_undo 12 = .ok (.getfield 28, 3) := by decide +kernel
theorem dX8_undo_15 : decode cX8_undo 15 = .ok (.iconst 1, 1) := by decide +kernel
theorem dX8_undo_16 : decode cX8_undo 16 = .ok (.isub, 1) := by decide +kernel
theorem dX8_undo_17 : decode cX8_undo 17 = .ok (.putfield 28, 3) := by decide +kernel
theorem dX8_undo_20 : decode cX8_undo 20 = .ok (.iconst 0, 1) := by decide +kernel
theorem dX8_undo_21 : decode cX8_undo 21 = .ok (.istore_n 1, 1) := by decide +kernel
theorem dX8_undo_22 : decode cX8_undo 22 = .ok (.iload_n 1, 1) := by decide +kernel
theorem dX8_undo_23 : decode cX8_undo 23 = .ok (.sipush 347, 3) := by decide +kernel
theorem dX8_undo_26 : decode cX8_undo 26 = .ok (.if_icmp .ge 30, 3) := by decide +kernel
theorem dX8_undo_29 : decode cX8_undo 29 = .ok (.aload_n 0, 1) := by decide +kernel
theorem dX8_undo_30 : decode cX8_undo 30 = .ok (.getfield 7, 3) := by decide +kernel
theorem dX8_undo_33 : decode cX8_undo 33 = .ok (.iload_n 1, 1) := by decide +kernel
theorem dX8_undo_34 : decode cX8_undo 34 = .ok (.aload_n 0, 1) := by decide +kernel
theorem dX8_undo_35 : decode cX8_undo 35 = .ok (.getfield 16, 3) := by decide +kernel
theorem dX8_undo_38 : decode cX8_undo 38 = .ok (.sipush 347, 3) := by decide +kernel
theorem dX8_undo_41 : decode cX8_undo 41 = .ok (.aload_n 0, 1) := by decide +kernel
theorem dX8_undo_42 : decode cX8_undo 42 = .ok (.getfield 28, 3) := by decide +kernel
theorem dX8_undo_45 : decode cX8_undo 45 = .ok (.imul, 1) := by decide +kernel
theorem dX8_undo_46 : decode cX8_undo 46 = .ok (.iload_n 1, 1) := by decide +kernel
theorem dX8_undo_47 : decode cX8_undo 47 = .ok (.iadd, 1) := by decide +kernel
theorem dX8_undo_48 : decode cX8_undo 48 = .ok (.iaload, 1) := by decide +kernel
theorem dX8_undo_49 : decode cX8_undo 49 = .ok (.iastore, 1) := by decide +kernel
theorem dX8_undo_50 : decode cX8_undo 50 = .ok (.iinc 1 1, 3) := by decide +kernel
theorem dX8_undo_53 : decode cX8_undo 53 = .ok (.goto (-31), 3) := by decide +kernel
theorem dX8_undo_56 : decode cX8_undo 56 = .ok (.aload_n 0, 1) := by decide +kernel
theorem dX8_undo_57 : decode cX8_undo 57 = .ok (.getfield 28, 3) := by decide +kernel
theorem dX8_undo_60 : decode cX8_undo 60 = .ok (.ireturn, 1) := by decide +kernel
set_option maxRecDepth 20000 in
theorem ggX8_save_X8_in : GoodIn wsX8_save wsX8_in := goodIn_r _ [7] (by decide +kernel) (by decide +kernel)
set_option maxRecDepth 20000 in
theorem gX8_save_X8_in : GoodIn wsX8_save (va_wsS RX8 36 yX8_in wsX8_in) := goodIn_app (goodIn_of _ (by decide +kernel)) ggX8_save_X8_in
theorem dX8_save_0 : decode cX8_save 0 = .ok (.iload_n 1, 1) := by decide +kernel
theorem dX8_save_1 : decode cX8_save 1 = .ok (.i2l, 1) := by decide +kernel
theorem dX8_save_2 : decode cX8_save 2 = .ok (.lconst 0, 1) := by decide +kernel
theorem dX8_save_3 : decode cX8_save 3 = .ok (.lconst 1, 1) := by decide +kernel
theorem dX8_save_4 : decode cX8_save 4 = .ok (.invokestatic 36, 3) := by decide +kernel
theorem dX8_save_7 : decode cX8_save 7 = .ok (.ifCond .ne 6, 3) := by decide +kernel
theorem dX8_save_10 : decode cX8_save 10 = .ok (.bipush (-2), 2) := by decide +kernel
theorem dX8_save_12 : decode cX8_save 12 = .ok (.ireturn, 1) := by decide +kernel
theorem dX8_save_13 : decode cX8_save 13 = .ok (.iconst 0, 1) := by decide +kernel
theorem dX8_save_14 : decode cX8_save 14 = .ok (.istore_n 2, 1) := by decide +kernel
theorem dX8_save_15 : decode cX8_save 15 = .ok (.iload_n 2, 1) := by decide +kernel
theorem dX8_save_16 : decode cX8_save 16 = .ok (.sipush 347, 3) := by decide +kernel
theorem dX8_save_19 : decode cX8_save 19 = .ok (.if_icmp .ge 27, 3) := by decide +kernel
theorem dX8_save_22 : decode cX8_save 22 = .ok (.aload_n 0, 1) := by decide +kernel
theorem dX8_save_23 : decode cX8_save 23 = .ok (.getfield 19, 3) := by decide +kernel
theorem dX8_save_26 : decode cX8_save 26 = .ok (.sipush 347, 3) := by decide +kernel
theorem dX8_save_29 : decode cX8_save 29 = .ok (.iload_n 1, 1) := by decide +kernel
theorem dX8_save_30 : decode cX8_save 30 = .ok (.imul, 1) := by decide +kernel
theorem dX8_save_31 : decode cX8_save 31 = .ok (.iload_n 2, 1) := by decide +kernel
theorem dX8_save_32 : decode cX8_save 32 = .ok (.iadd, 1) := by decide +kernel
theorem dX8_save_33 : decode cX8_save 33 = .ok (.aload_n 0, 1) := by decide +kernel
theorem dX8_save_34 : decode cX8_save 34 = .ok (.getfield 7, 3) := by decide +kernel
theorem dX8_save_37 : decode cX8_save 37 = .ok (.iload_n 2, 1) := by decide +kernel
theorem dX8_save_38 : decode cX8_save 38 = .ok (.iaload, 1) := by decide +kernel
theorem dX8_save_39 : decode cX8_save 39 = .ok (.iastore, 1) := by decide +kernel
theorem dX8_save_40 : decode cX8_save 40 = .ok (.iinc 2 1, 3) := by decide +kernel
theorem dX8_save_43 : decode cX8_save 43 = .ok (.goto (-28), 3) := by decide +kernel
theorem dX8_save_46 : decode cX8_save 46 = .ok (.aload_n 0, 1) := by decide +kernel
theorem dX8_save_47 : decode cX8_save 47 = .ok (.getfield 22, 3) := by decide +kernel
theorem dX8_save_50 : decode cX8_save 50 = .ok (.iload_n 1, 1) := by decide +kernel
theorem dX8_save_51 : decode cX8_save 51 = .ok (.iconst 1, 1) := by decide +kernel
theorem dX8_save_52 : decode cX8_save 52 = .ok (.iastore, 1) := by decide +kernel
theorem dX8_save_53 : decode cX8_save 53 = .ok (.aload_n 0, 1) := by decide +kernel
theorem dX8_save_54 : decode cX8_save 54 = .ok (.getfield 7, 3) := by decide +kernel
theorem dX8_save_57 : decode cX8_save 57 = .ok (.bipush 7, 2) := by decide +kernel
theorem dX8_save_59 : decode cX8_save 59 = .ok (.iaload, 1) := by decide +kernel
theorem dX8_save_60 : decode cX8_save 60 = .ok (.ireturn, 1) := by decide +kernel
set_option maxRecDepth 20000 in
theorem ggX8_restore_X8_in : GoodIn wsX8_restore wsX8_in := goodIn_r _ [7] (by decide +kernel) (by decide +kernel)
set_option maxRecDepth 20000 in
theorem gX8_restore_X8_in : GoodIn wsX8_restore (va_wsS RX8 36 yX8_in wsX8_in) := goodIn_app (goodIn_of _ (by decide +kernel)) ggX8_restore_X8_in
set_option maxRecDepth 20000 in
theorem ggX8_restore_X8_keep : GoodIn wsX8_restore wsX8_keep := goodIn_r _ [11, 12, 2, 19, 20, 21, 22, 23, 24, 25, 26, 27, 28, 29, 30, 31, 32] (by decide +kernel) (by decide +kernel)
set_option maxRecDepth 20000 in
theorem gX8_restore_X8_keep : GoodIn wsX8_restore (wsV RX8 99 RX8 yX8_keep wsX8_keep) := goodIn_app (goodIn_of _ (by decide +kernel)) ggX8_restore_X8_keep
set_option maxRecDepth 20000 in
theorem ggX8_restore_X8_changed : GoodIn wsX8_restore wsX8_changed := goodIn_r _ [16, 17, 18, 12, 19, 20, 21, 22, 23, 24, 25, 26, 27, 28, 29, 30, 31, 32] (by decide +kernel) (by decide +kernel)
set_option maxRecDepth 20000 in
theorem gX8_restore_X8_changed : GoodIn wsX8_restore (wsV RX8 105 RX8 yX8_changed wsX8_changed) := goodIn_app (goodIn_of _ (by decide +kernel)) ggX8_restore_X8_changed
theorem dX8_restore_0 : decode cX8_restore 0 = .ok (.iload_n 1, 1) := by decide +kernel
theorem dX8_restore_1 : decode cX8_restore 1 = .ok (.i2l, 1) := by decide +kernel
theorem dX8_restore_2 : decode cX8_restore 2 = .ok (.lconst 0, 1) := by decide +kernel
theorem dX8_restore_3 : decode cX8_restore 3 = .ok (.lconst 1, 1) := by decide +kernel
theorem dX8_restore_4 : decode cX8_restore 4 = .ok (.invokestatic 36, 3) := by decide +kernel
theorem dX8_restore_7 : decode cX8_restore 7 = .ok (.ifCond .ne 6, 3) := by decide +kernel
theorem dX8_restore_10 : decode cX8_restore 10 = .ok (.bipush (-2), 2) := by decide +kernel
theorem dX8_restore_12 : decode cX8_restore 12 = .ok (.ireturn, 1) := by decide +kernel
theorem dX8_restore_13 : decode cX8_restore 13 = .ok (.aload_n 0, 1) := by decide +kernel
theorem dX8_restore_14 : decode cX8_restore 14 = .ok (.getfield 22, 3) := by decide +kernel
theorem dX8_restore_17 : decode cX8_restore 17 = .ok (.iload_n 1, 1) := by decide +kernel
theorem dX8_restore_18 : decode cX8_restore 18 = .ok (.iaload, 1) := by decide +kernel
theorem dX8_restore_19 : decode cX8_restore 19 = .ok (.ifCond .ne 6, 3) := by decide +kernel
theorem dX8_restore_22 : decode cX8_restore 22 = .ok (.bipush (-5), 2) := by decide +kernel
theorem dX8_restore_24 : decode cX8_restore 24 = .ok (.ireturn, 1) := by decide +kernel
theorem dX8_restore_25 : decode cX8_restore 25 = .ok (.aload_n 0, 1) := by decide +kernel
theorem dX8_restore_26 : decode cX8_restore 26 = .ok (.invokevirtual 99, 3) := by decide +kernel
theorem dX8_restore_29 : decode cX8_restore 29 = .ok (.iconst 0, 1) := by decide +kernel
theorem dX8_restore_30 : decode cX8_restore 30 = .ok (.istore_n 2, 1) := by decide +kernel
theorem dX8_restore_31 : decode cX8_restore 31 = .ok (.iload_n 2, 1) := by decide +kernel
theorem dX8_restore_32 : decode cX8_restore 32 = .ok (.sipush 347, 3) := by decide +kernel
theorem dX8_restore_35 : decode cX8_restore 35 = .ok (.if_icmp .ge 27, 3) := by decide +kernel
theorem dX8_restore_38 : decode cX8_restore 38 = .ok (.aload_n 0, 1) := by decide +kernel
theorem dX8_restore_39 : decode cX8_restore 39 = .ok (.getfield 7, 3) := by decide +kernel
theorem dX8_restore_42 : decode cX8_restore 42 = .ok (.iload_n 2, 1) := by decide +kernel
theorem dX8_restore_43 : decode cX8_restore 43 = .ok (.aload_n 0, 1) := by decide +kernel
theorem dX8_restore_44 : decode cX8_restore 44 = .ok (.getfield 19, 3) := by decide +kernel
theorem dX8_restore_47 : decode cX8_restore 47 = .ok (.sipush 347, 3) := by decide +kernel
theorem dX8_restore_50 : decode cX8_restore 50 = .ok (.iload_n 1, 1) := by decide +kernel
theorem dX8_restore_51 : decode cX8_restore 51 = .ok (.imul, 1) := by decide +kernel
theorem dX8_restore_52 : decode cX8_restore 52 = .ok (.iload_n 2, 1) := by decide +kernel
theorem dX8_restore_53 : decode cX8_restore 53 = .ok (.iadd, 1) := by decide +kernel
theorem dX8_restore_54 : decode cX8_restore 54 = .ok (.iaload, 1) := by decide +kernel
theorem dX8_restore_55 : decode cX8_restore 55 = .ok (.iastore, 1) := by decide +kernel
theorem dX8_restore_56 : decode cX8_restore 56 = .ok (.iinc 2 1, 3) := by decide +kernel
theorem dX8_restore_59 : decode cX8_restore 59 = .ok (.goto (-28), 3) := by decide +kernel
theorem dX8_restore_62 : decode cX8_restore 62 = .ok (.aload_n 0, 1) := by decide +kernel
theorem dX8_restore_63 : decode cX8_restore 63 = .ok (.aload_n 0, 1) := by decide +kernel
theorem dX8_restore_64 : decode cX8_restore 64 = .ok (.getfield 7, 3) := by decide +kernel
theorem dX8_restore_67 : decode cX8_restore 67 = .ok (.bipush 7, 2) := by decide +kernel
theorem dX8_restore_69 : decode cX8_restore 69 = .ok (.iaload, 1) := by decide +kernel
theorem dX8_restore_70 : decode cX8_restore 70 = .ok (.invokevirtual 105, 3) := by decide +kernel
theorem dX8_restore_73 : decode cX8_restore 73 = .ok (.ireturn, 1) := by decide +kernel
theorem dJxe99ae_isNaN_b9ae7_0 : decode cJxe99ae_isNaN_b9ae7 0 = .ok (.dload_n 0, 1) := by decide +kernel
theorem dJxe99ae_isNaN_b9ae7_1 : decode cJxe99ae_isNaN_b9ae7 1 = .ok (.dload_n 0, 1) := by decide +kernel
theorem dJxe99ae_isNaN_b9ae7_2 : decode cJxe99ae_isNaN_b9ae7 2 = .ok (.dcmp .l, 1) := by decide +kernel
theorem dJxe99ae_isNaN_b9ae7_3 : decode cJxe99ae_isNaN_b9ae7 3 = .ok (.ifCond .eq 7, 3) := by decide +kernel
theorem dJxe99ae_isNaN_b9ae7_6 : decode cJxe99ae_isNaN_b9ae7 6 = .ok (.iconst 1, 1) := by decide +kernel
theorem dJxe99ae_isNaN_b9ae7_7 : decode cJxe99ae_isNaN_b9ae7 7 = .ok (.goto 4, 3) := by decide +kernel
theorem dJxe99ae_isNaN_b9ae7_10 : decode cJxe99ae_isNaN_b9ae7 10 = .ok (.iconst 0, 1) := by decide +kernel
theorem dJxe99ae_isNaN_b9ae7_11 : decode cJxe99ae_isNaN_b9ae7 11 = .ok (.ireturn, 1) := by decide +kernel
set_option maxRecDepth 20000 in
theorem ggJxe99ae_doubleToLongBits_ccdee_Jxe99ae_isNaN_b9ae7 : GoodIn wsJxe99ae_doubleToLongBits_ccdee wsJxe99ae_isNaN_b9ae7 := goodIn_r _ [9] (by decide +kernel) (by decide +kernel)
set_option maxRecDepth 20000 in
theorem gJxe99ae_doubleToLongBits_ccdee_Jxe99ae_isNaN_b9ae7 : GoodIn wsJxe99ae_doubleToLongBits_ccdee (va_wsS RJxe99ae 122 yJxe99ae_isNaN_b9ae7 wsJxe99ae_isNaN_b9ae7) := goodIn_app (goodIn_of _ (by decide +kernel)) ggJxe99ae_doubleToLongBits_ccdee_Jxe99ae_isNaN_b9ae7
theorem dJxe99ae_doubleToLongBits_ccdee_0 : decode cJxe99ae_doubleToLongBits_ccdee 0 = .ok (.dload_n 0, 1) := by decide +kernel
theorem dJxe99ae_doubleToLongBits_ccdee_1 : decode cJxe99ae_doubleToLongBits_ccdee 1 = .ok (.invokestatic 122, 3) := by decide +kernel
theorem dJxe99ae_doubleToLongBits_ccdee_4 : decode cJxe99ae_doubleToLongBits_ccdee 4 = .ok (.ifCond .ne 8, 3) := by decide +kernel
theorem dJxe99ae_doubleToLongBits_ccdee_7 : decode cJxe99ae_doubleToLongBits_ccdee 7 = .ok (.dload_n 0, 1) := by decide +kernel
theorem dJxe99ae_doubleToLongBits_ccdee_8 : decode cJxe99ae_doubleToLongBits_ccdee 8 = .ok (.invokestatic 134, 3) := by decide +kernel
theorem dJxe99ae_doubleToLongBits_ccdee_11 : decode cJxe99ae_doubleToLongBits_ccdee 11 = .ok (.lreturn, 1) := by decide +kernel
theorem dJxe99ae_doubleToLongBits_ccdee_12 : decode cJxe99ae_doubleToLongBits_ccdee 12 = .ok (.ldc2_w 137, 3) := by decide +kernel
theorem dJxe99ae_doubleToLongBits_ccdee_15 : decode cJxe99ae_doubleToLongBits_ccdee 15 = .ok (.lreturn, 1) := by decide +kernel
theorem dJ9_abs_0f7a4_0 : decode cJ9_abs_0f7a4 0 = .ok (.iload_n 0, 1) := by decide +kernel
theorem dJ9_abs_0f7a4_1 : decode cJ9_abs_0f7a4 1 = .ok (.ifCond .ge 8, 3) := by decide +kernel
theorem dJ9_abs_0f7a4_4 : decode cJ9_abs_0f7a4 4 = .ok (.iload_n 0, 1) := by decide +kernel
theorem dJ9_abs_0f7a4_5 : decode cJ9_abs_0f7a4 5 = .ok (.ineg, 1) := by decide +kernel
theorem dJ9_abs_0f7a4_6 : decode cJ9_abs_0f7a4 6 = .ok (.goto 4, 3) := by decide +kernel
theorem dJ9_abs_0f7a4_9 : decode cJ9_abs_0f7a4 9 = .ok (.iload_n 0, 1) := by decide +kernel
theorem dJ9_abs_0f7a4_10 : decode cJ9_abs_0f7a4 10 = .ok (.ireturn, 1) := by decide +kernel
theorem dJ9_max_7cf53_0 : decode cJ9_max_7cf53 0 = .ok (.iload_n 0, 1) := by decide +kernel
theorem dJ9_max_7cf53_1 : decode cJ9_max_7cf53 1 = .ok (.iload_n 1, 1) := by decide +kernel
theorem dJ9_max_7cf53_2 : decode cJ9_max_7cf53 2 = .ok (.if_icmp .lt 7, 3) := by decide +kernel
theorem dJ9_max_7cf53_5 : decode cJ9_max_7cf53 5 = .ok (.iload_n 0, 1) := by decide +kernel
theorem dJ9_max_7cf53_6 : decode cJ9_max_7cf53 6 = .ok (.goto 4, 3) := by decide +kernel
theorem dJ9_max_7cf53_9 : decode cJ9_max_7cf53 9 = .ok (.iload_n 1, 1) := by decide +kernel
theorem dJ9_max_7cf53_10 : decode cJ9_max_7cf53 10 = .ok (.ireturn, 1) := by decide +kernel
theorem dJ9_min_7cf53_0 : decode cJ9_min_7cf53 0 = .ok (.iload_n 0, 1) := by decide +kernel
theorem dJ9_min_7cf53_1 : decode cJ9_min_7cf53 1 = .ok (.iload_n 1, 1) := by decide +kernel
theorem dJ9_min_7cf53_2 : decode cJ9_min_7cf53 2 = .ok (.if_icmp .gt 7, 3) := by decide +kernel
theorem dJ9_min_7cf53_5 : decode cJ9_min_7cf53 5 = .ok (.iload_n 0, 1) := by decide +kernel
theorem dJ9_min_7cf53_6 : decode cJ9_min_7cf53 6 = .ok (.goto 4, 3) := by decide +kernel
theorem dJ9_min_7cf53_9 : decode cJ9_min_7cf53 9 = .ok (.iload_n 1, 1) := by decide +kernel
theorem dJ9_min_7cf53_10 : decode cJ9_min_7cf53 10 = .ok (.ireturn, 1) := by decide +kernel
set_option maxRecDepth 20000 in
theorem ggL_law_X7_init : GoodIn wsL_law wsX7_init := goodIn_r _ [9, 10, 11, 12, 13, 14, 15, 16, 17, 18, 19, 20, 21, 22, 23, 24, 25, 26, 27, 28, 29, 30, 31, 32, 33, 34, 35, 36, 37, 38, 39, 40, 41, 42, 43, 44, 45, 46, 47, 48, 49, 50, 51, 52, 53, 54, 55, 56, 57, 58, 59, 60, 61, 62, 63, 64, 65, 66, 67, 68, 69, 70, 71, 72, 73, 74, 655, 656, 657, 658, 659, 660, 661, 635, 636, 637, 638, 639, 640, 662, 663, 664, 665, 666, 667, 668, 669, 670, 671, 672, 673, 674, 675, 676, 677, 678, 679] (by decide +kernel) (by decide +kernel)
set_option maxRecDepth 20000 in
theorem gL_law_X7_init : GoodIn wsL_law (wsX7_init) := ggL_law_X7_init
set_option maxRecDepth 20000 in
theorem ggL_law_X8_init : GoodIn wsL_law wsX8_init := goodIn_r _ [77, 78, 11, 12, 37, 79, 80, 81, 82, 83, 84, 641, 642, 643, 644, 645, 646, 647, 648, 649, 650, 651, 652, 653, 654] (by decide +kernel) (by decide +kernel)
set_option maxRecDepth 20000 in
theorem gL_law_X8_init : GoodIn wsL_law (wsX8_init) := ggL_law_X8_init
set_option maxRecDepth 20000 in
theorem ggL_law_X7_set : GoodIn wsL_law wsX7_set := goodIn_r _ [88, 16, 20, 89, 90, 91, 15, 92, 93, 94, 95, 19, 96, 57, 97, 98, 99, 100, 101, 102, 103, 104, 105, 38, 106, 107, 108, 109, 40, 44, 110, 111, 112, 113, 114, 115, 116, 32, 117, 118, 119, 120, 121, 122, 43, 123, 51, 124, 125, 126, 127, 128, 129, 130, 131, 132, 133, 635, 636, 637, 638, 639, 640, 662, 663, 655, 656, 657, 658, 659, 660, 661, 674, 675, 676, 677] (by decide +kernel) (by decide +kernel)
set_option maxRecDepth 20000 in
theorem gL_law_X7_set : GoodIn wsL_law (wsV RL 13 RX7 yX7_set wsX7_set) := goodIn_app (goodIn_of _ (by decide +kernel)) ggL_law_X7_set
set_option maxRecDepth 20000 in
theorem ggL_law_X8_set : GoodIn wsL_law wsX8_set := goodIn_r _ [137, 138, 139, 140, 5, 141, 80, 79, 142, 143, 144, 145, 146, 147, 148, 149, 150, 151, 152, 153, 154, 155, 156, 157, 158, 159, 160, 81, 641, 642, 643, 644, 645, 646, 647, 648, 649, 650, 651, 652, 653, 654] (by decide +kernel) (by decide +kernel)
set_option maxRecDepth 20000 in
theorem gL_law_X8_set : GoodIn wsL_law (wsV RL 17 RX8 yX8_set wsX8_set) := goodIn_app (goodIn_of _ (by decide +kernel)) ggL_law_X8_set
set_option maxRecDepth 20000 in
theorem ggL_law_X7_weight : GoodIn wsL_law wsX7_weight := goodIn_r _ [164, 16, 20, 165, 166, 167, 15, 168, 93, 94, 95, 19, 96, 57, 97, 98, 99, 100, 101, 102, 103, 104, 105, 38, 106, 107, 108, 109, 40, 44, 110, 111, 112, 113, 114, 115, 116, 32, 117, 118, 119, 120, 121, 122, 43, 123, 51, 124, 125, 169, 170, 171, 172, 635, 636, 637, 638, 639, 640, 662, 663, 655, 656, 657, 658, 659, 660, 661, 674, 675, 676, 677] (by decide +kernel) (by decide +kernel)
set_option maxRecDepth 20000 in
theorem gL_law_X7_weight : GoodIn wsL_law (wsV RL 18 RX7 yX7_weight wsX7_weight) := goodIn_app (goodIn_of _ (by decide +kernel)) ggL_law_X7_weight
set_option maxRecDepth 20000 in
theorem ggL_law_X8_weight : GoodIn wsL_law wsX8_weight := goodIn_r _ [176, 138, 139, 140, 5, 141, 80, 79, 177, 178, 179, 180, 181, 153, 154, 155, 156, 157, 158, 159, 160, 81, 641, 642, 643, 644, 645, 646, 647, 648, 649, 650, 651, 652, 653, 654] (by decide +kernel) (by decide +kernel)
set_option maxRecDepth 20000 in
theorem gL_law_X8_weight : GoodIn wsL_law (wsV RL 22 RX8 yX8_weight wsX8_weight) := goodIn_app (goodIn_of _ (by decide +kernel)) ggL_law_X8_weight
set_option maxRecDepth 20000 in
theorem ggL_law_X7_pass : GoodIn wsL_law wsX7_pass := goodIn_r _ [185, 16, 20, 186, 187, 188, 15, 189, 111, 190, 2, 191, 192, 193, 93, 94, 95, 19, 96, 57, 97, 98, 99, 100, 101, 102, 103, 104, 105, 38, 106, 107, 108, 109, 40, 44, 110, 112, 113, 114, 115, 116, 32, 117, 118, 119, 120, 121, 122, 43, 123, 51, 124, 125, 194, 195, 196, 197, 198, 199, 200, 201, 202, 203, 204, 205, 206, 207, 208, 209, 210, 130, 131, 132, 133, 211, 212, 213, 214, 215, 216, 217, 218, 219, 220, 221, 222, 223, 224, 225, 226, 227, 228, 229, 230, 231, 232, 233, 234, 235, 236, 237, 238, 635, 636, 637, 638, 639, 640, 655, 656, 657, 658, 659, 660, 661, 662, 663, 674, 675, 676, 677] (by decide +kernel) (by decide +kernel)
set_option maxRecDepth 20000 in
theorem gL_law_X7_pass : GoodIn wsL_law (wsV RL 23 RX7 yX7_pass wsX7_pass) := goodIn_app (goodIn_of _ (by decide +kernel)) ggL_law_X7_pass
set_option maxRecDepth 20000 in
theorem ggL_law_X8_pass : GoodIn wsL_law wsX8_pass := goodIn_r _ [242, 138, 139, 140, 5, 141, 80, 79, 243, 244, 245, 246, 149, 247, 248, 249, 250, 251, 153, 154, 155, 252, 253, 254, 255, 256, 257, 258, 259, 260, 261, 262, 263, 264, 265, 266, 267, 268, 269, 270, 271, 272, 273, 274, 275, 276, 277, 278, 279, 280, 281, 282, 283, 284, 285, 286, 156, 157, 158, 159, 160, 81, 641, 642, 643, 644, 645, 646, 647, 648, 649, 650, 651, 652, 653, 654] (by decide +kernel) (by decide +kernel)
set_option maxRecDepth 20000 in
theorem gL_law_X8_pass : GoodIn wsL_law (wsV RL 27 RX8 yX8_pass wsX8_pass) := goodIn_app (goodIn_of _ (by decide +kernel)) ggL_law_X8_pass
set_option maxRecDepth 20000 in
theorem ggL_law_X7_zero : GoodIn wsL_law wsX7_zero := goodIn_r _ [290, 20, 16, 291, 292, 93, 94, 95, 19, 96, 57, 97, 98, 99, 100, 101, 102, 103, 104, 15, 105, 38, 106, 107, 108, 109, 40, 44, 110, 111, 112, 113, 114, 115, 116, 32, 117, 118, 119, 120, 121, 122, 43, 123, 51, 124, 125, 293, 236, 237, 238, 635, 636, 637, 638, 639, 640, 655, 656, 657, 658, 659, 660, 661, 674, 675, 662, 663, 676, 677] (by decide +kernel) (by decide +kernel)
set_option maxRecDepth 20000 in
theorem gL_law_X7_zero : GoodIn wsL_law (wsV RL 28 RX7 yX7_zero wsX7_zero) := goodIn_app (goodIn_of _ (by decide +kernel)) ggL_law_X7_zero
set_option maxRecDepth 20000 in
theorem ggL_law_X8_zero : GoodIn wsL_law wsX8_zero := goodIn_r _ [297, 138, 139, 140, 5, 141, 80, 79, 298, 299, 300, 301, 302, 156, 157, 158, 159, 160, 81, 641, 642, 643, 644, 645, 646, 647, 648, 649, 650, 651, 652, 653, 654] (by decide +kernel) (by decide +kernel)
set_option maxRecDepth 20000 in
theorem gL_law_X8_zero : GoodIn wsL_law (wsV RL 32 RX8 yX8_zero wsX8_zero) := goodIn_app (goodIn_of _ (by decide +kernel)) ggL_law_X8_zero
set_option maxRecDepth 20000 in
theorem ggL_law_X7_hour : GoodIn wsL_law wsX7_hour := goodIn_r _ [306, 16, 307, 308, 309, 310, 43, 311, 125, 312, 99, 100, 101, 313, 314, 315, 316, 51, 227, 228, 229, 230, 635, 636, 637, 638, 639, 640, 655, 656, 657, 658, 659, 660, 661, 676, 677] (by decide +kernel) (by decide +kernel)
set_option maxRecDepth 20000 in
theorem gL_law_X7_hour : GoodIn wsL_law (wsV RL 33 RX7 yX7_hour wsX7_hour) := goodIn_app (goodIn_of _ (by decide +kernel)) ggL_law_X7_hour
set_option maxRecDepth 20000 in
theorem ggL_law_X8_hour : GoodIn wsL_law wsX8_hour := goodIn_r _ [320, 79, 321, 322, 302, 153, 154, 5, 155, 323, 324, 325, 326, 641, 642, 643, 644, 645, 646, 647, 648, 649, 650, 651, 652, 653, 654] (by decide +kernel) (by decide +kernel)
set_option maxRecDepth 20000 in
theorem gL_law_X8_hour : GoodIn wsL_law (wsV RL 36 RX8 yX8_hour wsX8_hour) := goodIn_app (goodIn_of _ (by decide +kernel)) ggL_law_X8_hour
set_option maxRecDepth 20000 in
theorem ggL_law_X7_count : GoodIn wsL_law wsX7_count := goodIn_r _ [330, 16, 291, 292, 331, 29, 20, 308, 309, 310, 43, 311, 125, 312, 99, 100, 101, 332, 131, 132, 15, 133, 38, 635, 636, 637, 638, 639, 640, 655, 656, 657, 658, 659, 660, 661, 674, 675, 666, 667, 668, 669, 670, 671, 672, 673, 678, 679, 662, 663, 676, 677] (by decide +kernel) (by decide +kernel)
set_option maxRecDepth 20000 in
theorem gL_law_X7_count : GoodIn wsL_law (wsV RL 37 RX7 yX7_count wsX7_count) := goodIn_app (goodIn_of _ (by decide +kernel)) ggL_law_X7_count
set_option maxRecDepth 20000 in
theorem ggL_law_X8_count : GoodIn wsL_law wsX8_count := goodIn_r _ [336, 79, 302, 337, 160, 641, 642, 643, 644, 645, 646, 647, 648, 649, 650, 651, 652, 653, 654] (by decide +kernel) (by decide +kernel)
set_option maxRecDepth 20000 in
theorem gL_law_X8_count : GoodIn wsL_law (wsV RL 40 RX8 yX8_count wsX8_count) := goodIn_app (goodIn_of _ (by decide +kernel)) ggL_law_X8_count
set_option maxRecDepth 20000 in
theorem ggL_law_X7_meanRate : GoodIn wsL_law wsX7_meanRate := goodIn_r _ [341, 16, 308, 309, 310, 43, 311, 125, 312, 99, 100, 101, 342, 343, 344, 345, 346, 347, 314, 315, 316, 51, 227, 228, 229, 230, 348, 349, 2, 350, 351, 352, 353, 354, 355, 635, 636, 637, 638, 639, 640, 655, 656, 657, 658, 659, 660, 661, 676, 677] (by decide +kernel) (by decide +kernel)
set_option maxRecDepth 20000 in
theorem gL_law_X7_meanRate : GoodIn wsL_law (wsV RL 41 RX7 yX7_meanRate wsX7_meanRate) := goodIn_app (goodIn_of _ (by decide +kernel)) ggL_law_X7_meanRate
set_option maxRecDepth 20000 in
theorem ggL_law_X8_meanRate : GoodIn wsL_law wsX8_meanRate := goodIn_r _ [359, 79, 323, 324, 325, 5, 326, 360, 361, 362, 363, 364, 365, 366, 367, 368, 369, 370, 371, 641, 642, 643, 644, 645, 646, 647, 648, 649, 650, 651, 652, 653, 654] (by decide +kernel) (by decide +kernel)
set_option maxRecDepth 20000 in
theorem gL_law_X8_meanRate : GoodIn wsL_law (wsV RL 45 RX8 yX8_meanRate wsX8_meanRate) := goodIn_app (goodIn_of _ (by decide +kernel)) ggL_law_X8_meanRate
set_option maxRecDepth 20000 in
theorem ggL_law_X7_ofLog : GoodIn wsL_law wsX7_ofLog := goodIn_r _ [375, 16, 376, 308, 309, 310, 43, 311, 125, 312, 99, 100, 101, 377, 378, 379, 380, 381, 382, 383, 347, 314, 315, 316, 51, 227, 228, 229, 230, 346, 384, 385, 386, 387, 388, 389, 390, 391, 392, 393, 394, 395, 635, 636, 637, 638, 639, 640, 655, 656, 657, 658, 659, 660, 661, 676, 677] (by decide +kernel) (by decide +kernel)
set_option maxRecDepth 20000 in
theorem gL_law_X7_ofLog : GoodIn wsL_law (wsV RL 46 RX7 yX7_ofLog wsX7_ofLog) := goodIn_app (goodIn_of _ (by decide +kernel)) ggL_law_X7_ofLog
set_option maxRecDepth 20000 in
theorem ggL_law_X8_ofLog : GoodIn wsL_law wsX8_ofLog := goodIn_r _ [399, 400, 79, 322, 153, 154, 5, 155, 401, 402, 403, 404, 323, 324, 325, 326, 405, 406, 407, 408, 409, 410, 411, 412, 413, 414, 415, 416, 417, 418, 419, 420, 641, 642, 643, 644, 645, 646, 647, 648, 649, 650, 651, 652, 653, 654] (by decide +kernel) (by decide +kernel)
set_option maxRecDepth 20000 in
theorem gL_law_X8_ofLog : GoodIn wsL_law (wsV RL 49 RX8 yX8_ofLog wsX8_ofLog) := goodIn_app (goodIn_of _ (by decide +kernel)) ggL_law_X8_ofLog
set_option maxRecDepth 20000 in
theorem ggL_law_X7_rate : GoodIn wsL_law wsX7_rate := goodIn_r _ [424, 16, 376, 425, 190, 2, 191, 426, 192, 193, 427, 204, 205, 15, 206, 110, 207, 208, 209, 210, 130, 131, 132, 133, 38, 635, 636, 637, 638, 639, 640, 655, 656, 657, 658, 659, 660, 661] (by decide +kernel) (by decide +kernel)
set_option maxRecDepth 20000 in
theorem gL_law_X7_rate : GoodIn wsL_law (wsV RL 50 RX7 yX7_rate wsX7_rate) := goodIn_app (goodIn_of _ (by decide +kernel)) ggL_law_X7_rate
set_option maxRecDepth 20000 in
theorem ggL_law_X8_rate : GoodIn wsL_law wsX8_rate := goodIn_r _ [431, 322, 247, 248, 5, 249, 250, 251, 153, 154, 155, 252, 253, 254, 255, 256, 263, 264, 265, 266, 79, 267, 268, 269, 270, 641, 642, 643, 644, 645, 646, 647, 648, 649, 650, 651, 652, 653, 654] (by decide +kernel) (by decide +kernel)
set_option maxRecDepth 20000 in
theorem gL_law_X8_rate : GoodIn wsL_law (wsV RL 53 RX8 yX8_rate wsX8_rate) := goodIn_app (goodIn_of _ (by decide +kernel)) ggL_law_X8_rate
set_option maxRecDepth 20000 in
theorem ggL_law_X7_bestWeights : GoodIn wsL_law wsX7_bestWeights := goodIn_r _ [435, 16, 436, 437, 100, 438, 376, 425, 190, 2, 191, 426, 192, 193, 439, 208, 209, 15, 210, 130, 131, 132, 133, 38, 635, 636, 637, 638, 639, 640, 655, 656, 657, 658, 659, 660, 661] (by decide +kernel) (by decide +kernel)
set_option maxRecDepth 20000 in
theorem gL_law_X7_bestWeights : GoodIn wsL_law (wsV RL 54 RX7 yX7_bestWeights wsX7_bestWeights) := goodIn_app (goodIn_of _ (by decide +kernel)) ggL_law_X7_bestWeights
set_option maxRecDepth 20000 in
theorem ggL_law_X8_bestWeights : GoodIn wsL_law wsX8_bestWeights := goodIn_r _ [443, 322, 247, 248, 5, 249, 250, 251, 153, 154, 155, 252, 253, 254, 255, 256, 267, 268, 269, 270, 79, 444, 445, 446, 641, 642, 643, 644, 645, 646, 647, 648, 649, 650, 651, 652, 653, 654] (by decide +kernel) (by decide +kernel)
set_option maxRecDepth 20000 in
theorem gL_law_X8_bestWeights : GoodIn wsL_law (wsV RL 58 RX8 yX8_bestWeights wsX8_bestWeights) := goodIn_app (goodIn_of _ (by decide +kernel)) ggL_law_X8_bestWeights
set_option maxRecDepth 20000 in
theorem ggL_law_X7_offIn : GoodIn wsL_law wsX7_offIn := goodIn_r _ [450, 16, 33, 425, 190, 2, 191, 426, 192, 193, 427, 204, 205, 15, 206, 110, 207, 208, 209, 210, 130, 131, 132, 133, 38, 332, 451, 115, 116, 32, 117, 118, 119, 452, 216, 217, 218, 453, 212, 213, 214, 635, 636, 637, 638, 639, 640, 655, 656, 657, 658, 659, 660, 661, 674, 675] (by decide +kernel) (by decide +kernel)
set_option maxRecDepth 20000 in
theorem gL_law_X7_offIn : GoodIn wsL_law (wsV RL 59 RX7 yX7_offIn wsX7_offIn) := goodIn_app (goodIn_of _ (by decide +kernel)) ggL_law_X7_offIn
set_option maxRecDepth 20000 in
theorem ggL_law_X8_offIn : GoodIn wsL_law wsX8_offIn := goodIn_r _ [457, 79, 261, 262, 247, 248, 5, 249, 250, 251, 153, 154, 155, 252, 253, 254, 255, 256, 275, 276, 277, 278, 263, 264, 265, 266, 267, 268, 269, 270, 271, 272, 273, 274, 641, 642, 643, 644, 645, 646, 647, 648, 649, 650, 651, 652, 653, 654] (by decide +kernel) (by decide +kernel)
set_option maxRecDepth 20000 in
theorem gL_law_X8_offIn : GoodIn wsL_law (wsV RL 62 RX8 yX8_offIn wsX8_offIn) := goodIn_app (goodIn_of _ (by decide +kernel)) ggL_law_X8_offIn
set_option maxRecDepth 20000 in
theorem ggL_law_X7_replay : GoodIn wsL_law wsX7_replay := goodIn_r _ [461, 33, 16, 291, 292, 293, 236, 237, 32, 238, 118, 119, 308, 309, 310, 43, 311, 125, 312, 99, 100, 101, 313, 314, 315, 316, 51, 227, 228, 229, 230, 427, 204, 205, 15, 206, 110, 207, 208, 209, 210, 130, 131, 132, 133, 38, 453, 212, 213, 214, 635, 636, 637, 638, 639, 640, 655, 656, 657, 658, 659, 660, 661, 674, 675, 676, 677] (by decide +kernel) (by decide +kernel)
set_option maxRecDepth 20000 in
theorem gL_law_X7_replay : GoodIn wsL_law (wsV RL 63 RX7 yX7_replay wsX7_replay) := goodIn_app (goodIn_of _ (by decide +kernel)) ggL_law_X7_replay
set_option maxRecDepth 20000 in
theorem ggL_law_X8_replay : GoodIn wsL_law wsX8_replay := goodIn_r _ [465, 261, 262, 79, 302, 323, 324, 325, 5, 326, 263, 264, 265, 266, 267, 268, 269, 270, 271, 272, 273, 274, 641, 642, 643, 644, 645, 646, 647, 648, 649, 650, 651, 652, 653, 654] (by decide +kernel) (by decide +kernel)
set_option maxRecDepth 20000 in
theorem gL_law_X8_replay : GoodIn wsL_law (wsV RL 66 RX8 yX8_replay wsX8_replay) := goodIn_app (goodIn_of _ (by decide +kernel)) ggL_law_X8_replay
set_option maxRecDepth 20000 in
theorem ggL_law_X7_coolest : GoodIn wsL_law wsX7_coolest := goodIn_r _ [469, 16, 426, 192, 2, 193, 427, 204, 205, 15, 206, 110, 207, 208, 209, 210, 130, 131, 132, 133, 38, 635, 636, 637, 638, 639, 640, 655, 656, 657, 658, 659, 660, 661] (by decide +kernel) (by decide +kernel)
set_option maxRecDepth 20000 in
theorem gL_law_X7_coolest : GoodIn wsL_law (wsV RL 67 RX7 yX7_coolest wsX7_coolest) := goodIn_app (goodIn_of _ (by decide +kernel)) ggL_law_X7_coolest
set_option maxRecDepth 20000 in
theorem ggL_law_X8_coolest : GoodIn wsL_law wsX8_coolest := goodIn_r _ [473, 252, 253, 5, 254, 255, 256, 153, 154, 155, 263, 264, 265, 266, 79, 267, 268, 269, 270, 641, 642, 643, 644, 645, 646, 647, 648, 649, 650, 651, 652, 653, 654] (by decide +kernel) (by decide +kernel)
set_option maxRecDepth 20000 in
theorem gL_law_X8_coolest : GoodIn wsL_law (wsV RL 70 RX8 yX8_coolest wsX8_coolest) := goodIn_app (goodIn_of _ (by decide +kernel)) ggL_law_X8_coolest
set_option maxRecDepth 20000 in
theorem ggL_law_X7_put : GoodIn wsL_law wsX7_put := goodIn_r _ [477, 29, 478, 479, 2, 480, 481, 482, 483, 484, 485, 486, 68, 487, 488, 74, 635, 636, 637, 638, 639, 640, 666, 667, 668, 669, 670, 671, 672, 673, 678, 679] (by decide +kernel) (by decide +kernel)
set_option maxRecDepth 20000 in
theorem gL_law_X7_put : GoodIn wsL_law (wsV RL 73 RX7 yX7_put wsX7_put) := goodIn_app (goodIn_of _ (by decide +kernel)) ggL_law_X7_put
set_option maxRecDepth 20000 in
theorem ggL_law_X8_put : GoodIn wsL_law wsX8_put := goodIn_r _ [492, 493, 494, 495, 337, 84, 153, 154, 5, 155, 641, 642, 643, 644, 645, 646, 647, 648, 649, 650, 651, 652, 653, 654] (by decide +kernel) (by decide +kernel)
set_option maxRecDepth 20000 in
theorem gL_law_X8_put : GoodIn wsL_law (wsV RL 77 RX8 yX8_put wsX8_put) := goodIn_app (goodIn_of _ (by decide +kernel)) ggL_law_X8_put
set_option maxRecDepth 20000 in
theorem ggL_law_X7_wipe : GoodIn wsL_law wsX7_wipe := goodIn_r _ [499, 29, 635, 636, 637, 638, 639, 640, 666, 667, 668, 669, 670, 671, 672, 673, 678, 679] (by decide +kernel) (by decide +kernel)
set_option maxRecDepth 20000 in
theorem gL_law_X7_wipe : GoodIn wsL_law (wsV RL 78 RX7 yX7_wipe wsX7_wipe) := goodIn_app (goodIn_of _ (by decide +kernel)) ggL_law_X7_wipe
set_option maxRecDepth 20000 in
theorem ggL_law_X8_wipe : GoodIn wsL_law wsX8_wipe := goodIn_r _ [503, 337, 641, 642, 643, 644, 645, 646, 647, 648, 649, 650, 651, 652, 653, 654] (by decide +kernel) (by decide +kernel)
set_option maxRecDepth 20000 in
theorem gL_law_X8_wipe : GoodIn wsL_law (wsV RL 81 RX8 yX8_wipe wsX8_wipe) := goodIn_app (goodIn_of _ (by decide +kernel)) ggL_law_X8_wipe
set_option maxRecDepth 20000 in
theorem ggL_law_X7_fault : GoodIn wsL_law wsX7_fault := goodIn_r _ [507, 29, 508, 509, 510, 28, 511, 512, 69, 513, 514, 515, 516, 517, 518, 519, 520, 521, 522, 523, 524, 68, 525, 488, 74, 526, 527, 528, 529, 530, 531, 532, 533, 534, 535, 536, 537, 538, 539, 540, 541, 542, 543, 544, 545, 546, 547, 548, 549, 550, 551, 552, 553, 635, 636, 637, 638, 639, 640, 666, 667, 668, 669, 670, 671, 672, 673, 678, 679] (by decide +kernel) (by decide +kernel)
set_option maxRecDepth 20000 in
theorem gL_law_X7_fault : GoodIn wsL_law (wsV RL 82 RX7 yX7_fault wsX7_fault) := goodIn_app (goodIn_of _ (by decide +kernel)) ggL_law_X7_fault
set_option maxRecDepth 20000 in
theorem ggL_law_X8_fault : GoodIn wsL_law wsX8_fault := goodIn_r _ [557, 558, 559, 337, 560, 561, 562, 5, 563, 84, 564, 565, 566, 567, 568, 569, 570, 571, 572, 153, 154, 155, 298, 299, 300, 301, 79, 302, 573, 574, 575, 576, 577, 177, 178, 179, 180, 181, 578, 579, 580, 581, 582, 583, 584, 585, 142, 143, 144, 145, 146, 147, 148, 149, 150, 151, 152, 586, 587, 588, 589, 243, 244, 245, 246, 247, 248, 249, 250, 251, 252, 253, 254, 255, 256, 257, 258, 259, 260, 261, 262, 263, 264, 265, 266, 267, 268, 269, 270, 271, 272, 273, 274, 275, 276, 277, 278, 279, 280, 281, 282, 283, 284, 285, 286, 641, 642, 643, 644, 645, 646, 647, 648, 649, 650, 651, 652, 653, 654] (by decide +kernel) (by decide +kernel)
set_option maxRecDepth 20000 in
theorem gL_law_X8_fault : GoodIn wsL_law (wsV RL 85 RX8 yX8_fault wsX8_fault) := goodIn_app (goodIn_of _ (by decide +kernel)) ggL_law_X8_fault
set_option maxRecDepth 20000 in
theorem ggL_law_X7_carryOut : GoodIn wsL_law wsX7_carryOut := goodIn_r _ [593, 29, 20, 16, 508, 509, 510, 28, 511, 512, 69, 513, 514, 515, 516, 517, 518, 519, 520, 521, 522, 523, 524, 68, 525, 488, 74, 526, 527, 528, 529, 530, 531, 532, 533, 534, 535, 536, 537, 538, 539, 540, 541, 542, 543, 544, 545, 546, 547, 548, 549, 550, 551, 552, 553, 93, 94, 95, 19, 96, 57, 97, 98, 99, 100, 101, 102, 103, 104, 15, 105, 38, 106, 107, 108, 109, 40, 44, 110, 111, 112, 113, 114, 115, 116, 32, 117, 118, 119, 120, 121, 122, 43, 123, 51, 124, 125, 594, 595, 596, 597, 598, 2, 599, 186, 187, 188, 189, 190, 191, 192, 193, 194, 195, 196, 197, 198, 199, 200, 201, 202, 203, 204, 205, 206, 207, 208, 209, 210, 130, 131, 132, 133, 211, 212, 213, 214, 215, 216, 217, 218, 219, 220, 221, 222, 223, 224, 225, 226, 227, 228, 229, 230, 231, 232, 233, 234, 235, 236, 237, 238, 165, 166, 167, 168, 169, 170, 171, 172, 89, 90, 91, 92, 126, 127, 128, 129, 293, 600, 635, 636, 637, 638, 639, 640, 666, 667, 668, 669, 670, 671, 672, 673, 678, 679, 662, 663, 655, 656, 657, 658, 659, 660, 661, 674, 675, 676, 677] (by decide +kernel) (by decide +kernel)
set_option maxRecDepth 20000 in
theorem gL_law_X7_carryOut : GoodIn wsL_law (wsV RL 86 RX7 yX7_carryOut wsX7_carryOut) := goodIn_app (goodIn_of _ (by decide +kernel)) ggL_law_X7_carryOut
set_option maxRecDepth 20000 in
theorem ggL_law_X8_carryOut : GoodIn wsL_law wsX8_carryOut := goodIn_r _ [604, 558, 559, 577, 337, 605, 555, 556, 5, 557, 560, 561, 562, 563, 84, 564, 565, 566, 567, 568, 569, 570, 571, 572, 153, 154, 155, 298, 299, 300, 301, 79, 302, 573, 574, 575, 576, 177, 178, 179, 180, 181, 578, 579, 580, 581, 582, 583, 584, 585, 142, 143, 144, 145, 146, 147, 148, 149, 150, 151, 152, 586, 587, 588, 589, 243, 244, 245, 246, 247, 248, 249, 250, 251, 252, 253, 254, 255, 256, 257, 258, 259, 260, 261, 262, 263, 264, 265, 266, 267, 268, 269, 270, 271, 272, 273, 274, 275, 276, 277, 278, 279, 280, 281, 282, 283, 284, 285, 286, 138, 139, 140, 141, 80, 156, 157, 158, 159, 160, 81, 641, 642, 643, 644, 645, 646, 647, 648, 649, 650, 651, 652, 653, 654] (by decide +kernel) (by decide +kernel)
set_option maxRecDepth 20000 in
theorem gL_law_X8_carryOut : GoodIn wsL_law (wsV RL 89 RX8 yX8_carryOut wsX8_carryOut) := goodIn_app (goodIn_of _ (by decide +kernel)) ggL_law_X8_carryOut
set_option maxRecDepth 20000 in
theorem ggL_law_X7_undo : GoodIn wsL_law wsX7_undo := goodIn_r _ [609, 20, 16, 610, 611, 612, 19, 613, 57, 97, 102, 103, 104, 15, 105, 38, 106, 107, 108, 109, 40, 44, 110, 111, 112, 113, 114, 115, 116, 32, 117, 118, 119, 120, 121, 122, 43, 123, 51, 124, 125, 635, 636, 637, 638, 639, 640, 662, 663, 655, 656, 657, 658, 659, 660, 661, 674, 675, 676, 677] (by decide +kernel) (by decide +kernel)
set_option maxRecDepth 20000 in
theorem gL_law_X7_undo : GoodIn wsL_law (wsV RL 90 RX7 yX7_undo wsX7_undo) := goodIn_app (goodIn_of _ (by decide +kernel)) ggL_law_X7_undo
set_option maxRecDepth 20000 in
theorem ggL_law_X8_undo : GoodIn wsL_law wsX8_undo := goodIn_r _ [617, 160, 79, 81, 641, 642, 643, 644, 645, 646, 647, 648, 649, 650, 651, 652, 653, 654] (by decide +kernel) (by decide +kernel)
set_option maxRecDepth 20000 in
theorem gL_law_X8_undo : GoodIn wsL_law (wsV RL 93 RX8 yX8_undo wsX8_undo) := goodIn_app (goodIn_of _ (by decide +kernel)) ggL_law_X8_undo
set_option maxRecDepth 20000 in
theorem ggL_law_X7_save : GoodIn wsL_law wsX7_save := goodIn_r _ [621, 24, 25, 16, 622, 103, 104, 15, 105, 38, 106, 107, 108, 109, 40, 44, 110, 111, 112, 113, 114, 115, 116, 32, 117, 118, 119, 120, 121, 122, 43, 123, 51, 124, 125, 635, 636, 637, 638, 639, 640, 664, 665, 655, 656, 657, 658, 659, 660, 661, 674, 675, 676, 677] (by decide +kernel) (by decide +kernel)
set_option maxRecDepth 20000 in
theorem gL_law_X7_save : GoodIn wsL_law (wsV RL 94 RX7 yX7_save wsX7_save) := goodIn_app (goodIn_of _ (by decide +kernel)) ggL_law_X7_save
set_option maxRecDepth 20000 in
theorem ggL_law_X8_save : GoodIn wsL_law wsX8_save := goodIn_r _ [626, 82, 79, 83, 153, 154, 5, 155, 641, 642, 643, 644, 645, 646, 647, 648, 649, 650, 651, 652, 653, 654] (by decide +kernel) (by decide +kernel)
set_option maxRecDepth 20000 in
theorem gL_law_X8_save : GoodIn wsL_law (wsV RL 97 RX8 yX8_save wsX8_save) := goodIn_app (goodIn_of _ (by decide +kernel)) ggL_law_X8_save
set_option maxRecDepth 20000 in
theorem ggL_law_X7_restore : GoodIn wsL_law wsX7_restore := goodIn_r _ [630, 24, 25, 20, 16, 93, 94, 95, 19, 96, 57, 97, 98, 99, 100, 101, 102, 103, 104, 15, 105, 38, 106, 107, 108, 109, 40, 44, 110, 111, 112, 113, 114, 115, 116, 32, 117, 118, 119, 120, 121, 122, 43, 123, 51, 124, 125, 622, 635, 636, 637, 638, 639, 640, 664, 665, 655, 656, 657, 658, 659, 660, 661, 662, 663, 674, 675, 676, 677] (by decide +kernel) (by decide +kernel)
set_option maxRecDepth 20000 in
theorem gL_law_X7_restore : GoodIn wsL_law (wsV RL 98 RX7 yX7_restore wsX7_restore) := goodIn_app (goodIn_of _ (by decide +kernel)) ggL_law_X7_restore
set_option maxRecDepth 20000 in
theorem ggL_law_X8_restore : GoodIn wsL_law wsX8_restore := goodIn_r _ [634, 83, 79, 82, 153, 154, 5, 155, 138, 139, 140, 141, 80, 156, 157, 158, 159, 160, 81, 641, 642, 643, 644, 645, 646, 647, 648, 649, 650, 651, 652, 653, 654] (by decide +kernel) (by decide +kernel)
set_option maxRecDepth 20000 in
theorem gL_law_X8_restore : GoodIn wsL_law (wsV RL 101 RX8 yX8_restore wsX8_restore) := goodIn_app (goodIn_of _ (by decide +kernel)) ggL_law_X8_restore
theorem dL_law_0 : decode cL_law 0 = .ok (.new 7, 3) := by decide +kernel
theorem dL_law_3 : decode cL_law 3 = .ok (.dup, 1) := by decide +kernel
theorem dL_law_4 : decode cL_law 4 = .ok (.invokespecial 9, 3) := by decide +kernel
theorem dL_law_7 : decode cL_law 7 = .ok (.astore_n 1, 1) := by decide +kernel
theorem dL_law_8 : decode cL_law 8 = .ok (.new 10, 3) := by decide +kernel
theorem dL_law_11 : decode cL_law 11 = .ok (.dup, 1) := by decide +kernel
theorem dL_law_12 : decode cL_law 12 = .ok (.invokespecial 12, 3) := by decide +kernel
theorem dL_law_15 : decode cL_law 15 = .ok (.astore_n 2, 1) := by decide +kernel
theorem dL_law_16 : decode cL_law 16 = .ok (.iconst 0, 1) := by decide +kernel
theorem dL_law_17 : decode cL_law 17 = .ok (.istore_n 3, 1) := by decide +kernel
theorem dL_law_18 : decode cL_law 18 = .ok (.iload_n 3, 1) := by decide +kernel
theorem dL_law_19 : decode cL_law 19 = .ok (.aload_n 0, 1) := by decide +kernel
theorem dL_law_20 : decode cL_law 20 = .ok (.arraylength, 1) := by decide +kernel
theorem dL_law_21 : decode cL_law 21 = .ok (.iconst 5, 1) := by decide +kernel
theorem dL_law_22 : decode cL_law 22 = .ok (.isub, 1) := by decide +kernel
theorem dL_law_23 : decode cL_law 23 = .ok (.if_icmp .gt 622, 3) := by decide +kernel
theorem dL_law_26 : decode cL_law 26 = .ok (.aload_n 0, 1) := by decide +kernel
theorem dL_law_27 : decode cL_law 27 = .ok (.iload_n 3, 1) := by decide +kernel
theorem dL_law_28 : decode cL_law 28 = .ok (.iaload, 1) := by decide +kernel
theorem dL_law_29 : decode cL_law 29 = .ok (.bipush 31, 2) := by decide +kernel
theorem dL_law_31 : decode cL_law 31 = .ok (.iand, 1) := by decide +kernel
theorem dL_law_32 : decode cL_law 32 = .ok (.tableswitch 607 0 19 #[96, 129, 152, 205, 218, 251, 274, 288, 311, 344, 387, 420, 433, 456, 509, 522, 535, 548, 561, 584], 96) := by decide +kernel
theorem dL_law_128 : decode cL_law 128 = .ok (.aload_n 1, 1) := by decide +kernel
theorem dL_law_129 : decode cL_law 129 = .ok (.aload_n 0, 1) := by decide +kernel
theorem dL_law_130 : decode cL_law 130 = .ok (.iload_n 3, 1) := by decide +kernel
theorem dL_law_131 : decode cL_law 131 = .ok (.iconst 1, 1) := by decide +kernel
theorem dL_law_132 : decode cL_law 132 = .ok (.iadd, 1) := by decide +kernel
theorem dL_law_133 : decode cL_law 133 = .ok (.iaload, 1) := by decide +kernel
theorem dL_law_134 : decode cL_law 134 = .ok (.aload_n 0, 1) := by decide +kernel
theorem dL_law_135 : decode cL_law 135 = .ok (.iload_n 3, 1) := by decide +kernel
theorem dL_law_136 : decode cL_law 136 = .ok (.iconst 2, 1) := by decide +kernel
theorem dL_law_137 : decode cL_law 137 = .ok (.iadd, 1) := by decide +kernel
theorem dL_law_138 : decode cL_law 138 = .ok (.iaload, 1) := by decide +kernel
theorem dL_law_139 : decode cL_law 139 = .ok (.invokevirtual 13, 3) := by decide +kernel
theorem dL_law_142 : decode cL_law 142 = .ok (.aload_n 2, 1) := by decide +kernel
theorem dL_law_143 : decode cL_law 143 = .ok (.aload_n 0, 1) := by decide +kernel
theorem dL_law_144 : decode cL_law 144 = .ok (.iload_n 3, 1) := by decide +kernel
theorem dL_law_145 : decode cL_law 145 = .ok (.iconst 1, 1) := by decide +kernel
theorem dL_law_146 : decode cL_law 146 = .ok (.iadd, 1) := by decide +kernel
theorem dL_law_147 : decode cL_law 147 = .ok (.iaload, 1) := by decide +kernel
theorem dL_law_148 : decode cL_law 148 = .ok (.aload_n 0, 1) := by decide +kernel
theorem dL_law_149 : decode cL_law 149 = .ok (.iload_n 3, 1) := by decide +kernel
theorem dL_law_150 : decode cL_law 150 = .ok (.iconst 2, 1) := by decide +kernel
theorem dL_law_151 : decode cL_law 151 = .ok (.iadd, 1) := by decide +kernel
theorem dL_law_152 : decode cL_law 152 = .ok (.iaload, 1) := by decide +kernel
theorem dL_law_153 : decode cL_law 153 = .ok (.invokevirtual 17, 3) := by decide +kernel
theorem dL_law_156 : decode cL_law 156 = .ok (.if_icmp .eq 483, 3) := by decide +kernel
theorem dL_law_159 : decode cL_law 159 = .ok (.iconst 0, 1) := by decide +kernel
theorem dL_law_160 : decode cL_law 160 = .ok (.ireturn, 1) := by decide +kernel
theorem dL_law_161 : decode cL_law 161 = .ok (.aload_n 1, 1) := by decide +kernel
theorem dL_law_162 : decode cL_law 162 = .ok (.aload_n 0, 1) := by decide +kernel
theorem dL_law_163 : decode cL_law 163 = .ok (.iload_n 3, 1) := by decide +kernel
theorem dL_law_164 : decode cL_law 164 = .ok (.iconst 1, 1) := by decide +kernel
theorem dL_law_165 : decode cL_law 165 = .ok (.iadd, 1) := by decide +kernel
theorem dL_law_166 : decode cL_law 166 = .ok (.iaload, 1) := by decide +kernel
theorem dL_law_167 : decode cL_law 167 = .ok (.invokevirtual 18, 3) := by decide +kernel
theorem dL_law_170 : decode cL_law 170 = .ok (.aload_n 2, 1) := by decide +kernel
theorem dL_law_171 : decode cL_law 171 = .ok (.aload_n 0, 1) := by decide +kernel
theorem dL_law_172 : decode cL_law 172 = .ok (.iload_n 3, 1) := by decide +kernel
theorem dL_law_173 : decode cL_law 173 = .ok (.iconst 1, 1) := by decide +kernel
theorem dL_law_174 : decode cL_law 174 = .ok (.iadd, 1) := by decide +kernel
theorem dL_law_175 : decode cL_law 175 = .ok (.iaload, 1) := by decide +kernel
theorem dL_law_176 : decode cL_law 176 = .ok (.invokevirtual 22, 3) := by decide +kernel
theorem dL_law_179 : decode cL_law 179 = .ok (.if_icmp .eq 460, 3) := by decide +kernel
theorem dL_law_182 : decode cL_law 182 = .ok (.iconst 0, 1) := by decide +kernel
theorem dL_law_183 : decode cL_law 183 = .ok (.ireturn, 1) := by decide +kernel
theorem dL_law_184 : decode cL_law 184 = .ok (.aload_n 1, 1) := by decide +kernel
theorem dL_law_185 : decode cL_law 185 = .ok (.aload_n 0, 1) := by decide +kernel
theorem dL_law_186 : decode cL_law 186 = .ok (.iload_n 3, 1) := by decide +kernel
theorem dL_law_187 : decode cL_law 187 = .ok (.iconst 1, 1) := by decide +kernel
theorem dL_law_188 : decode cL_law 188 = .ok (.iadd, 1) := by decide +kernel
theorem dL_law_189 : decode cL_law 189 = .ok (.iaload, 1) := by decide +kernel
theorem dL_law_190 : decode cL_law 190 = .ok (.aload_n 0, 1) := by decide +kernel
theorem dL_law_191 : decode cL_law 191 = .ok (.iload_n 3, 1) := by decide +kernel
theorem dL_law_192 : decode cL_law 192 = .ok (.iconst 2, 1) := by decide +kernel
theorem dL_law_193 : decode cL_law 193 = .ok (.iadd, 1) := by decide +kernel
theorem dL_law_194 : decode cL_law 194 = .ok (.iaload, 1) := by decide +kernel
theorem dL_law_195 : decode cL_law 195 = .ok (.aload_n 0, 1) := by decide +kernel
theorem dL_law_196 : decode cL_law 196 = .ok (.iload_n 3, 1) := by decide +kernel
theorem dL_law_197 : decode cL_law 197 = .ok (.iconst 3, 1) := by decide +kernel
theorem dL_law_198 : decode cL_law 198 = .ok (.iadd, 1) := by decide +kernel
theorem dL_law_199 : decode cL_law 199 = .ok (.iaload, 1) := by decide +kernel
theorem dL_law_200 : decode cL_law 200 = .ok (.aload_n 0, 1) := by decide +kernel
theorem dL_law_201 : decode cL_law 201 = .ok (.iload_n 3, 1) := by decide +kernel
theorem dL_law_202 : decode cL_law 202 = .ok (.iconst 4, 1) := by decide +kernel
theorem dL_law_203 : decode cL_law 203 = .ok (.iadd, 1) := by decide +kernel
theorem dL_law_204 : decode cL_law 204 = .ok (.iaload, 1) := by decide +kernel
theorem dL_law_205 : decode cL_law 205 = .ok (.invokevirtual 23, 3) := by decide +kernel
theorem dL_law_208 : decode cL_law 208 = .ok (.aload_n 2, 1) := by decide +kernel
theorem dL_law_209 : decode cL_law 209 = .ok (.aload_n 0, 1) := by decide +kernel
theorem dL_law_210 : decode cL_law 210 = .ok (.iload_n 3, 1) := by decide +kernel
theorem dL_law_211 : decode cL_law 211 = .ok (.iconst 1, 1) := by decide +kernel
theorem dL_law_212 : decode cL_law 212 = .ok (.iadd, 1) := by decide +kernel
theorem dL_law_213 : decode cL_law 213 = .ok (.iaload, 1) := by decide +kernel
theorem dL_law_214 : decode cL_law 214 = .ok (.aload_n 0, 1) := by decide +kernel
theorem dL_law_215 : decode cL_law 215 = .ok (.iload_n 3, 1) := by decide +kernel
theorem dL_law_216 : decode cL_law 216 = .ok (.iconst 2, 1) := by decide +kernel
theorem dL_law_217 : decode cL_law 217 = .ok (.iadd, 1) := by decide +kernel
theorem dL_law_218 : decode cL_law 218 = .ok (.iaload, 1) := by decide +kernel
theorem dL_law_219 : decode cL_law 219 = .ok (.aload_n 0, 1) := by decide +kernel
theorem dL_law_220 : decode cL_law 220 = .ok (.iload_n 3, 1) := by decide +kernel
theorem dL_law_221 : decode cL_law 221 = .ok (.iconst 3, 1) := by decide +kernel
theorem dL_law_222 : decode cL_law 222 = .ok (.iadd, 1) := by decide +kernel
theorem dL_law_223 : decode cL_law 223 = .ok (.iaload, 1) := by decide +kernel
theorem dL_law_224 : decode cL_law 224 = .ok (.aload_n 0, 1) := by decide +kernel
theorem dL_law_225 : decode cL_law 225 = .ok (.iload_n 3, 1) := by decide +kernel
theorem dL_law_226 : decode cL_law 226 = .ok (.iconst 4, 1) := by decide +kernel
theorem dL_law_227 : decode cL_law 227 = .ok (.iadd, 1) := by decide +kernel
theorem dL_law_228 : decode cL_law 228 = .ok (.iaload, 1) := by decide +kernel
theorem dL_law_229 : decode cL_law 229 = .ok (.invokevirtual 27, 3) := by decide +kernel
theorem dL_law_232 : decode cL_law 232 = .ok (.if_icmp .eq 407, 3) := by decide +kernel
theorem dL_law_235 : decode cL_law 235 = .ok (.iconst 0, 1) := by decide +kernel
theorem dL_law_236 : decode cL_law 236 = .ok (.ireturn, 1) := by decide +kernel
theorem dL_law_237 : decode cL_law 237 = .ok (.aload_n 1, 1) := by decide +kernel
theorem dL_law_238 : decode cL_law 238 = .ok (.invokevirtual 28, 3) := by decide +kernel
theorem dL_law_241 : decode cL_law 241 = .ok (.aload_n 2, 1) := by decide +kernel
theorem dL_law_242 : decode cL_law 242 = .ok (.invokevirtual 32, 3) := by decide +kernel
theorem dL_law_245 : decode cL_law 245 = .ok (.if_icmp .eq 394, 3) := by decide +kernel
theorem dL_law_248 : decode cL_law 248 = .ok (.iconst 0, 1) := by decide +kernel
theorem dL_law_249 : decode cL_law 249 = .ok (.ireturn, 1) := by decide +kernel
theorem dL_law_250 : decode cL_law 250 = .ok (.aload_n 1, 1) := by decide +kernel
theorem dL_law_251 : decode cL_law 251 = .ok (.aload_n 0, 1) := by decide +kernel
theorem dL_law_252 : decode cL_law 252 = .ok (.iload_n 3, 1) := by decide +kernel
theorem dL_law_253 : decode cL_law 253 = .ok (.iconst 1, 1) := by decide +kernel
theorem dL_law_254 : decode cL_law 254 = .ok (.iadd, 1) := by decide +kernel
theorem dL_law_255 : decode cL_law 255 = .ok (.iaload, 1) := by decide +kernel
theorem dL_law_256 : decode cL_law 256 = .ok (.aload_n 0, 1) := by decide +kernel
theorem dL_law_257 : decode cL_law 257 = .ok (.iload_n 3, 1) := by decide +kernel
theorem dL_law_258 : decode cL_law 258 = .ok (.iconst 2, 1) := by decide +kernel
theorem dL_law_259 : decode cL_law 259 = .ok (.iadd, 1) := by decide +kernel
theorem dL_law_260 : decode cL_law 260 = .ok (.iaload, 1) := by decide +kernel
theorem dL_law_261 : decode cL_law 261 = .ok (.invokevirtual 33, 3) := by decide +kernel
theorem dL_law_264 : decode cL_law 264 = .ok (.aload_n 2, 1) := by decide +kernel
theorem dL_law_265 : decode cL_law 265 = .ok (.aload_n 0, 1) := by decide +kernel
theorem dL_law_266 : decode cL_law 266 = .ok (.iload_n 3, 1) := by decide +kernel
theorem dL_law_267 : decode cL_law 267 = .ok (.iconst 1, 1) := by decide +kernel
theorem dL_law_268 : decode cL_law 268 = .ok (.iadd, 1) := by decide +kernel
theorem dL_law_269 : decode cL_law 269 = .ok (.iaload, 1) := by decide +kernel
theorem dL_law_270 : decode cL_law 270 = .ok (.aload_n 0, 1) := by decide +kernel
theorem dL_law_271 : decode cL_law 271 = .ok (.iload_n 3, 1) := by decide +kernel
theorem dL_law_272 : decode cL_law 272 = .ok (.iconst 2, 1) := by decide +kernel
theorem dL_law_273 : decode cL_law 273 = .ok (.iadd, 1) := by decide +kernel
theorem dL_law_274 : decode cL_law 274 = .ok (.iaload, 1) := by decide +kernel
theorem dL_law_275 : decode cL_law 275 = .ok (.invokevirtual 36, 3) := by decide +kernel
theorem dL_law_278 : decode cL_law 278 = .ok (.if_icmp .eq 361, 3) := by decide +kernel
theorem dL_law_281 : decode cL_law 281 = .ok (.iconst 0, 1) := by decide +kernel
theorem dL_law_282 : decode cL_law 282 = .ok (.ireturn, 1) := by decide +kernel
theorem dL_law_283 : decode cL_law 283 = .ok (.aload_n 1, 1) := by decide +kernel
theorem dL_law_284 : decode cL_law 284 = .ok (.aload_n 0, 1) := by decide +kernel
theorem dL_law_285 : decode cL_law 285 = .ok (.iload_n 3, 1) := by decide +kernel
theorem dL_law_286 : decode cL_law 286 = .ok (.iconst 1, 1) := by decide +kernel
theorem dL_law_287 : decode cL_law 287 = .ok (.iadd, 1) := by decide +kernel
theorem dL_law_288 : decode cL_law 288 = .ok (.iaload, 1) := by decide +kernel
theorem dL_law_289 : decode cL_law 289 = .ok (.invokevirtual 37, 3) := by decide +kernel
theorem dL_law_292 : decode cL_law 292 = .ok (.aload_n 2, 1) := by decide +kernel
theorem dL_law_293 : decode cL_law 293 = .ok (.aload_n 0, 1) := by decide +kernel
theorem dL_law_294 : decode cL_law 294 = .ok (.iload_n 3, 1) := by decide +kernel
theorem dL_law_295 : decode cL_law 295 = .ok (.iconst 1, 1) := by decide +kernel
theorem dL_law_296 : decode cL_law 296 = .ok (.iadd, 1) := by decide +kernel
theorem dL_law_297 : decode cL_law 297 = .ok (.iaload, 1) := by decide +kernel
theorem dL_law_298 : decode cL_law 298 = .ok (.invokevirtual 40, 3) := by decide +kernel
theorem dL_law_301 : decode cL_law 301 = .ok (.if_icmp .eq 338, 3) := by decide +kernel
theorem dL_law_304 : decode cL_law 304 = .ok (.iconst 0, 1) := by decide +kernel
theorem dL_law_305 : decode cL_law 305 = .ok (.ireturn, 1) := by decide +kernel
theorem dL_law_306 : decode cL_law 306 = .ok (.aload_n 1, 1) := by decide +kernel
theorem dL_law_307 : decode cL_law 307 = .ok (.invokevirtual 41, 3) := by decide +kernel
theorem dL_law_310 : decode cL_law 310 = .ok (.aload_n 2, 1) := by decide +kernel
theorem dL_law_311 : decode cL_law 311 = .ok (.invokevirtual 45, 3) := by decide +kernel
theorem dL_law_314 : decode cL_law 314 = .ok (.lcmp, 1) := by decide +kernel
theorem dL_law_315 : decode cL_law 315 = .ok (.ifCond .eq 324, 3) := by decide +kernel
theorem dL_law_318 : decode cL_law 318 = .ok (.iconst 0, 1) := by decide +kernel
theorem dL_law_319 : decode cL_law 319 = .ok (.ireturn, 1) := by decide +kernel
theorem dL_law_320 : decode cL_law 320 = .ok (.aload_n 1, 1) := by decide +kernel
theorem dL_law_321 : decode cL_law 321 = .ok (.aload_n 0, 1) := by decide +kernel
theorem dL_law_322 : decode cL_law 322 = .ok (.iload_n 3, 1) := by decide +kernel
theorem dL_law_323 : decode cL_law 323 = .ok (.iconst 1, 1) := by decide +kernel
theorem dL_law_324 : decode cL_law 324 = .ok (.iadd, 1) := by decide +kernel
theorem dL_law_325 : decode cL_law 325 = .ok (.iaload, 1) := by decide +kernel
theorem dL_law_326 : decode cL_law 326 = .ok (.invokevirtual 46, 3) := by decide +kernel
theorem dL_law_329 : decode cL_law 329 = .ok (.aload_n 2, 1) := by decide +kernel
theorem dL_law_330 : decode cL_law 330 = .ok (.aload_n 0, 1) := by decide +kernel
theorem dL_law_331 : decode cL_law 331 = .ok (.iload_n 3, 1) := by decide +kernel
theorem dL_law_332 : decode cL_law 332 = .ok (.iconst 1, 1) := by decide +kernel
theorem dL_law_333 : decode cL_law 333 = .ok (.iadd, 1) := by decide +kernel
theorem dL_law_334 : decode cL_law 334 = .ok (.iaload, 1) := by decide +kernel
theorem dL_law_335 : decode cL_law 335 = .ok (.invokevirtual 49, 3) := by decide +kernel
theorem dL_law_338 : decode cL_law 338 = .ok (.if_icmp .eq 301, 3) := by decide +kernel
theorem dL_law_341 : decode cL_law 341 = .ok (.iconst 0, 1) := by decide +kernel
theorem dL_law_342 : decode cL_law 342 = .ok (.ireturn, 1) := by decide +kernel
theorem dL_law_343 : decode cL_law 343 = .ok (.aload_n 1, 1) := by decide +kernel
theorem dL_law_344 : decode cL_law 344 = .ok (.aload_n 0, 1) := by decide +kernel
theorem dL_law_345 : decode cL_law 345 = .ok (.iload_n 3, 1) := by decide +kernel
theorem dL_law_346 : decode cL_law 346 = .ok (.iconst 1, 1) := by decide +kernel
theorem dL_law_347 : decode cL_law 347 = .ok (.iadd, 1) := by decide +kernel
theorem dL_law_348 : decode cL_law 348 = .ok (.iaload, 1) := by decide +kernel
theorem dL_law_349 : decode cL_law 349 = .ok (.aload_n 0, 1) := by decide +kernel
theorem dL_law_350 : decode cL_law 350 = .ok (.iload_n 3, 1) := by decide +kernel
theorem dL_law_351 : decode cL_law 351 = .ok (.iconst 2, 1) := by decide +kernel
theorem dL_law_352 : decode cL_law 352 = .ok (.iadd, 1) := by decide +kernel
theorem dL_law_353 : decode cL_law 353 = .ok (.iaload, 1) := by decide +kernel
theorem dL_law_354 : decode cL_law 354 = .ok (.invokevirtual 50, 3) := by decide +kernel
theorem dL_law_357 : decode cL_law 357 = .ok (.aload_n 2, 1) := by decide +kernel
theorem dL_law_358 : decode cL_law 358 = .ok (.aload_n 0, 1) := by decide +kernel
theorem dL_law_359 : decode cL_law 359 = .ok (.iload_n 3, 1) := by decide +kernel
theorem dL_law_360 : decode cL_law 360 = .ok (.iconst 1, 1) := by decide +kernel
theorem dL_law_361 : decode cL_law 361 = .ok (.iadd, 1) := by decide +kernel
theorem dL_law_362 : decode cL_law 362 = .ok (.iaload, 1) := by decide +kernel
theorem dL_law_363 : decode cL_law 363 = .ok (.aload_n 0, 1) := by decide +kernel
theorem dL_law_364 : decode cL_law 364 = .ok (.iload_n 3, 1) := by decide +kernel
theorem dL_law_365 : decode cL_law 365 = .ok (.iconst 2, 1) := by decide +kernel
theorem dL_law_366 : decode cL_law 366 = .ok (.iadd, 1) := by decide +kernel
theorem dL_law_367 : decode cL_law 367 = .ok (.iaload, 1) := by decide +kernel
theorem dL_law_368 : decode cL_law 368 = .ok (.invokevirtual 53, 3) := by decide +kernel
theorem dL_law_371 : decode cL_law 371 = .ok (.if_icmp .eq 268, 3) := by decide +kernel
theorem dL_law_374 : decode cL_law 374 = .ok (.iconst 0, 1) := by decide +kernel
theorem dL_law_375 : decode cL_law 375 = .ok (.ireturn, 1) := by decide +kernel
theorem dL_law_376 : decode cL_law 376 = .ok (.aload_n 1, 1) := by decide +kernel
theorem dL_law_377 : decode cL_law 377 = .ok (.aload_n 0, 1) := by decide +kernel
theorem dL_law_378 : decode cL_law 378 = .ok (.iload_n 3, 1) := by decide +kernel
theorem dL_law_379 : decode cL_law 379 = .ok (.iconst 1, 1) := by decide +kernel
theorem dL_law_380 : decode cL_law 380 = .ok (.iadd, 1) := by decide +kernel
theorem dL_law_381 : decode cL_law 381 = .ok (.iaload, 1) := by decide +kernel
theorem dL_law_382 : decode cL_law 382 = .ok (.aload_n 0, 1) := by decide +kernel
theorem dL_law_383 : decode cL_law 383 = .ok (.iload_n 3, 1) := by decide +kernel
theorem dL_law_384 : decode cL_law 384 = .ok (.iconst 2, 1) := by decide +kernel
theorem dL_law_385 : decode cL_law 385 = .ok (.iadd, 1) := by decide +kernel
theorem dL_law_386 : decode cL_law 386 = .ok (.iaload, 1) := by decide +kernel
theorem dL_law_387 : decode cL_law 387 = .ok (.aload_n 0, 1) := by decide +kernel
theorem dL_law_388 : decode cL_law 388 = .ok (.iload_n 3, 1) := by decide +kernel
theorem dL_law_389 : decode cL_law 389 = .ok (.iconst 3, 1) := by decide +kernel
theorem dL_law_390 : decode cL_law 390 = .ok (.iadd, 1) := by decide +kernel
theorem dL_law_391 : decode cL_law 391 = .ok (.iaload, 1) := by decide +kernel
theorem dL_law_392 : decode cL_law 392 = .ok (.invokevirtual 54, 3) := by decide +kernel
theorem dL_law_395 : decode cL_law 395 = .ok (.aload_n 2, 1) := by decide +kernel
theorem dL_law_396 : decode cL_law 396 = .ok (.aload_n 0, 1) := by decide +kernel
theorem dL_law_397 : decode cL_law 397 = .ok (.iload_n 3, 1) := by decide +kernel
theorem dL_law_398 : decode cL_law 398 = .ok (.iconst 1, 1) := by decide +kernel
theorem dL_law_399 : decode cL_law 399 = .ok (.iadd, 1) := by decide +kernel
theorem dL_law_400 : decode cL_law 400 = .ok (.iaload, 1) := by decide +kernel
theorem dL_law_401 : decode cL_law 401 = .ok (.aload_n 0, 1) := by decide +kernel
theorem dL_law_402 : decode cL_law 402 = .ok (.iload_n 3, 1) := by decide +kernel
theorem dL_law_403 : decode cL_law 403 = .ok (.iconst 2, 1) := by decide +kernel
theorem dL_law_404 : decode cL_law 404 = .ok (.iadd, 1) := by decide +kernel
theorem dL_law_405 : decode cL_law 405 = .ok (.iaload, 1) := by decide +kernel
theorem dL_law_406 : decode cL_law 406 = .ok (.aload_n 0, 1) := by decide +kernel
theorem dL_law_407 : decode cL_law 407 = .ok (.iload_n 3, 1) := by decide +kernel
theorem dL_law_408 : decode cL_law 408 = .ok (.iconst 3, 1) := by decide +kernel
theorem dL_law_409 : decode cL_law 409 = .ok (.iadd, 1) := by decide +kernel
theorem dL_law_410 : decode cL_law 410 = .ok (.iaload, 1) := by decide +kernel
theorem dL_law_411 : decode cL_law 411 = .ok (.invokevirtual 58, 3) := by decide +kernel
theorem dL_law_414 : decode cL_law 414 = .ok (.if_icmp .eq 225, 3) := by decide +kernel
theorem dL_law_417 : decode cL_law 417 = .ok (.iconst 0, 1) := by decide +kernel
theorem dL_law_418 : decode cL_law 418 = .ok (.ireturn, 1) := by decide +kernel
theorem dL_law_419 : decode cL_law 419 = .ok (.aload_n 1, 1) := by decide +kernel
theorem dL_law_420 : decode cL_law 420 = .ok (.aload_n 0, 1) := by decide +kernel
theorem dL_law_421 : decode cL_law 421 = .ok (.iload_n 3, 1) := by decide +kernel
theorem dL_law_422 : decode cL_law 422 = .ok (.iconst 1, 1) := by decide +kernel
theorem dL_law_423 : decode cL_law 423 = .ok (.iadd, 1) := by decide +kernel
theorem dL_law_424 : decode cL_law 424 = .ok (.iaload, 1) := by decide +kernel
theorem dL_law_425 : decode cL_law 425 = .ok (.aload_n 0, 1) := by decide +kernel
theorem dL_law_426 : decode cL_law 426 = .ok (.iload_n 3, 1) := by decide +kernel
theorem dL_law_427 : decode cL_law 427 = .ok (.iconst 2, 1) := by decide +kernel
theorem dL_law_428 : decode cL_law 428 = .ok (.iadd, 1) := by decide +kernel
theorem dL_law_429 : decode cL_law 429 = .ok (.iaload, 1) := by decide +kernel
theorem dL_law_430 : decode cL_law 430 = .ok (.invokevirtual 59, 3) := by decide +kernel
theorem dL_law_433 : decode cL_law 433 = .ok (.aload_n 2, 1) := by decide +kernel
theorem dL_law_434 : decode cL_law 434 = .ok (.aload_n 0, 1) := by decide +kernel
theorem dL_law_435 : decode cL_law 435 = .ok (.iload_n 3, 1) := by decide +kernel
theorem dL_law_436 : decode cL_law 436 = .ok (.iconst 1, 1) := by decide +kernel
theorem dL_law_437 : decode cL_law 437 = .ok (.iadd, 1) := by decide +kernel
theorem dL_law_438 : decode cL_law 438 = .ok (.iaload, 1) := by decide +kernel
theorem dL_law_439 : decode cL_law 439 = .ok (.aload_n 0, 1) := by decide +kernel
theorem dL_law_440 : decode cL_law 440 = .ok (.iload_n 3, 1) := by decide +kernel
theorem dL_law_441 : decode cL_law 441 = .ok (.iconst 2, 1) := by decide +kernel
theorem dL_law_442 : decode cL_law 442 = .ok (.iadd, 1) := by decide +kernel
theorem dL_law_443 : decode cL_law 443 = .ok (.iaload, 1) := by decide +kernel
theorem dL_law_444 : decode cL_law 444 = .ok (.invokevirtual 62, 3) := by decide +kernel
theorem dL_law_447 : decode cL_law 447 = .ok (.if_icmp .eq 192, 3) := by decide +kernel
theorem dL_law_450 : decode cL_law 450 = .ok (.iconst 0, 1) := by decide +kernel
theorem dL_law_451 : decode cL_law 451 = .ok (.ireturn, 1) := by decide +kernel
theorem dL_law_452 : decode cL_law 452 = .ok (.aload_n 1, 1) := by decide +kernel
theorem dL_law_453 : decode cL_law 453 = .ok (.invokevirtual 63, 3) := by decide +kernel
theorem dL_law_456 : decode cL_law 456 = .ok (.aload_n 2, 1) := by decide +kernel
theorem dL_law_457 : decode cL_law 457 = .ok (.invokevirtual 66, 3) := by decide +kernel
theorem dL_law_460 : decode cL_law 460 = .ok (.if_icmp .eq 179, 3) := by decide +kernel
theorem dL_law_463 : decode cL_law 463 = .ok (.iconst 0, 1) := by decide +kernel
theorem dL_law_464 : decode cL_law 464 = .ok (.ireturn, 1) := by decide +kernel
theorem dL_law_465 : decode cL_law 465 = .ok (.aload_n 1, 1) := by decide +kernel
theorem dL_law_466 : decode cL_law 466 = .ok (.aload_n 0, 1) := by decide +kernel
theorem dL_law_467 : decode cL_law 467 = .ok (.iload_n 3, 1) := by decide +kernel
theorem dL_law_468 : decode cL_law 468 = .ok (.iconst 1, 1) := by decide +kernel
theorem dL_law_469 : decode cL_law 469 = .ok (.iadd, 1) := by decide +kernel
theorem dL_law_470 : decode cL_law 470 = .ok (.iaload, 1) := by decide +kernel
theorem dL_law_471 : decode cL_law 471 = .ok (.invokevirtual 67, 3) := by decide +kernel
theorem dL_law_474 : decode cL_law 474 = .ok (.aload_n 2, 1) := by decide +kernel
theorem dL_law_475 : decode cL_law 475 = .ok (.aload_n 0, 1) := by decide +kernel
theorem dL_law_476 : decode cL_law 476 = .ok (.iload_n 3, 1) := by decide +kernel
theorem dL_law_477 : decode cL_law 477 = .ok (.iconst 1, 1) := by decide +kernel
theorem dL_law_478 : decode cL_law 478 = .ok (.iadd, 1) := by decide +kernel
theorem dL_law_479 : decode cL_law 479 = .ok (.iaload, 1) := by decide +kernel
theorem dL_law_480 : decode cL_law 480 = .ok (.invokevirtual 70, 3) := by decide +kernel
theorem dL_law_483 : decode cL_law 483 = .ok (.if_icmp .eq 156, 3) := by decide +kernel
theorem dL_law_486 : decode cL_law 486 = .ok (.iconst 0, 1) := by decide +kernel
theorem dL_law_487 : decode cL_law 487 = .ok (.ireturn, 1) := by decide +kernel
theorem dL_law_488 : decode cL_law 488 = .ok (.aload_n 1, 1) := by decide +kernel
theorem dL_law_489 : decode cL_law 489 = .ok (.aload_n 0, 1) := by decide +kernel
theorem dL_law_490 : decode cL_law 490 = .ok (.iload_n 3, 1) := by decide +kernel
theorem dL_law_491 : decode cL_law 491 = .ok (.iconst 1, 1) := by decide +kernel
theorem dL_law_492 : decode cL_law 492 = .ok (.iadd, 1) := by decide +kernel
theorem dL_law_493 : decode cL_law 493 = .ok (.iaload, 1) := by decide +kernel
theorem dL_law_494 : decode cL_law 494 = .ok (.i2l, 1) := by decide +kernel
theorem dL_law_495 : decode cL_law 495 = .ok (.bipush 32, 2) := by decide +kernel
theorem dL_law_497 : decode cL_law 497 = .ok (.lshl, 1) := by decide +kernel
theorem dL_law_498 : decode cL_law 498 = .ok (.aload_n 0, 1) := by decide +kernel
theorem dL_law_499 : decode cL_law 499 = .ok (.iload_n 3, 1) := by decide +kernel
theorem dL_law_500 : decode cL_law 500 = .ok (.iconst 2, 1) := by decide +kernel
theorem dL_law_501 : decode cL_law 501 = .ok (.iadd, 1) := by decide +kernel
theorem dL_law_502 : decode cL_law 502 = .ok (.iaload, 1) := by decide +kernel
theorem dL_law_503 : decode cL_law 503 = .ok (.i2l, 1) := by decide +kernel
theorem dL_law_504 : decode cL_law 504 = .ok (.ldc2_w 71, 3) := by decide +kernel
theorem dL_law_507 : decode cL_law 507 = .ok (.land, 1) := by decide +kernel
theorem dL_law_508 : decode cL_law 508 = .ok (.lor, 1) := by decide +kernel
theorem dL_law_509 : decode cL_law 509 = .ok (.invokevirtual 73, 3) := by decide +kernel
theorem dL_law_512 : decode cL_law 512 = .ok (.aload_n 2, 1) := by decide +kernel
theorem dL_law_513 : decode cL_law 513 = .ok (.aload_n 0, 1) := by decide +kernel
theorem dL_law_514 : decode cL_law 514 = .ok (.iload_n 3, 1) := by decide +kernel
theorem dL_law_515 : decode cL_law 515 = .ok (.iconst 1, 1) := by decide +kernel
theorem dL_law_516 : decode cL_law 516 = .ok (.iadd, 1) := by decide +kernel
theorem dL_law_517 : decode cL_law 517 = .ok (.iaload, 1) := by decide +kernel
theorem dL_law_518 : decode cL_law 518 = .ok (.i2l, 1) := by decide +kernel
theorem dL_law_519 : decode cL_law 519 = .ok (.bipush 32, 2) := by decide +kernel
theorem dL_law_521 : decode cL_law 521 = .ok (.lshl, 1) := by decide +kernel
theorem dL_law_522 : decode cL_law 522 = .ok (.aload_n 0, 1) := by decide +kernel
theorem dL_law_523 : decode cL_law 523 = .ok (.iload_n 3, 1) := by decide +kernel
theorem dL_law_524 : decode cL_law 524 = .ok (.iconst 2, 1) := by decide +kernel
theorem dL_law_525 : decode cL_law 525 = .ok (.iadd, 1) := by decide +kernel
theorem dL_law_526 : decode cL_law 526 = .ok (.iaload, 1) := by decide +kernel
theorem dL_law_527 : decode cL_law 527 = .ok (.i2l, 1) := by decide +kernel
theorem dL_law_528 : decode cL_law 528 = .ok (.ldc2_w 71, 3) := by decide +kernel
theorem dL_law_531 : decode cL_law 531 = .ok (.land, 1) := by decide +kernel
theorem dL_law_532 : decode cL_law 532 = .ok (.lor, 1) := by decide +kernel
theorem dL_law_533 : decode cL_law 533 = .ok (.invokevirtual 77, 3) := by decide +kernel
theorem dL_law_536 : decode cL_law 536 = .ok (.if_icmp .eq 103, 3) := by decide +kernel
theorem dL_law_539 : decode cL_law 539 = .ok (.iconst 0, 1) := by decide +kernel
theorem dL_law_540 : decode cL_law 540 = .ok (.ireturn, 1) := by decide +kernel
theorem dL_law_541 : decode cL_law 541 = .ok (.aload_n 1, 1) := by decide +kernel
theorem dL_law_542 : decode cL_law 542 = .ok (.invokevirtual 78, 3) := by decide +kernel
theorem dL_law_545 : decode cL_law 545 = .ok (.aload_n 2, 1) := by decide +kernel
theorem dL_law_546 : decode cL_law 546 = .ok (.invokevirtual 81, 3) := by decide +kernel
theorem dL_law_549 : decode cL_law 549 = .ok (.if_icmp .eq 90, 3) := by decide +kernel
theorem dL_law_552 : decode cL_law 552 = .ok (.iconst 0, 1) := by decide +kernel
theorem dL_law_553 : decode cL_law 553 = .ok (.ireturn, 1) := by decide +kernel
theorem dL_law_554 : decode cL_law 554 = .ok (.aload_n 1, 1) := by decide +kernel
theorem dL_law_555 : decode cL_law 555 = .ok (.invokevirtual 82, 3) := by decide +kernel
theorem dL_law_558 : decode cL_law 558 = .ok (.aload_n 2, 1) := by decide +kernel
theorem dL_law_559 : decode cL_law 559 = .ok (.invokevirtual 85, 3) := by decide +kernel
theorem dL_law_562 : decode cL_law 562 = .ok (.if_icmp .eq 77, 3) := by decide +kernel
theorem dL_law_565 : decode cL_law 565 = .ok (.iconst 0, 1) := by decide +kernel
theorem dL_law_566 : decode cL_law 566 = .ok (.ireturn, 1) := by decide +kernel
theorem dL_law_567 : decode cL_law 567 = .ok (.aload_n 1, 1) := by decide +kernel
theorem dL_law_568 : decode cL_law 568 = .ok (.invokevirtual 86, 3) := by decide +kernel
theorem dL_law_571 : decode cL_law 571 = .ok (.aload_n 2, 1) := by decide +kernel
theorem dL_law_572 : decode cL_law 572 = .ok (.invokevirtual 89, 3) := by decide +kernel
theorem dL_law_575 : decode cL_law 575 = .ok (.if_icmp .eq 64, 3) := by decide +kernel
theorem dL_law_578 : decode cL_law 578 = .ok (.iconst 0, 1) := by decide +kernel
theorem dL_law_579 : decode cL_law 579 = .ok (.ireturn, 1) := by decide +kernel
theorem dL_law_580 : decode cL_law 580 = .ok (.aload_n 1, 1) := by decide +kernel
theorem dL_law_581 : decode cL_law 581 = .ok (.invokevirtual 90, 3) := by decide +kernel
theorem dL_law_584 : decode cL_law 584 = .ok (.aload_n 2, 1) := by decide +kernel
theorem dL_law_585 : decode cL_law 585 = .ok (.invokevirtual 93, 3) := by decide +kernel
theorem dL_law_588 : decode cL_law 588 = .ok (.if_icmp .eq 51, 3) := by decide +kernel
theorem dL_law_591 : decode cL_law 591 = .ok (.iconst 0, 1) := by decide +kernel
theorem dL_law_592 : decode cL_law 592 = .ok (.ireturn, 1) := by decide +kernel
theorem dL_law_593 : decode cL_law 593 = .ok (.aload_n 1, 1) := by decide +kernel
theorem dL_law_594 : decode cL_law 594 = .ok (.aload_n 0, 1) := by decide +kernel
theorem dL_law_595 : decode cL_law 595 = .ok (.iload_n 3, 1) := by decide +kernel
theorem dL_law_596 : decode cL_law 596 = .ok (.iconst 1, 1) := by decide +kernel
theorem dL_law_597 : decode cL_law 597 = .ok (.iadd, 1) := by decide +kernel
theorem dL_law_598 : decode cL_law 598 = .ok (.iaload, 1) := by decide +kernel
theorem dL_law_599 : decode cL_law 599 = .ok (.invokevirtual 94, 3) := by decide +kernel
theorem dL_law_602 : decode cL_law 602 = .ok (.aload_n 2, 1) := by decide +kernel
theorem dL_law_603 : decode cL_law 603 = .ok (.aload_n 0, 1) := by decide +kernel
theorem dL_law_604 : decode cL_law 604 = .ok (.iload_n 3, 1) := by decide +kernel
theorem dL_law_605 : decode cL_law 605 = .ok (.iconst 1, 1) := by decide +kernel
theorem dL_law_606 : decode cL_law 606 = .ok (.iadd, 1) := by decide +kernel
theorem dL_law_607 : decode cL_law 607 = .ok (.iaload, 1) := by decide +kernel
theorem dL_law_608 : decode cL_law 608 = .ok (.invokevirtual 97, 3) := by decide +kernel
theorem dL_law_611 : decode cL_law 611 = .ok (.if_icmp .eq 28, 3) := by decide +kernel
theorem dL_law_614 : decode cL_law 614 = .ok (.iconst 0, 1) := by decide +kernel
theorem dL_law_615 : decode cL_law 615 = .ok (.ireturn, 1) := by decide +kernel
theorem dL_law_616 : decode cL_law 616 = .ok (.aload_n 1, 1) := by decide +kernel
theorem dL_law_617 : decode cL_law 617 = .ok (.aload_n 0, 1) := by decide +kernel
theorem dL_law_618 : decode cL_law 618 = .ok (.iload_n 3, 1) := by decide +kernel
theorem dL_law_619 : decode cL_law 619 = .ok (.iconst 1, 1) := by decide +kernel
theorem dL_law_620 : decode cL_law 620 = .ok (.iadd, 1) := by decide +kernel
theorem dL_law_621 : decode cL_law 621 = .ok (.iaload, 1) := by decide +kernel
theorem dL_law_622 : decode cL_law 622 = .ok (.invokevirtual 98, 3) := by decide +kernel
theorem dL_law_625 : decode cL_law 625 = .ok (.aload_n 2, 1) := by decide +kernel
theorem dL_law_626 : decode cL_law 626 = .ok (.aload_n 0, 1) := by decide +kernel
theorem dL_law_627 : decode cL_law 627 = .ok (.iload_n 3, 1) := by decide +kernel
theorem dL_law_628 : decode cL_law 628 = .ok (.iconst 1, 1) := by decide +kernel
theorem dL_law_629 : decode cL_law 629 = .ok (.iadd, 1) := by decide +kernel
theorem dL_law_630 : decode cL_law 630 = .ok (.iaload, 1) := by decide +kernel
theorem dL_law_631 : decode cL_law 631 = .ok (.invokevirtual 101, 3) := by decide +kernel
theorem dL_law_634 : decode cL_law 634 = .ok (.if_icmp .eq 5, 3) := by decide +kernel
theorem dL_law_637 : decode cL_law 637 = .ok (.iconst 0, 1) := by decide +kernel
theorem dL_law_638 : decode cL_law 638 = .ok (.ireturn, 1) := by decide +kernel
theorem dL_law_639 : decode cL_law 639 = .ok (.iinc 3 5, 3) := by decide +kernel
theorem dL_law_642 : decode cL_law 642 = .ok (.goto (-624), 3) := by decide +kernel
theorem dL_law_645 : decode cL_law 645 = .ok (.iconst 1, 1) := by decide +kernel
theorem dL_law_646 : decode cL_law 646 = .ok (.ireturn, 1) := by decide +kernel
abbrev vwCl : List vw_C := [(RX0, TX0, 7), (RX1, TX1, 2), (RX2, TX2, 2), (RX3, TX3, 2), (RX4, TX4, 2), (RX5, TX5, 8), (RX6, TX6, 2), (RX7, TX7, 6), (RX8, TX8, 14)]
