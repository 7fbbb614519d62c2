theorem inlX0 : ∀ w ∈ wsX00, w ∈ wsL_law := fun _ h => List.mem_append_left _ (List.mem_append_left _ (List.mem_append_left _ (List.mem_append_left _ (List.mem_append_left _ (List.mem_append_left _ (List.mem_append_left _ (List.mem_append_right _ h)))))))
theorem inX0 : ∀ w ∈ wsX00, w ∈ lw_tbl := fun w h => wsL_law_in w (inlX0 w h)
theorem inlX1 : ∀ w ∈ wsX10, w ∈ wsL_law := fun _ h => List.mem_append_left _ (List.mem_append_left _ (List.mem_append_left _ (List.mem_append_right _ h)))
theorem inX1 : ∀ w ∈ wsX10, w ∈ lw_tbl := fun w h => wsL_law_in w (inlX1 w h)
theorem inlX2 : ∀ w ∈ wsX20, w ∈ wsL_law := fun _ h => List.mem_append_left _ (List.mem_append_left _ (List.mem_append_left _ (List.mem_append_left _ (List.mem_append_left _ (List.mem_append_left _ (List.mem_append_right _ h))))))
theorem inX2 : ∀ w ∈ wsX20, w ∈ lw_tbl := fun w h => wsL_law_in w (inlX2 w h)
theorem inlX3 : ∀ w ∈ wsX30, w ∈ wsL_law := fun _ h => List.mem_append_left _ (List.mem_append_left _ (List.mem_append_right _ h))
theorem inX3 : ∀ w ∈ wsX30, w ∈ lw_tbl := fun w h => wsL_law_in w (inlX3 w h)
theorem inlX4 : ∀ w ∈ wsX40, w ∈ wsL_law := fun _ h => List.mem_append_left _ (List.mem_append_right _ h)
theorem inX4 : ∀ w ∈ wsX40, w ∈ lw_tbl := fun w h => wsL_law_in w (inlX4 w h)
theorem inlX5 : ∀ w ∈ wsX50, w ∈ wsL_law := fun _ h => List.mem_append_left _ (List.mem_append_left _ (List.mem_append_left _ (List.mem_append_left _ (List.mem_append_right _ h))))
theorem inX5 : ∀ w ∈ wsX50, w ∈ lw_tbl := fun w h => wsL_law_in w (inlX5 w h)
theorem inlX6 : ∀ w ∈ wsX60, w ∈ wsL_law := fun _ h => List.mem_append_left _ (List.mem_append_left _ (List.mem_append_left _ (List.mem_append_left _ (List.mem_append_left _ (List.mem_append_right _ h)))))
theorem inX6 : ∀ w ∈ wsX60, w ∈ lw_tbl := fun w h => wsL_law_in w (inlX6 w h)
theorem inlX7 : ∀ w ∈ wsX70, w ∈ wsL_law := fun _ h => List.mem_append_left _ (List.mem_append_left _ (List.mem_append_left _ (List.mem_append_left _ (List.mem_append_left _ (List.mem_append_left _ (List.mem_append_left _ (List.mem_append_left _ (List.mem_append_right _ h))))))))
theorem inX7 : ∀ w ∈ wsX70, w ∈ lw_tbl := fun w h => wsL_law_in w (inlX7 w h)
theorem inX8 : ∀ w ∈ wsX80, w ∈ lw_tbl := by decide +kernel
theorem inJ9 : ∀ w ∈ wsJ90, w ∈ lw_tbl := by decide +kernel
theorem inJ10 : ∀ w ∈ wsJ100, w ∈ lw_tbl := by decide +kernel
set_option maxRecDepth 20000 in
theorem ggX0_init_X1_init : GoodIn wsX0_init wsX1_init := goodIn_r _ [15, 16, 2, 3] (by decide +kernel) (by decide +kernel)
set_option maxRecDepth 20000 in
theorem gX0_init_X1_init_n17 : GoodIn wsX0_init (wsX1_init) := ggX0_init_X1_init
set_option maxRecDepth 20000 in
theorem ggX0_init_X3_init : GoodIn wsX0_init wsX3_init := goodIn_r _ [18, 19, 2, 3, 4, 20, 30, 31] (by decide +kernel) (by decide +kernel)
set_option maxRecDepth 20000 in
theorem gX0_init_X3_init_n24 : GoodIn wsX0_init (wsX3_init) := ggX0_init_X3_init
theorem dX0_init_0 : decode cX0_init 0 = .ok (.aload_n 0, 1) := by decide +kernel
theorem dX0_init_1 : decode cX0_init 1 = .ok (.invokespecial 3, 3) := by decide +kernel
theorem dX0_init_4 : decode cX0_init 4 = .ok (.aload_n 0, 1) := by decide +kernel
theorem dX0_init_5 : decode cX0_init 5 = .ok (.iconst 4, 1) := by decide +kernel
theorem dX0_init_6 : decode cX0_init 6 = .ok (.newarray .int, 2) := by decide +kernel
theorem dX0_init_8 : decode cX0_init 8 = .ok (.dup, 1) := by decide +kernel
theorem dX0_init_9 : decode cX0_init 9 = .ok (.iconst 0, 1) := by decide +kernel
theorem dX0_init_10 : decode cX0_init 10 = .ok (.bipush 12, 2) := by decide +kernel
theorem dX0_init_12 : decode cX0_init 12 = .ok (.iastore, 1) := by decide +kernel
theorem dX0_init_13 : decode cX0_init 13 = .ok (.dup, 1) := by decide +kernel
theorem dX0_init_14 : decode cX0_init 14 = .ok (.iconst 1, 1) := by decide +kernel
theorem dX0_init_15 : decode cX0_init 15 = .ok (.bipush 15, 2) := by decide +kernel
theorem dX0_init_17 : decode cX0_init 17 = .ok (.iastore, 1) := by decide +kernel
theorem dX0_init_18 : decode cX0_init 18 = .ok (.dup, 1) := by decide +kernel
theorem dX0_init_19 : decode cX0_init 19 = .ok (.iconst 2, 1) := by decide +kernel
theorem dX0_init_20 : decode cX0_init 20 = .ok (.iconst 0, 1) := by decide +kernel
theorem dX0_init_21 : decode cX0_init 21 = .ok (.iastore, 1) := by decide +kernel
theorem dX0_init_22 : decode cX0_init 22 = .ok (.dup, 1) := by decide +kernel
theorem dX0_init_23 : decode cX0_init 23 = .ok (.iconst 3, 1) := by decide +kernel
theorem dX0_init_24 : decode cX0_init 24 = .ok (.sipush 500, 3) := by decide +kernel
theorem dX0_init_27 : decode cX0_init 27 = .ok (.iastore, 1) := by decide +kernel
theorem dX0_init_28 : decode cX0_init 28 = .ok (.putfield 9, 3) := by decide +kernel
theorem dX0_init_31 : decode cX0_init 31 = .ok (.aload_n 0, 1) := by decide +kernel
theorem dX0_init_32 : decode cX0_init 32 = .ok (.new 15, 3) := by decide +kernel
theorem dX0_init_35 : decode cX0_init 35 = .ok (.dup, 1) := by decide +kernel
theorem dX0_init_36 : decode cX0_init 36 = .ok (.invokespecial 17, 3) := by decide +kernel
theorem dX0_init_39 : decode cX0_init 39 = .ok (.putfield 18, 3) := by decide +kernel
theorem dX0_init_42 : decode cX0_init 42 = .ok (.aload_n 0, 1) := by decide +kernel
theorem dX0_init_43 : decode cX0_init 43 = .ok (.new 22, 3) := by decide +kernel
theorem dX0_init_46 : decode cX0_init 46 = .ok (.dup, 1) := by decide +kernel
theorem dX0_init_47 : decode cX0_init 47 = .ok (.invokespecial 24, 3) := by decide +kernel
theorem dX0_init_50 : decode cX0_init 50 = .ok (.putfield 25, 3) := by decide +kernel
theorem dX0_init_53 : decode cX0_init 53 = .ok (.return_, 1) := by decide +kernel
set_option maxRecDepth 20000 in
theorem ggX0_become_X1_become : GoodIn wsX0_become wsX1_become := goodIn_r _ [16, 17, 18, 34, 35] (by decide +kernel) (by decide +kernel)
set_option maxRecDepth 20000 in
theorem gX0_become_X1_become : GoodIn wsX0_become (wsV RX0 35 RX1 yX1_become wsX1_become) := goodIn_app (goodIn_of _ (by decide +kernel)) ggX0_become_X1_become
set_option maxRecDepth 20000 in
theorem ggX0_become_X3_become : GoodIn wsX0_become wsX3_become := goodIn_r _ [23, 24, 25, 3, 4, 5, 26, 36, 37] (by decide +kernel) (by decide +kernel)
set_option maxRecDepth 20000 in
theorem gX0_become_X3_become : GoodIn wsX0_become (wsV RX0 39 RX3 yX3_become wsX3_become) := goodIn_app (goodIn_of _ (by decide +kernel)) ggX0_become_X3_become
theorem dX0_become_0 : decode cX0_become 0 = .ok (.aload_n 1, 1) := by decide +kernel
theorem dX0_become_1 : decode cX0_become 1 = .ok (.getfield 9, 3) := by decide +kernel
theorem dX0_become_4 : decode cX0_become 4 = .ok (.iconst 0, 1) := by decide +kernel
theorem dX0_become_5 : decode cX0_become 5 = .ok (.aload_n 0, 1) := by decide +kernel
theorem dX0_become_6 : decode cX0_become 6 = .ok (.getfield 9, 3) := by decide +kernel
theorem dX0_become_9 : decode cX0_become 9 = .ok (.iconst 0, 1) := by decide +kernel
theorem dX0_become_10 : decode cX0_become 10 = .ok (.aload_n 0, 1) := by decide +kernel
theorem dX0_become_11 : decode cX0_become 11 = .ok (.getfield 9, 3) := by decide +kernel
theorem dX0_become_14 : decode cX0_become 14 = .ok (.arraylength, 1) := by decide +kernel
theorem dX0_become_15 : decode cX0_become 15 = .ok (.invokestatic 29, 3) := by decide +kernel
theorem dX0_become_18 : decode cX0_become 18 = .ok (.aload_n 0, 1) := by decide +kernel
theorem dX0_become_19 : decode cX0_become 19 = .ok (.getfield 18, 3) := by decide +kernel
theorem dX0_become_22 : decode cX0_become 22 = .ok (.aload_n 1, 1) := by decide +kernel
theorem dX0_become_23 : decode cX0_become 23 = .ok (.getfield 18, 3) := by decide +kernel
theorem dX0_become_26 : decode cX0_become 26 = .ok (.invokevirtual 35, 3) := by decide +kernel
theorem dX0_become_29 : decode cX0_become 29 = .ok (.aload_n 0, 1) := by decide +kernel
theorem dX0_become_30 : decode cX0_become 30 = .ok (.getfield 25, 3) := by decide +kernel
theorem dX0_become_33 : decode cX0_become 33 = .ok (.aload_n 1, 1) := by decide +kernel
theorem dX0_become_34 : decode cX0_become 34 = .ok (.getfield 25, 3) := by decide +kernel
theorem dX0_become_37 : decode cX0_become 37 = .ok (.invokevirtual 39, 3) := by decide +kernel
theorem dX0_become_40 : decode cX0_become 40 = .ok (.aload_n 0, 1) := by decide +kernel
theorem dX0_become_41 : decode cX0_become 41 = .ok (.aload_n 1, 1) := by decide +kernel
theorem dX0_become_42 : decode cX0_become 42 = .ok (.getfield 42, 3) := by decide +kernel
theorem dX0_become_45 : decode cX0_become 45 = .ok (.putfield 42, 3) := by decide +kernel
theorem dX0_become_48 : decode cX0_become 48 = .ok (.aload_n 0, 1) := by decide +kernel
theorem dX0_become_49 : decode cX0_become 49 = .ok (.aload_n 1, 1) := by decide +kernel
theorem dX0_become_50 : decode cX0_become 50 = .ok (.getfield 46, 3) := by decide +kernel
theorem dX0_become_53 : decode cX0_become 53 = .ok (.putfield 46, 3) := by decide +kernel
theorem dX0_become_56 : decode cX0_become 56 = .ok (.aload_n 0, 1) := by decide +kernel
theorem dX0_become_57 : decode cX0_become 57 = .ok (.aload_n 1, 1) := by decide +kernel
theorem dX0_become_58 : decode cX0_become 58 = .ok (.getfield 49, 3) := by decide +kernel
theorem dX0_become_61 : decode cX0_become 61 = .ok (.putfield 49, 3) := by decide +kernel
theorem dX0_become_64 : decode cX0_become 64 = .ok (.aload_n 0, 1) := by decide +kernel
theorem dX0_become_65 : decode cX0_become 65 = .ok (.aload_n 1, 1) := by decide +kernel
theorem dX0_become_66 : decode cX0_become 66 = .ok (.getfield 52, 3) := by decide +kernel
theorem dX0_become_69 : decode cX0_become 69 = .ok (.putfield 52, 3) := by decide +kernel
theorem dX0_become_72 : decode cX0_become 72 = .ok (.return_, 1) := by decide +kernel
theorem dX0_setting_0 : decode cX0_setting 0 = .ok (.iload_n 1, 1) := by decide +kernel
theorem dX0_setting_1 : decode cX0_setting 1 = .ok (.ifCond .lt 21, 3) := by decide +kernel
theorem dX0_setting_4 : decode cX0_setting 4 = .ok (.iload_n 1, 1) := by decide +kernel
theorem dX0_setting_5 : decode cX0_setting 5 = .ok (.aload_n 0, 1) := by decide +kernel
theorem dX0_setting_6 : decode cX0_setting 6 = .ok (.getfield 9, 3) := by decide +kernel
theorem dX0_setting_9 : decode cX0_setting 9 = .ok (.arraylength, 1) := by decide +kernel
theorem dX0_setting_10 : decode cX0_setting 10 = .ok (.if_icmp .ge 12, 3) := by decide +kernel
theorem dX0_setting_13 : decode cX0_setting 13 = .ok (.aload_n 0, 1) := by decide +kernel
theorem dX0_setting_14 : decode cX0_setting 14 = .ok (.getfield 9, 3) := by decide +kernel
theorem dX0_setting_17 : decode cX0_setting 17 = .ok (.iload_n 1, 1) := by decide +kernel
theorem dX0_setting_18 : decode cX0_setting 18 = .ok (.iaload, 1) := by decide +kernel
theorem dX0_setting_19 : decode cX0_setting 19 = .ok (.goto 4, 3) := by decide +kernel
theorem dX0_setting_22 : decode cX0_setting 22 = .ok (.iconst 0, 1) := by decide +kernel
theorem dX0_setting_23 : decode cX0_setting 23 = .ok (.ireturn, 1) := by decide +kernel
theorem dX0_errorOfSetting_0 : decode cX0_errorOfSetting 0 = .ok (.iload_n 1, 1) := by decide +kernel
theorem dX0_errorOfSetting_1 : decode cX0_errorOfSetting 1 = .ok (.ifCond .lt 8, 3) := by decide +kernel
theorem dX0_errorOfSetting_4 : decode cX0_errorOfSetting 4 = .ok (.iload_n 1, 1) := by decide +kernel
theorem dX0_errorOfSetting_5 : decode cX0_errorOfSetting 5 = .ok (.iconst 4, 1) := by decide +kernel
theorem dX0_errorOfSetting_6 : decode cX0_errorOfSetting 6 = .ok (.if_icmp .lt 6, 3) := by decide +kernel
theorem dX0_errorOfSetting_9 : decode cX0_errorOfSetting 9 = .ok (.bipush (-2), 2) := by decide +kernel
theorem dX0_errorOfSetting_11 : decode cX0_errorOfSetting 11 = .ok (.ireturn, 1) := by decide +kernel
theorem dX0_errorOfSetting_12 : decode cX0_errorOfSetting 12 = .ok (.iload_n 2, 1) := by decide +kernel
theorem dX0_errorOfSetting_13 : decode cX0_errorOfSetting 13 = .ok (.getstatic 55, 3) := by decide +kernel
theorem dX0_errorOfSetting_16 : decode cX0_errorOfSetting 16 = .ok (.iload_n 1, 1) := by decide +kernel
theorem dX0_errorOfSetting_17 : decode cX0_errorOfSetting 17 = .ok (.iaload, 1) := by decide +kernel
theorem dX0_errorOfSetting_18 : decode cX0_errorOfSetting 18 = .ok (.if_icmp .lt 12, 3) := by decide +kernel
theorem dX0_errorOfSetting_21 : decode cX0_errorOfSetting 21 = .ok (.iload_n 2, 1) := by decide +kernel
theorem dX0_errorOfSetting_22 : decode cX0_errorOfSetting 22 = .ok (.getstatic 58, 3) := by decide +kernel
theorem dX0_errorOfSetting_25 : decode cX0_errorOfSetting 25 = .ok (.iload_n 1, 1) := by decide +kernel
theorem dX0_errorOfSetting_26 : decode cX0_errorOfSetting 26 = .ok (.iaload, 1) := by decide +kernel
theorem dX0_errorOfSetting_27 : decode cX0_errorOfSetting 27 = .ok (.if_icmp .le 8, 3) := by decide +kernel
theorem dX0_errorOfSetting_30 : decode cX0_errorOfSetting 30 = .ok (.bipush (-2), 2) := by decide +kernel
theorem dX0_errorOfSetting_32 : decode cX0_errorOfSetting 32 = .ok (.goto 4, 3) := by decide +kernel
theorem dX0_errorOfSetting_35 : decode cX0_errorOfSetting 35 = .ok (.iconst 0, 1) := by decide +kernel
theorem dX0_errorOfSetting_36 : decode cX0_errorOfSetting 36 = .ok (.ireturn, 1) := by decide +kernel
set_option maxRecDepth 20000 in
theorem ggX0_changeSetting_X0_setting : GoodIn wsX0_changeSetting wsX0_setting := goodIn_r _ [6, 1, 7, 8, 9, 10, 11, 12, 13] (by decide +kernel) (by decide +kernel)
set_option maxRecDepth 20000 in
theorem gX0_changeSetting_X0_setting : GoodIn wsX0_changeSetting (wsV RX0 61 RX0 yX0_setting wsX0_setting) := goodIn_app (goodIn_of _ (by decide +kernel)) ggX0_changeSetting_X0_setting
theorem dX0_changeSetting_0 : decode cX0_changeSetting 0 = .ok (.aload_n 0, 1) := by decide +kernel
theorem dX0_changeSetting_1 : decode cX0_changeSetting 1 = .ok (.iload_n 1, 1) := by decide +kernel
theorem dX0_changeSetting_2 : decode cX0_changeSetting 2 = .ok (.invokevirtual 61, 3) := by decide +kernel
theorem dX0_changeSetting_5 : decode cX0_changeSetting 5 = .ok (.istore_n 3, 1) := by decide +kernel
theorem dX0_changeSetting_6 : decode cX0_changeSetting 6 = .ok (.iload_n 1, 1) := by decide +kernel
theorem dX0_changeSetting_7 : decode cX0_changeSetting 7 = .ok (.ifCond .lt 19, 3) := by decide +kernel
theorem dX0_changeSetting_10 : decode cX0_changeSetting 10 = .ok (.iload_n 1, 1) := by decide +kernel
theorem dX0_changeSetting_11 : decode cX0_changeSetting 11 = .ok (.aload_n 0, 1) := by decide +kernel
theorem dX0_changeSetting_12 : decode cX0_changeSetting 12 = .ok (.getfield 9, 3) := by decide +kernel
theorem dX0_changeSetting_15 : decode cX0_changeSetting 15 = .ok (.arraylength, 1) := by decide +kernel
theorem dX0_changeSetting_16 : decode cX0_changeSetting 16 = .ok (.if_icmp .ge 10, 3) := by decide +kernel
theorem dX0_changeSetting_19 : decode cX0_changeSetting 19 = .ok (.aload_n 0, 1) := by decide +kernel
theorem dX0_changeSetting_20 : decode cX0_changeSetting 20 = .ok (.getfield 9, 3) := by decide +kernel
theorem dX0_changeSetting_23 : decode cX0_changeSetting 23 = .ok (.iload_n 1, 1) := by decide +kernel
theorem dX0_changeSetting_24 : decode cX0_changeSetting 24 = .ok (.iload_n 2, 1) := by decide +kernel
theorem dX0_changeSetting_25 : decode cX0_changeSetting 25 = .ok (.iastore, 1) := by decide +kernel
theorem dX0_changeSetting_26 : decode cX0_changeSetting 26 = .ok (.iload_n 3, 1) := by decide +kernel
theorem dX0_changeSetting_27 : decode cX0_changeSetting 27 = .ok (.ireturn, 1) := by decide +kernel
theorem dX0_errorOfWeight_0 : decode cX0_errorOfWeight 0 = .ok (.iload_n 1, 1) := by decide +kernel
theorem dX0_errorOfWeight_1 : decode cX0_errorOfWeight 1 = .ok (.ifCond .lt 9, 3) := by decide +kernel
theorem dX0_errorOfWeight_4 : decode cX0_errorOfWeight 4 = .ok (.iload_n 1, 1) := by decide +kernel
theorem dX0_errorOfWeight_5 : decode cX0_errorOfWeight 5 = .ok (.bipush 8, 2) := by decide +kernel
theorem dX0_errorOfWeight_7 : decode cX0_errorOfWeight 7 = .ok (.if_icmp .lt 7, 3) := by decide +kernel
theorem dX0_errorOfWeight_10 : decode cX0_errorOfWeight 10 = .ok (.iconst (-1), 1) := by decide +kernel
theorem dX0_errorOfWeight_11 : decode cX0_errorOfWeight 11 = .ok (.goto 4, 3) := by decide +kernel
theorem dX0_errorOfWeight_14 : decode cX0_errorOfWeight 14 = .ok (.iconst 0, 1) := by decide +kernel
theorem dX0_errorOfWeight_15 : decode cX0_errorOfWeight 15 = .ok (.ireturn, 1) := by decide +kernel
theorem dX0_moveWeight_0 : decode cX0_moveWeight 0 = .ok (.aload_n 0, 1) := by decide +kernel
theorem dX0_moveWeight_1 : decode cX0_moveWeight 1 = .ok (.dup, 1) := by decide +kernel
theorem dX0_moveWeight_2 : decode cX0_moveWeight 2 = .ok (.getfield 42, 3) := by decide +kernel
theorem dX0_moveWeight_5 : decode cX0_moveWeight 5 = .ok (.iconst 1, 1) := by decide +kernel
theorem dX0_moveWeight_6 : decode cX0_moveWeight 6 = .ok (.iload_n 1, 1) := by decide +kernel
theorem dX0_moveWeight_7 : decode cX0_moveWeight 7 = .ok (.ishl, 1) := by decide +kernel
theorem dX0_moveWeight_8 : decode cX0_moveWeight 8 = .ok (.ixor, 1) := by decide +kernel
theorem dX0_moveWeight_9 : decode cX0_moveWeight 9 = .ok (.putfield 42, 3) := by decide +kernel
theorem dX0_moveWeight_12 : decode cX0_moveWeight 12 = .ok (.aload_n 0, 1) := by decide +kernel
theorem dX0_moveWeight_13 : decode cX0_moveWeight 13 = .ok (.getfield 42, 3) := by decide +kernel
theorem dX0_moveWeight_16 : decode cX0_moveWeight 16 = .ok (.iload_n 1, 1) := by decide +kernel
theorem dX0_moveWeight_17 : decode cX0_moveWeight 17 = .ok (.ishr, 1) := by decide +kernel
theorem dX0_moveWeight_18 : decode cX0_moveWeight 18 = .ok (.iconst 1, 1) := by decide +kernel
theorem dX0_moveWeight_19 : decode cX0_moveWeight 19 = .ok (.iand, 1) := by decide +kernel
theorem dX0_moveWeight_20 : decode cX0_moveWeight 20 = .ok (.ireturn, 1) := by decide +kernel
set_option maxRecDepth 20000 in
theorem ggX0_bareRateIn_X0_setting : GoodIn wsX0_bareRateIn wsX0_setting := goodIn_r _ [5, 6, 7, 8, 9, 10, 11, 12, 13] (by decide +kernel) (by decide +kernel)
set_option maxRecDepth 20000 in
theorem gX0_bareRateIn_X0_setting : GoodIn wsX0_bareRateIn (wsV RX0 61 RX0 yX0_setting wsX0_setting) := goodIn_app (goodIn_of _ (by decide +kernel)) ggX0_bareRateIn_X0_setting
theorem dX0_bareRateIn_0 : decode cX0_bareRateIn 0 = .ok (.aload_n 0, 1) := by decide +kernel
theorem dX0_bareRateIn_1 : decode cX0_bareRateIn 1 = .ok (.iconst 2, 1) := by decide +kernel
theorem dX0_bareRateIn_2 : decode cX0_bareRateIn 2 = .ok (.invokevirtual 61, 3) := by decide +kernel
theorem dX0_bareRateIn_5 : decode cX0_bareRateIn 5 = .ok (.aload_n 0, 1) := by decide +kernel
theorem dX0_bareRateIn_6 : decode cX0_bareRateIn 6 = .ok (.iconst 0, 1) := by decide +kernel
theorem dX0_bareRateIn_7 : decode cX0_bareRateIn 7 = .ok (.invokevirtual 61, 3) := by decide +kernel
theorem dX0_bareRateIn_10 : decode cX0_bareRateIn 10 = .ok (.iload_n 1, 1) := by decide +kernel
theorem dX0_bareRateIn_11 : decode cX0_bareRateIn 11 = .ok (.bipush 20, 2) := by decide +kernel
theorem dX0_bareRateIn_13 : decode cX0_bareRateIn 13 = .ok (.isub, 1) := by decide +kernel
theorem dX0_bareRateIn_14 : decode cX0_bareRateIn 14 = .ok (.imul, 1) := by decide +kernel
theorem dX0_bareRateIn_15 : decode cX0_bareRateIn 15 = .ok (.isub, 1) := by decide +kernel
theorem dX0_bareRateIn_16 : decode cX0_bareRateIn 16 = .ok (.aload_n 0, 1) := by decide +kernel
theorem dX0_bareRateIn_17 : decode cX0_bareRateIn 17 = .ok (.iconst 1, 1) := by decide +kernel
theorem dX0_bareRateIn_18 : decode cX0_bareRateIn 18 = .ok (.invokevirtual 61, 3) := by decide +kernel
theorem dX0_bareRateIn_21 : decode cX0_bareRateIn 21 = .ok (.iload_n 2, 1) := by decide +kernel
theorem dX0_bareRateIn_22 : decode cX0_bareRateIn 22 = .ok (.sipush 1000, 3) := by decide +kernel
theorem dX0_bareRateIn_25 : decode cX0_bareRateIn 25 = .ok (.isub, 1) := by decide +kernel
theorem dX0_bareRateIn_26 : decode cX0_bareRateIn 26 = .ok (.imul, 1) := by decide +kernel
theorem dX0_bareRateIn_27 : decode cX0_bareRateIn 27 = .ok (.bipush 10, 2) := by decide +kernel
theorem dX0_bareRateIn_29 : decode cX0_bareRateIn 29 = .ok (.idiv, 1) := by decide +kernel
theorem dX0_bareRateIn_30 : decode cX0_bareRateIn 30 = .ok (.isub, 1) := by decide +kernel
theorem dX0_bareRateIn_31 : decode cX0_bareRateIn 31 = .ok (.ireturn, 1) := by decide +kernel
set_option maxRecDepth 20000 in
theorem ggX0_rateIn_X0_bareRateIn : GoodIn wsX0_rateIn wsX0_bareRateIn := goodIn_r _ [6, 7, 8, 9, 5, 10, 11, 12, 13, 14, 15, 16, 17, 18] (by decide +kernel) (by decide +kernel)
set_option maxRecDepth 20000 in
theorem gX0_rateIn_X0_bareRateIn : GoodIn wsX0_rateIn (wsV RX0 65 RX0 yX0_bareRateIn wsX0_bareRateIn) := goodIn_app (goodIn_of _ (by decide +kernel)) ggX0_rateIn_X0_bareRateIn
theorem dX0_rateIn_0 : decode cX0_rateIn 0 = .ok (.aload_n 0, 1) := by decide +kernel
theorem dX0_rateIn_1 : decode cX0_rateIn 1 = .ok (.iload_n 1, 1) := by decide +kernel
theorem dX0_rateIn_2 : decode cX0_rateIn 2 = .ok (.iload_n 2, 1) := by decide +kernel
theorem dX0_rateIn_3 : decode cX0_rateIn 3 = .ok (.invokevirtual 65, 3) := by decide +kernel
theorem dX0_rateIn_6 : decode cX0_rateIn 6 = .ok (.aload_n 0, 1) := by decide +kernel
theorem dX0_rateIn_7 : decode cX0_rateIn 7 = .ok (.getfield 42, 3) := by decide +kernel
theorem dX0_rateIn_10 : decode cX0_rateIn 10 = .ok (.iadd, 1) := by decide +kernel
theorem dX0_rateIn_11 : decode cX0_rateIn 11 = .ok (.ireturn, 1) := by decide +kernel
set_option maxRecDepth 20000 in
theorem ggX0_errorOfHours_X7_isHeat : GoodIn wsX0_errorOfHours wsX7_isHeat := goodIn_r _ [4] (by decide +kernel) (by decide +kernel)
set_option maxRecDepth 20000 in
theorem gX0_errorOfHours_X7_isHeat_n69 : GoodIn wsX0_errorOfHours (wsX7_isHeat) := ggX0_errorOfHours_X7_isHeat
set_option maxRecDepth 20000 in
theorem ggX0_errorOfHours_X7_isAir : GoodIn wsX0_errorOfHours wsX7_isAir := goodIn_r _ [6] (by decide +kernel) (by decide +kernel)
set_option maxRecDepth 20000 in
theorem gX0_errorOfHours_X7_isAir_n73 : GoodIn wsX0_errorOfHours (wsX7_isAir) := ggX0_errorOfHours_X7_isAir
theorem dX0_errorOfHours_0 : decode cX0_errorOfHours 0 = .ok (.iload_n 1, 1) := by decide +kernel
theorem dX0_errorOfHours_1 : decode cX0_errorOfHours 1 = .ok (.invokestatic 69, 3) := by decide +kernel
theorem dX0_errorOfHours_4 : decode cX0_errorOfHours 4 = .ok (.ifCond .eq 19, 3) := by decide +kernel
theorem dX0_errorOfHours_7 : decode cX0_errorOfHours 7 = .ok (.iload_n 2, 1) := by decide +kernel
theorem dX0_errorOfHours_8 : decode cX0_errorOfHours 8 = .ok (.invokestatic 73, 3) := by decide +kernel
theorem dX0_errorOfHours_11 : decode cX0_errorOfHours 11 = .ok (.ifCond .eq 12, 3) := by decide +kernel
theorem dX0_errorOfHours_14 : decode cX0_errorOfHours 14 = .ok (.iload_n 3, 1) := by decide +kernel
theorem dX0_errorOfHours_15 : decode cX0_errorOfHours 15 = .ok (.ifCond .lt 8, 3) := by decide +kernel
theorem dX0_errorOfHours_18 : decode cX0_errorOfHours 18 = .ok (.iload_n 3, 1) := by decide +kernel
theorem dX0_errorOfHours_19 : decode cX0_errorOfHours 19 = .ok (.iconst 1, 1) := by decide +kernel
theorem dX0_errorOfHours_20 : decode cX0_errorOfHours 20 = .ok (.if_icmp .le 6, 3) := by decide +kernel
theorem dX0_errorOfHours_23 : decode cX0_errorOfHours 23 = .ok (.bipush (-2), 2) := by decide +kernel
theorem dX0_errorOfHours_25 : decode cX0_errorOfHours 25 = .ok (.ireturn, 1) := by decide +kernel
theorem dX0_errorOfHours_26 : decode cX0_errorOfHours 26 = .ok (.iload 4, 2) := by decide +kernel
theorem dX0_errorOfHours_28 : decode cX0_errorOfHours 28 = .ok (.iconst 1, 1) := by decide +kernel
theorem dX0_errorOfHours_29 : decode cX0_errorOfHours 29 = .ok (.if_icmp .lt 10, 3) := by decide +kernel
theorem dX0_errorOfHours_32 : decode cX0_errorOfHours 32 = .ok (.iload 4, 2) := by decide +kernel
theorem dX0_errorOfHours_34 : decode cX0_errorOfHours 34 = .ok (.bipush 99, 2) := by decide +kernel
theorem dX0_errorOfHours_36 : decode cX0_errorOfHours 36 = .ok (.if_icmp .le 6, 3) := by decide +kernel
theorem dX0_errorOfHours_39 : decode cX0_errorOfHours 39 = .ok (.bipush (-2), 2) := by decide +kernel
theorem dX0_errorOfHours_41 : decode cX0_errorOfHours 41 = .ok (.ireturn, 1) := by decide +kernel
theorem dX0_errorOfHours_42 : decode cX0_errorOfHours 42 = .ok (.aload_n 0, 1) := by decide +kernel
theorem dX0_errorOfHours_43 : decode cX0_errorOfHours 43 = .ok (.getfield 46, 3) := by decide +kernel
theorem dX0_errorOfHours_46 : decode cX0_errorOfHours 46 = .ok (.iload 4, 2) := by decide +kernel
theorem dX0_errorOfHours_48 : decode cX0_errorOfHours 48 = .ok (.iadd, 1) := by decide +kernel
theorem dX0_errorOfHours_49 : decode cX0_errorOfHours 49 = .ok (.sipush 9999, 3) := by decide +kernel
theorem dX0_errorOfHours_52 : decode cX0_errorOfHours 52 = .ok (.if_icmp .le 8, 3) := by decide +kernel
theorem dX0_errorOfHours_55 : decode cX0_errorOfHours 55 = .ok (.bipush (-5), 2) := by decide +kernel
theorem dX0_errorOfHours_57 : decode cX0_errorOfHours 57 = .ok (.goto 4, 3) := by decide +kernel
theorem dX0_errorOfHours_60 : decode cX0_errorOfHours 60 = .ok (.iconst 0, 1) := by decide +kernel
theorem dX0_errorOfHours_61 : decode cX0_errorOfHours 61 = .ok (.ireturn, 1) := by decide +kernel
set_option maxRecDepth 20000 in
theorem ggX0_goHours_X0_goHour : GoodIn wsX0_goHours wsX0_goHour := goodIn_r _ [6, 7, 8, 9, 10, 11, 12, 13, 14, 15, 5, 16, 17, 18, 19, 20, 21, 22, 23, 24, 25, 26, 27, 28, 29, 30, 31, 32, 33, 34, 35, 36, 37, 38, 39, 40, 41, 42, 43, 44, 45, 46, 47, 48, 49, 50, 51, 52, 53, 54, 55, 1, 56, 57, 58, 59, 60, 61, 62, 63, 64, 65, 66, 67, 68, 69, 70] (by decide +kernel) (by decide +kernel)
set_option maxRecDepth 20000 in
theorem gX0_goHours_X0_goHour : GoodIn wsX0_goHours (wsV RX0 76 RX0 yX0_goHour wsX0_goHour) := goodIn_app (goodIn_of _ (by decide +kernel)) ggX0_goHours_X0_goHour
theorem dX0_goHours_0 : decode cX0_goHours 0 = .ok (.aload_n 0, 1) := by decide +kernel
theorem dX0_goHours_1 : decode cX0_goHours 1 = .ok (.getfield 52, 3) := by decide +kernel
theorem dX0_goHours_4 : decode cX0_goHours 4 = .ok (.istore 5, 2) := by decide +kernel
theorem dX0_goHours_6 : decode cX0_goHours 6 = .ok (.iconst 0, 1) := by decide +kernel
theorem dX0_goHours_7 : decode cX0_goHours 7 = .ok (.istore 6, 2) := by decide +kernel
theorem dX0_goHours_9 : decode cX0_goHours 9 = .ok (.iload 6, 2) := by decide +kernel
theorem dX0_goHours_11 : decode cX0_goHours 11 = .ok (.iload 4, 2) := by decide +kernel
theorem dX0_goHours_13 : decode cX0_goHours 13 = .ok (.if_icmp .ge 16, 3) := by decide +kernel
theorem dX0_goHours_16 : decode cX0_goHours 16 = .ok (.aload_n 0, 1) := by decide +kernel
theorem dX0_goHours_17 : decode cX0_goHours 17 = .ok (.iload_n 1, 1) := by decide +kernel
theorem dX0_goHours_18 : decode cX0_goHours 18 = .ok (.iload_n 2, 1) := by decide +kernel
theorem dX0_goHours_19 : decode cX0_goHours 19 = .ok (.iload_n 3, 1) := by decide +kernel
theorem dX0_goHours_20 : decode cX0_goHours 20 = .ok (.invokevirtual 76, 3) := by decide +kernel
theorem dX0_goHours_23 : decode cX0_goHours 23 = .ok (.iinc 6 1, 3) := by decide +kernel
theorem dX0_goHours_26 : decode cX0_goHours 26 = .ok (.goto (-17), 3) := by decide +kernel
theorem dX0_goHours_29 : decode cX0_goHours 29 = .ok (.aload_n 0, 1) := by decide +kernel
theorem dX0_goHours_30 : decode cX0_goHours 30 = .ok (.getfield 52, 3) := by decide +kernel
theorem dX0_goHours_33 : decode cX0_goHours 33 = .ok (.iload 5, 2) := by decide +kernel
theorem dX0_goHours_35 : decode cX0_goHours 35 = .ok (.isub, 1) := by decide +kernel
theorem dX0_goHours_36 : decode cX0_goHours 36 = .ok (.ireturn, 1) := by decide +kernel
set_option maxRecDepth 20000 in
theorem ggX0_goHour_X0_rateIn : GoodIn wsX0_goHour wsX0_rateIn := goodIn_r _ [11, 4, 12, 13, 14, 10, 15, 16, 17, 18, 19, 20, 56, 57, 58, 59, 60, 61, 62] (by decide +kernel) (by decide +kernel)
set_option maxRecDepth 20000 in
theorem gX0_goHour_X0_rateIn : GoodIn wsX0_goHour (wsV RX0 80 RX0 yX0_rateIn wsX0_rateIn) := goodIn_app (goodIn_of _ (by decide +kernel)) ggX0_goHour_X0_rateIn
set_option maxRecDepth 20000 in
theorem ggX0_goHour_X1_addHour : GoodIn wsX0_goHour wsX1_addHour := goodIn_r _ [25, 26, 27, 63, 64] (by decide +kernel) (by decide +kernel)
set_option maxRecDepth 20000 in
theorem gX0_goHour_X1_addHour : GoodIn wsX0_goHour (wsV RX0 83 RX1 yX1_addHour wsX1_addHour) := goodIn_app (goodIn_of _ (by decide +kernel)) ggX0_goHour_X1_addHour
set_option maxRecDepth 20000 in
theorem ggX0_goHour_X0_setting : GoodIn wsX0_goHour wsX0_setting := goodIn_r _ [19, 20, 56, 57, 58, 59, 60, 61, 62] (by decide +kernel) (by decide +kernel)
set_option maxRecDepth 20000 in
theorem gX0_goHour_X0_setting : GoodIn wsX0_goHour (wsV RX0 61 RX0 yX0_setting wsX0_setting) := goodIn_app (goodIn_of _ (by decide +kernel)) ggX0_goHour_X0_setting
set_option maxRecDepth 20000 in
theorem ggX0_goHour_X1_isMoreThan : GoodIn wsX0_goHour wsX1_isMoreThan := goodIn_r _ [31, 27, 63, 64] (by decide +kernel) (by decide +kernel)
set_option maxRecDepth 20000 in
theorem gX0_goHour_X1_isMoreThan : GoodIn wsX0_goHour (wsV RX0 87 RX1 yX1_isMoreThan wsX1_isMoreThan) := goodIn_app (goodIn_of _ (by decide +kernel)) ggX0_goHour_X1_isMoreThan
set_option maxRecDepth 20000 in
theorem ggX0_goHour_X3_open : GoodIn wsX0_goHour wsX3_open := goodIn_r _ [36, 37, 65, 66] (by decide +kernel) (by decide +kernel)
set_option maxRecDepth 20000 in
theorem gX0_goHour_X3_open : GoodIn wsX0_goHour (wsV RX0 90 RX3 yX3_open wsX3_open) := goodIn_app (goodIn_of _ (by decide +kernel)) ggX0_goHour_X3_open
set_option maxRecDepth 20000 in
theorem ggX0_goHour_X3_write : GoodIn wsX0_goHour wsX3_write := goodIn_r _ [41, 42, 43, 44, 45, 35, 46, 37, 65, 66] (by decide +kernel) (by decide +kernel)
set_option maxRecDepth 20000 in
theorem gX0_goHour_X3_write : GoodIn wsX0_goHour (wsV RX0 93 RX3 yX3_write wsX3_write) := goodIn_app (goodIn_of _ (by decide +kernel)) ggX0_goHour_X3_write
set_option maxRecDepth 20000 in
theorem ggX0_goHour_X0_correct : GoodIn wsX0_goHour wsX0_correct := goodIn_r _ [50, 1, 3, 4, 51, 52, 53, 54, 24, 55, 27, 26, 56, 57, 58, 59, 60, 61, 62, 63, 64] (by decide +kernel) (by decide +kernel)
set_option maxRecDepth 20000 in
theorem gX0_goHour_X0_correct : GoodIn wsX0_goHour (wsV RX0 100 RX0 yX0_correct wsX0_correct) := goodIn_app (goodIn_of _ (by decide +kernel)) ggX0_goHour_X0_correct
theorem dX0_goHour_0 : decode cX0_goHour 0 = .ok (.aload_n 0, 1) := by decide +kernel
theorem dX0_goHour_1 : decode cX0_goHour 1 = .ok (.iload_n 1, 1) := by decide +kernel
theorem dX0_goHour_2 : decode cX0_goHour 2 = .ok (.iload_n 2, 1) := by decide +kernel
theorem dX0_goHour_3 : decode cX0_goHour 3 = .ok (.invokevirtual 80, 3) := by decide +kernel
theorem dX0_goHour_6 : decode cX0_goHour 6 = .ok (.istore 4, 2) := by decide +kernel
theorem dX0_goHour_8 : decode cX0_goHour 8 = .ok (.aload_n 0, 1) := by decide +kernel
theorem dX0_goHour_9 : decode cX0_goHour 9 = .ok (.getfield 18, 3) := by decide +kernel
theorem dX0_goHour_12 : decode cX0_goHour 12 = .ok (.iload 4, 2) := by decide +kernel
theorem dX0_goHour_14 : decode cX0_goHour 14 = .ok (.invokevirtual 83, 3) := by decide +kernel
theorem dX0_goHour_17 : decode cX0_goHour 17 = .ok (.iload_n 3, 1) := by decide +kernel
theorem dX0_goHour_18 : decode cX0_goHour 18 = .ok (.iconst 1, 1) := by decide +kernel
theorem dX0_goHour_19 : decode cX0_goHour 19 = .ok (.if_icmp .ne 22, 3) := by decide +kernel
theorem dX0_goHour_22 : decode cX0_goHour 22 = .ok (.aload_n 0, 1) := by decide +kernel
theorem dX0_goHour_23 : decode cX0_goHour 23 = .ok (.getfield 18, 3) := by decide +kernel
theorem dX0_goHour_26 : decode cX0_goHour 26 = .ok (.aload_n 0, 1) := by decide +kernel
theorem dX0_goHour_27 : decode cX0_goHour 27 = .ok (.iconst 3, 1) := by decide +kernel
theorem dX0_goHour_28 : decode cX0_goHour 28 = .ok (.invokevirtual 61, 3) := by decide +kernel
theorem dX0_goHour_31 : decode cX0_goHour 31 = .ok (.invokevirtual 87, 3) := by decide +kernel
theorem dX0_goHour_34 : decode cX0_goHour 34 = .ok (.ifCond .eq 7, 3) := by decide +kernel
theorem dX0_goHour_37 : decode cX0_goHour 37 = .ok (.iconst 1, 1) := by decide +kernel
theorem dX0_goHour_38 : decode cX0_goHour 38 = .ok (.goto 4, 3) := by decide +kernel
theorem dX0_goHour_41 : decode cX0_goHour 41 = .ok (.iconst 0, 1) := by decide +kernel
theorem dX0_goHour_42 : decode cX0_goHour 42 = .ok (.istore 5, 2) := by decide +kernel
theorem dX0_goHour_44 : decode cX0_goHour 44 = .ok (.aload_n 0, 1) := by decide +kernel
theorem dX0_goHour_45 : decode cX0_goHour 45 = .ok (.getfield 25, 3) := by decide +kernel
theorem dX0_goHour_48 : decode cX0_goHour 48 = .ok (.invokevirtual 90, 3) := by decide +kernel
theorem dX0_goHour_51 : decode cX0_goHour 51 = .ok (.aload_n 0, 1) := by decide +kernel
theorem dX0_goHour_52 : decode cX0_goHour 52 = .ok (.getfield 25, 3) := by decide +kernel
theorem dX0_goHour_55 : decode cX0_goHour 55 = .ok (.iconst 0, 1) := by decide +kernel
theorem dX0_goHour_56 : decode cX0_goHour 56 = .ok (.iload_n 1, 1) := by decide +kernel
theorem dX0_goHour_57 : decode cX0_goHour 57 = .ok (.invokevirtual 93, 3) := by decide +kernel
theorem dX0_goHour_60 : decode cX0_goHour 60 = .ok (.aload_n 0, 1) := by decide +kernel
theorem dX0_goHour_61 : decode cX0_goHour 61 = .ok (.getfield 25, 3) := by decide +kernel
theorem dX0_goHour_64 : decode cX0_goHour 64 = .ok (.iconst 1, 1) := by decide +kernel
theorem dX0_goHour_65 : decode cX0_goHour 65 = .ok (.iload_n 2, 1) := by decide +kernel
theorem dX0_goHour_66 : decode cX0_goHour 66 = .ok (.invokevirtual 93, 3) := by decide +kernel
theorem dX0_goHour_69 : decode cX0_goHour 69 = .ok (.aload_n 0, 1) := by decide +kernel
theorem dX0_goHour_70 : decode cX0_goHour 70 = .ok (.getfield 25, 3) := by decide +kernel
theorem dX0_goHour_73 : decode cX0_goHour 73 = .ok (.iconst 2, 1) := by decide +kernel
theorem dX0_goHour_74 : decode cX0_goHour 74 = .ok (.iload_n 3, 1) := by decide +kernel
theorem dX0_goHour_75 : decode cX0_goHour 75 = .ok (.invokevirtual 93, 3) := by decide +kernel
theorem dX0_goHour_78 : decode cX0_goHour 78 = .ok (.aload_n 0, 1) := by decide +kernel
theorem dX0_goHour_79 : decode cX0_goHour 79 = .ok (.getfield 25, 3) := by decide +kernel
theorem dX0_goHour_82 : decode cX0_goHour 82 = .ok (.iconst 3, 1) := by decide +kernel
theorem dX0_goHour_83 : decode cX0_goHour 83 = .ok (.iload 4, 2) := by decide +kernel
theorem dX0_goHour_85 : decode cX0_goHour 85 = .ok (.invokevirtual 93, 3) := by decide +kernel
theorem dX0_goHour_88 : decode cX0_goHour 88 = .ok (.aload_n 0, 1) := by decide +kernel
theorem dX0_goHour_89 : decode cX0_goHour 89 = .ok (.getfield 25, 3) := by decide +kernel
theorem dX0_goHour_92 : decode cX0_goHour 92 = .ok (.iconst 4, 1) := by decide +kernel
theorem dX0_goHour_93 : decode cX0_goHour 93 = .ok (.aload_n 0, 1) := by decide +kernel
theorem dX0_goHour_94 : decode cX0_goHour 94 = .ok (.getfield 18, 3) := by decide +kernel
theorem dX0_goHour_97 : decode cX0_goHour 97 = .ok (.getfield 97, 3) := by decide +kernel
theorem dX0_goHour_100 : decode cX0_goHour 100 = .ok (.invokevirtual 93, 3) := by decide +kernel
theorem dX0_goHour_103 : decode cX0_goHour 103 = .ok (.aload_n 0, 1) := by decide +kernel
theorem dX0_goHour_104 : decode cX0_goHour 104 = .ok (.getfield 25, 3) := by decide +kernel
theorem dX0_goHour_107 : decode cX0_goHour 107 = .ok (.iconst 5, 1) := by decide +kernel
theorem dX0_goHour_108 : decode cX0_goHour 108 = .ok (.iload 5, 2) := by decide +kernel
theorem dX0_goHour_110 : decode cX0_goHour 110 = .ok (.ifCond .eq 7, 3) := by decide +kernel
theorem dX0_goHour_113 : decode cX0_goHour 113 = .ok (.iconst 1, 1) := by decide +kernel
theorem dX0_goHour_114 : decode cX0_goHour 114 = .ok (.goto 4, 3) := by decide +kernel
theorem dX0_goHour_117 : decode cX0_goHour 117 = .ok (.iconst 0, 1) := by decide +kernel
theorem dX0_goHour_118 : decode cX0_goHour 118 = .ok (.invokevirtual 93, 3) := by decide +kernel
theorem dX0_goHour_121 : decode cX0_goHour 121 = .ok (.aload_n 0, 1) := by decide +kernel
theorem dX0_goHour_122 : decode cX0_goHour 122 = .ok (.getfield 25, 3) := by decide +kernel
theorem dX0_goHour_125 : decode cX0_goHour 125 = .ok (.bipush 6, 2) := by decide +kernel
theorem dX0_goHour_127 : decode cX0_goHour 127 = .ok (.aload_n 0, 1) := by decide +kernel
theorem dX0_goHour_128 : decode cX0_goHour 128 = .ok (.getfield 42, 3) := by decide +kernel
theorem dX0_goHour_131 : decode cX0_goHour 131 = .ok (.invokevirtual 93, 3) := by decide +kernel
theorem dX0_goHour_134 : decode cX0_goHour 134 = .ok (.aload_n 0, 1) := by decide +kernel
theorem dX0_goHour_135 : decode cX0_goHour 135 = .ok (.dup, 1) := by decide +kernel
theorem dX0_goHour_136 : decode cX0_goHour 136 = .ok (.getfield 46, 3) := by decide +kernel
theorem dX0_goHour_139 : decode cX0_goHour 139 = .ok (.iconst 1, 1) := by decide +kernel
theorem dX0_goHour_140 : decode cX0_goHour 140 = .ok (.iadd, 1) := by decide +kernel
theorem dX0_goHour_141 : decode cX0_goHour 141 = .ok (.putfield 46, 3) := by decide +kernel
theorem dX0_goHour_144 : decode cX0_goHour 144 = .ok (.aload_n 0, 1) := by decide +kernel
theorem dX0_goHour_145 : decode cX0_goHour 145 = .ok (.dup, 1) := by decide +kernel
theorem dX0_goHour_146 : decode cX0_goHour 146 = .ok (.getfield 49, 3) := by decide +kernel
theorem dX0_goHour_149 : decode cX0_goHour 149 = .ok (.iload_n 3, 1) := by decide +kernel
theorem dX0_goHour_150 : decode cX0_goHour 150 = .ok (.iadd, 1) := by decide +kernel
theorem dX0_goHour_151 : decode cX0_goHour 151 = .ok (.putfield 49, 3) := by decide +kernel
theorem dX0_goHour_154 : decode cX0_goHour 154 = .ok (.iload 5, 2) := by decide +kernel
theorem dX0_goHour_156 : decode cX0_goHour 156 = .ok (.ifCond .eq 7, 3) := by decide +kernel
theorem dX0_goHour_159 : decode cX0_goHour 159 = .ok (.aload_n 0, 1) := by decide +kernel
theorem dX0_goHour_160 : decode cX0_goHour 160 = .ok (.invokevirtual 100, 3) := by decide +kernel
theorem dX0_goHour_163 : decode cX0_goHour 163 = .ok (.return_, 1) := by decide +kernel
set_option maxRecDepth 20000 in
theorem ggX0_correct_X1_clear : GoodIn wsX0_correct wsX1_clear := goodIn_r _ [9, 10, 11, 19, 20] (by decide +kernel) (by decide +kernel)
set_option maxRecDepth 20000 in
theorem gX0_correct_X1_clear : GoodIn wsX0_correct (wsV RX0 103 RX1 yX1_clear wsX1_clear) := goodIn_app (goodIn_of _ (by decide +kernel)) ggX0_correct_X1_clear
theorem dX0_correct_0 : decode cX0_correct 0 = .ok (.aload_n 0, 1) := by decide +kernel
theorem dX0_correct_1 : decode cX0_correct 1 = .ok (.getfield 18, 3) := by decide +kernel
theorem dX0_correct_4 : decode cX0_correct 4 = .ok (.getfield 97, 3) := by decide +kernel
theorem dX0_correct_7 : decode cX0_correct 7 = .ok (.ifCond .le 21, 3) := by decide +kernel
theorem dX0_correct_10 : decode cX0_correct 10 = .ok (.aload_n 0, 1) := by decide +kernel
theorem dX0_correct_11 : decode cX0_correct 11 = .ok (.dup, 1) := by decide +kernel
theorem dX0_correct_12 : decode cX0_correct 12 = .ok (.getfield 42, 3) := by decide +kernel
theorem dX0_correct_15 : decode cX0_correct 15 = .ok (.aload_n 0, 1) := by decide +kernel
theorem dX0_correct_16 : decode cX0_correct 16 = .ok (.getfield 42, 3) := by decide +kernel
theorem dX0_correct_19 : decode cX0_correct 19 = .ok (.iconst 1, 1) := by decide +kernel
theorem dX0_correct_20 : decode cX0_correct 20 = .ok (.isub, 1) := by decide +kernel
theorem dX0_correct_21 : decode cX0_correct 21 = .ok (.iand, 1) := by decide +kernel
theorem dX0_correct_22 : decode cX0_correct 22 = .ok (.putfield 42, 3) := by decide +kernel
theorem dX0_correct_25 : decode cX0_correct 25 = .ok (.goto 22, 3) := by decide +kernel
theorem dX0_correct_28 : decode cX0_correct 28 = .ok (.aload_n 0, 1) := by decide +kernel
theorem dX0_correct_29 : decode cX0_correct 29 = .ok (.aload_n 0, 1) := by decide +kernel
theorem dX0_correct_30 : decode cX0_correct 30 = .ok (.getfield 42, 3) := by decide +kernel
theorem dX0_correct_33 : decode cX0_correct 33 = .ok (.aload_n 0, 1) := by decide +kernel
theorem dX0_correct_34 : decode cX0_correct 34 = .ok (.getfield 42, 3) := by decide +kernel
theorem dX0_correct_37 : decode cX0_correct 37 = .ok (.iconst 1, 1) := by decide +kernel
theorem dX0_correct_38 : decode cX0_correct 38 = .ok (.iadd, 1) := by decide +kernel
theorem dX0_correct_39 : decode cX0_correct 39 = .ok (.ior, 1) := by decide +kernel
theorem dX0_correct_40 : decode cX0_correct 40 = .ok (.sipush 255, 3) := by decide +kernel
theorem dX0_correct_43 : decode cX0_correct 43 = .ok (.iand, 1) := by decide +kernel
theorem dX0_correct_44 : decode cX0_correct 44 = .ok (.putfield 42, 3) := by decide +kernel
theorem dX0_correct_47 : decode cX0_correct 47 = .ok (.aload_n 0, 1) := by decide +kernel
theorem dX0_correct_48 : decode cX0_correct 48 = .ok (.getfield 18, 3) := by decide +kernel
theorem dX0_correct_51 : decode cX0_correct 51 = .ok (.invokevirtual 103, 3) := by decide +kernel
theorem dX0_correct_54 : decode cX0_correct 54 = .ok (.aload_n 0, 1) := by decide +kernel
theorem dX0_correct_55 : decode cX0_correct 55 = .ok (.dup, 1) := by decide +kernel
theorem dX0_correct_56 : decode cX0_correct 56 = .ok (.getfield 52, 3) := by decide +kernel
theorem dX0_correct_59 : decode cX0_correct 59 = .ok (.iconst 1, 1) := by decide +kernel
theorem dX0_correct_60 : decode cX0_correct 60 = .ok (.iadd, 1) := by decide +kernel
theorem dX0_correct_61 : decode cX0_correct 61 = .ok (.putfield 52, 3) := by decide +kernel
theorem dX0_correct_64 : decode cX0_correct 64 = .ok (.return_, 1) := by decide +kernel
theorem dX1_init_0 : decode cX1_init 0 = .ok (.aload_n 0, 1) := by decide +kernel
theorem dX1_init_1 : decode cX1_init 1 = .ok (.invokespecial 1, 3) := by decide +kernel
theorem dX1_init_4 : decode cX1_init 4 = .ok (.return_, 1) := by decide +kernel
theorem dX1_clear_0 : decode cX1_clear 0 = .ok (.aload_n 0, 1) := by decide +kernel
theorem dX1_clear_1 : decode cX1_clear 1 = .ok (.iconst 0, 1) := by decide +kernel
theorem dX1_clear_2 : decode cX1_clear 2 = .ok (.putfield 7, 3) := by decide +kernel
theorem dX1_clear_5 : decode cX1_clear 5 = .ok (.aload_n 0, 1) := by decide +kernel
theorem dX1_clear_6 : decode cX1_clear 6 = .ok (.iconst 0, 1) := by decide +kernel
theorem dX1_clear_7 : decode cX1_clear 7 = .ok (.putfield 13, 3) := by decide +kernel
theorem dX1_clear_10 : decode cX1_clear 10 = .ok (.return_, 1) := by decide +kernel
theorem dX1_become_0 : decode cX1_become 0 = .ok (.aload_n 0, 1) := by decide +kernel
theorem dX1_become_1 : decode cX1_become 1 = .ok (.aload_n 1, 1) := by decide +kernel
theorem dX1_become_2 : decode cX1_become 2 = .ok (.getfield 7, 3) := by decide +kernel
theorem dX1_become_5 : decode cX1_become 5 = .ok (.putfield 7, 3) := by decide +kernel
theorem dX1_become_8 : decode cX1_become 8 = .ok (.aload_n 0, 1) := by decide +kernel
theorem dX1_become_9 : decode cX1_become 9 = .ok (.aload_n 1, 1) := by decide +kernel
theorem dX1_become_10 : decode cX1_become 10 = .ok (.getfield 13, 3) := by decide +kernel
theorem dX1_become_13 : decode cX1_become 13 = .ok (.putfield 13, 3) := by decide +kernel
theorem dX1_become_16 : decode cX1_become 16 = .ok (.return_, 1) := by decide +kernel
theorem dX1_addHour_0 : decode cX1_addHour 0 = .ok (.aload_n 0, 1) := by decide +kernel
theorem dX1_addHour_1 : decode cX1_addHour 1 = .ok (.getfield 13, 3) := by decide +kernel
theorem dX1_addHour_4 : decode cX1_addHour 4 = .ok (.iload_n 1, 1) := by decide +kernel
theorem dX1_addHour_5 : decode cX1_addHour 5 = .ok (.sipush 3600, 3) := by decide +kernel
theorem dX1_addHour_8 : decode cX1_addHour 8 = .ok (.imul, 1) := by decide +kernel
theorem dX1_addHour_9 : decode cX1_addHour 9 = .ok (.iadd, 1) := by decide +kernel
theorem dX1_addHour_10 : decode cX1_addHour 10 = .ok (.istore_n 2, 1) := by decide +kernel
theorem dX1_addHour_11 : decode cX1_addHour 11 = .ok (.aload_n 0, 1) := by decide +kernel
theorem dX1_addHour_12 : decode cX1_addHour 12 = .ok (.dup, 1) := by decide +kernel
theorem dX1_addHour_13 : decode cX1_addHour 13 = .ok (.getfield 7, 3) := by decide +kernel
theorem dX1_addHour_16 : decode cX1_addHour 16 = .ok (.iload_n 2, 1) := by decide +kernel
theorem dX1_addHour_17 : decode cX1_addHour 17 = .ok (.sipush 1000, 3) := by decide +kernel
theorem dX1_addHour_20 : decode cX1_addHour 20 = .ok (.idiv, 1) := by decide +kernel
theorem dX1_addHour_21 : decode cX1_addHour 21 = .ok (.iadd, 1) := by decide +kernel
theorem dX1_addHour_22 : decode cX1_addHour 22 = .ok (.putfield 7, 3) := by decide +kernel
theorem dX1_addHour_25 : decode cX1_addHour 25 = .ok (.aload_n 0, 1) := by decide +kernel
theorem dX1_addHour_26 : decode cX1_addHour 26 = .ok (.iload_n 2, 1) := by decide +kernel
theorem dX1_addHour_27 : decode cX1_addHour 27 = .ok (.sipush 1000, 3) := by decide +kernel
theorem dX1_addHour_30 : decode cX1_addHour 30 = .ok (.irem, 1) := by decide +kernel
theorem dX1_addHour_31 : decode cX1_addHour 31 = .ok (.putfield 13, 3) := by decide +kernel
theorem dX1_addHour_34 : decode cX1_addHour 34 = .ok (.return_, 1) := by decide +kernel
theorem dX1_isMoreThan_0 : decode cX1_isMoreThan 0 = .ok (.aload_n 0, 1) := by decide +kernel
theorem dX1_isMoreThan_1 : decode cX1_isMoreThan 1 = .ok (.getfield 7, 3) := by decide +kernel
theorem dX1_isMoreThan_4 : decode cX1_isMoreThan 4 = .ok (.iload_n 1, 1) := by decide +kernel
theorem dX1_isMoreThan_5 : decode cX1_isMoreThan 5 = .ok (.if_icmp .gt 12, 3) := by decide +kernel
theorem dX1_isMoreThan_8 : decode cX1_isMoreThan 8 = .ok (.aload_n 0, 1) := by decide +kernel
theorem dX1_isMoreThan_9 : decode cX1_isMoreThan 9 = .ok (.getfield 7, 3) := by decide +kernel
theorem dX1_isMoreThan_12 : decode cX1_isMoreThan 12 = .ok (.iload_n 1, 1) := by decide +kernel
theorem dX1_isMoreThan_13 : decode cX1_isMoreThan 13 = .ok (.ineg, 1) := by decide +kernel
theorem dX1_isMoreThan_14 : decode cX1_isMoreThan 14 = .ok (.if_icmp .ge 7, 3) := by decide +kernel
theorem dX1_isMoreThan_17 : decode cX1_isMoreThan 17 = .ok (.iconst 1, 1) := by decide +kernel
theorem dX1_isMoreThan_18 : decode cX1_isMoreThan 18 = .ok (.goto 4, 3) := by decide +kernel
theorem dX1_isMoreThan_21 : decode cX1_isMoreThan 21 = .ok (.iconst 0, 1) := by decide +kernel
theorem dX1_isMoreThan_22 : decode cX1_isMoreThan 22 = .ok (.ireturn, 1) := by decide +kernel
set_option maxRecDepth 20000 in
theorem ggX2_init_X0_init : GoodIn wsX2_init wsX0_init := goodIn_r _ [9, 10, 2, 3, 11, 12, 13, 14, 15, 16, 17, 18, 19, 20, 21, 22, 23, 24, 25, 26, 27, 30, 31, 32, 33, 34, 35, 36, 37, 38, 39, 40] (by decide +kernel) (by decide +kernel)
set_option maxRecDepth 20000 in
theorem gX2_init_X0_init_n17 : GoodIn wsX2_init (wsX0_init) := ggX2_init_X0_init
theorem dX2_init_0 : decode cX2_init 0 = .ok (.aload_n 0, 1) := by decide +kernel
theorem dX2_init_1 : decode cX2_init 1 = .ok (.invokespecial 3, 3) := by decide +kernel
theorem dX2_init_4 : decode cX2_init 4 = .ok (.aload_n 0, 1) := by decide +kernel
theorem dX2_init_5 : decode cX2_init 5 = .ok (.bipush 6, 2) := by decide +kernel
theorem dX2_init_7 : decode cX2_init 7 = .ok (.anewarray 9, 3) := by decide +kernel
theorem dX2_init_10 : decode cX2_init 10 = .ok (.putfield 11, 3) := by decide +kernel
theorem dX2_init_13 : decode cX2_init 13 = .ok (.iconst 0, 1) := by decide +kernel
theorem dX2_init_14 : decode cX2_init 14 = .ok (.istore_n 1, 1) := by decide +kernel
theorem dX2_init_15 : decode cX2_init 15 = .ok (.iload_n 1, 1) := by decide +kernel
theorem dX2_init_16 : decode cX2_init 16 = .ok (.aload_n 0, 1) := by decide +kernel
theorem dX2_init_17 : decode cX2_init 17 = .ok (.getfield 11, 3) := by decide +kernel
theorem dX2_init_20 : decode cX2_init 20 = .ok (.arraylength, 1) := by decide +kernel
theorem dX2_init_21 : decode cX2_init 21 = .ok (.if_icmp .ge 22, 3) := by decide +kernel
theorem dX2_init_24 : decode cX2_init 24 = .ok (.aload_n 0, 1) := by decide +kernel
theorem dX2_init_25 : decode cX2_init 25 = .ok (.getfield 11, 3) := by decide +kernel
theorem dX2_init_28 : decode cX2_init 28 = .ok (.iload_n 1, 1) := by decide +kernel
theorem dX2_init_29 : decode cX2_init 29 = .ok (.new 9, 3) := by decide +kernel
theorem dX2_init_32 : decode cX2_init 32 = .ok (.dup, 1) := by decide +kernel
theorem dX2_init_33 : decode cX2_init 33 = .ok (.invokespecial 17, 3) := by decide +kernel
theorem dX2_init_36 : decode cX2_init 36 = .ok (.aastore, 1) := by decide +kernel
theorem dX2_init_37 : decode cX2_init 37 = .ok (.iinc 1 1, 3) := by decide +kernel
theorem dX2_init_40 : decode cX2_init 40 = .ok (.goto (-25), 3) := by decide +kernel
theorem dX2_init_43 : decode cX2_init 43 = .ok (.return_, 1) := by decide +kernel
set_option maxRecDepth 20000 in
theorem ggX2_record_X0_become : GoodIn wsX2_record wsX0_become := goodIn_r _ [11, 12, 13, 14, 15, 16, 17, 18, 19, 20, 21, 22, 23, 24, 25, 26, 27, 28, 29, 30, 31, 32, 33, 34, 35, 36, 37, 40, 41, 42, 43, 44, 45, 46, 47, 48, 49, 50] (by decide +kernel) (by decide +kernel)
set_option maxRecDepth 20000 in
theorem gX2_record_X0_become : GoodIn wsX2_record (wsV RX2 18 RX0 yX0_become wsX0_become) := goodIn_app (goodIn_of _ (by decide +kernel)) ggX2_record_X0_become
theorem dX2_record_0 : decode cX2_record 0 = .ok (.aload_n 0, 1) := by decide +kernel
theorem dX2_record_1 : decode cX2_record 1 = .ok (.getfield 11, 3) := by decide +kernel
theorem dX2_record_4 : decode cX2_record 4 = .ok (.iconst 5, 1) := by decide +kernel
theorem dX2_record_5 : decode cX2_record 5 = .ok (.aaload, 1) := by decide +kernel
theorem dX2_record_6 : decode cX2_record 6 = .ok (.astore_n 2, 1) := by decide +kernel
theorem dX2_record_7 : decode cX2_record 7 = .ok (.aload_n 0, 1) := by decide +kernel
theorem dX2_record_8 : decode cX2_record 8 = .ok (.getfield 11, 3) := by decide +kernel
theorem dX2_record_11 : decode cX2_record 11 = .ok (.arraylength, 1) := by decide +kernel
theorem dX2_record_12 : decode cX2_record 12 = .ok (.iconst 1, 1) := by decide +kernel
theorem dX2_record_13 : decode cX2_record 13 = .ok (.isub, 1) := by decide +kernel
theorem dX2_record_14 : decode cX2_record 14 = .ok (.istore_n 3, 1) := by decide +kernel
theorem dX2_record_15 : decode cX2_record 15 = .ok (.iload_n 3, 1) := by decide +kernel
theorem dX2_record_16 : decode cX2_record 16 = .ok (.ifCond .le 23, 3) := by decide +kernel
theorem dX2_record_19 : decode cX2_record 19 = .ok (.aload_n 0, 1) := by decide +kernel
theorem dX2_record_20 : decode cX2_record 20 = .ok (.getfield 11, 3) := by decide +kernel
theorem dX2_record_23 : decode cX2_record 23 = .ok (.iload_n 3, 1) := by decide +kernel
theorem dX2_record_24 : decode cX2_record 24 = .ok (.aload_n 0, 1) := by decide +kernel
theorem dX2_record_25 : decode cX2_record 25 = .ok (.getfield 11, 3) := by decide +kernel
theorem dX2_record_28 : decode cX2_record 28 = .ok (.iload_n 3, 1) := by decide +kernel
theorem dX2_record_29 : decode cX2_record 29 = .ok (.iconst 1, 1) := by decide +kernel
theorem dX2_record_30 : decode cX2_record 30 = .ok (.isub, 1) := by decide +kernel
theorem dX2_record_31 : decode cX2_record 31 = .ok (.aaload, 1) := by decide +kernel
theorem dX2_record_32 : decode cX2_record 32 = .ok (.aastore, 1) := by decide +kernel
theorem dX2_record_33 : decode cX2_record 33 = .ok (.iinc 3 (-1), 3) := by decide +kernel
theorem dX2_record_36 : decode cX2_record 36 = .ok (.goto (-21), 3) := by decide +kernel
theorem dX2_record_39 : decode cX2_record 39 = .ok (.aload_n 0, 1) := by decide +kernel
theorem dX2_record_40 : decode cX2_record 40 = .ok (.getfield 11, 3) := by decide +kernel
theorem dX2_record_43 : decode cX2_record 43 = .ok (.iconst 0, 1) := by decide +kernel
theorem dX2_record_44 : decode cX2_record 44 = .ok (.aload_n 2, 1) := by decide +kernel
theorem dX2_record_45 : decode cX2_record 45 = .ok (.aastore, 1) := by decide +kernel
theorem dX2_record_46 : decode cX2_record 46 = .ok (.aload_n 2, 1) := by decide +kernel
theorem dX2_record_47 : decode cX2_record 47 = .ok (.aload_n 1, 1) := by decide +kernel
theorem dX2_record_48 : decode cX2_record 48 = .ok (.invokevirtual 18, 3) := by decide +kernel
theorem dX2_record_51 : decode cX2_record 51 = .ok (.aload_n 0, 1) := by decide +kernel
theorem dX2_record_52 : decode cX2_record 52 = .ok (.aload_n 0, 1) := by decide +kernel
theorem dX2_record_53 : decode cX2_record 53 = .ok (.getfield 22, 3) := by decide +kernel
theorem dX2_record_56 : decode cX2_record 56 = .ok (.iconst 1, 1) := by decide +kernel
theorem dX2_record_57 : decode cX2_record 57 = .ok (.iadd, 1) := by decide +kernel
theorem dX2_record_58 : decode cX2_record 58 = .ok (.bipush 6, 2) := by decide +kernel
theorem dX2_record_60 : decode cX2_record 60 = .ok (.invokestatic 26, 3) := by decide +kernel
theorem dX2_record_63 : decode cX2_record 63 = .ok (.putfield 22, 3) := by decide +kernel
theorem dX2_record_66 : decode cX2_record 66 = .ok (.return_, 1) := by decide +kernel
theorem dX3_init_0 : decode cX3_init 0 = .ok (.aload_n 0, 1) := by decide +kernel
theorem dX3_init_1 : decode cX3_init 1 = .ok (.invokespecial 3, 3) := by decide +kernel
theorem dX3_init_4 : decode cX3_init 4 = .ok (.aload_n 0, 1) := by decide +kernel
theorem dX3_init_5 : decode cX3_init 5 = .ok (.sipush 336, 3) := by decide +kernel
theorem dX3_init_8 : decode cX3_init 8 = .ok (.newarray .int, 2) := by decide +kernel
theorem dX3_init_10 : decode cX3_init 10 = .ok (.putfield 9, 3) := by decide +kernel
theorem dX3_init_13 : decode cX3_init 13 = .ok (.return_, 1) := by decide +kernel
theorem dX3_length_0 : decode cX3_length 0 = .ok (.aload_n 0, 1) := by decide +kernel
theorem dX3_length_1 : decode cX3_length 1 = .ok (.getfield 15, 3) := by decide +kernel
theorem dX3_length_4 : decode cX3_length 4 = .ok (.bipush 48, 2) := by decide +kernel
theorem dX3_length_6 : decode cX3_length 6 = .ok (.invokestatic 19, 3) := by decide +kernel
theorem dX3_length_9 : decode cX3_length 9 = .ok (.ireturn, 1) := by decide +kernel
theorem dX3_become_0 : decode cX3_become 0 = .ok (.aload_n 1, 1) := by decide +kernel
theorem dX3_become_1 : decode cX3_become 1 = .ok (.getfield 9, 3) := by decide +kernel
theorem dX3_become_4 : decode cX3_become 4 = .ok (.iconst 0, 1) := by decide +kernel
theorem dX3_become_5 : decode cX3_become 5 = .ok (.aload_n 0, 1) := by decide +kernel
theorem dX3_become_6 : decode cX3_become 6 = .ok (.getfield 9, 3) := by decide +kernel
theorem dX3_become_9 : decode cX3_become 9 = .ok (.iconst 0, 1) := by decide +kernel
theorem dX3_become_10 : decode cX3_become 10 = .ok (.aload_n 0, 1) := by decide +kernel
theorem dX3_become_11 : decode cX3_become 11 = .ok (.getfield 9, 3) := by decide +kernel
theorem dX3_become_14 : decode cX3_become 14 = .ok (.arraylength, 1) := by decide +kernel
theorem dX3_become_15 : decode cX3_become 15 = .ok (.invokestatic 25, 3) := by decide +kernel
theorem dX3_become_18 : decode cX3_become 18 = .ok (.aload_n 0, 1) := by decide +kernel
theorem dX3_become_19 : decode cX3_become 19 = .ok (.aload_n 1, 1) := by decide +kernel
theorem dX3_become_20 : decode cX3_become 20 = .ok (.getfield 15, 3) := by decide +kernel
theorem dX3_become_23 : decode cX3_become 23 = .ok (.putfield 15, 3) := by decide +kernel
theorem dX3_become_26 : decode cX3_become 26 = .ok (.return_, 1) := by decide +kernel
theorem dX3_open_0 : decode cX3_open 0 = .ok (.aload_n 0, 1) := by decide +kernel
theorem dX3_open_1 : decode cX3_open 1 = .ok (.dup, 1) := by decide +kernel
theorem dX3_open_2 : decode cX3_open 2 = .ok (.getfield 15, 3) := by decide +kernel
theorem dX3_open_5 : decode cX3_open 5 = .ok (.iconst 1, 1) := by decide +kernel
theorem dX3_open_6 : decode cX3_open 6 = .ok (.iadd, 1) := by decide +kernel
theorem dX3_open_7 : decode cX3_open 7 = .ok (.putfield 15, 3) := by decide +kernel
theorem dX3_open_10 : decode cX3_open 10 = .ok (.return_, 1) := by decide +kernel
set_option maxRecDepth 20000 in
theorem ggX3_write_X3_placeOf : GoodIn wsX3_write wsX3_placeOf := goodIn_r _ [6, 7, 8, 9] (by decide +kernel) (by decide +kernel)
set_option maxRecDepth 20000 in
theorem gX3_write_X3_placeOf : GoodIn wsX3_write (wsV RX3 31 RX3 yX3_placeOf wsX3_placeOf) := goodIn_app (goodIn_of _ (by decide +kernel)) ggX3_write_X3_placeOf
theorem dX3_write_0 : decode cX3_write 0 = .ok (.aload_n 0, 1) := by decide +kernel
theorem dX3_write_1 : decode cX3_write 1 = .ok (.iconst 0, 1) := by decide +kernel
theorem dX3_write_2 : decode cX3_write 2 = .ok (.iload_n 1, 1) := by decide +kernel
theorem dX3_write_3 : decode cX3_write 3 = .ok (.invokevirtual 31, 3) := by decide +kernel
theorem dX3_write_6 : decode cX3_write 6 = .ok (.istore_n 3, 1) := by decide +kernel
theorem dX3_write_7 : decode cX3_write 7 = .ok (.iload_n 3, 1) := by decide +kernel
theorem dX3_write_8 : decode cX3_write 8 = .ok (.ifCond .lt 19, 3) := by decide +kernel
theorem dX3_write_11 : decode cX3_write 11 = .ok (.iload_n 3, 1) := by decide +kernel
theorem dX3_write_12 : decode cX3_write 12 = .ok (.aload_n 0, 1) := by decide +kernel
theorem dX3_write_13 : decode cX3_write 13 = .ok (.getfield 9, 3) := by decide +kernel
theorem dX3_write_16 : decode cX3_write 16 = .ok (.arraylength, 1) := by decide +kernel
theorem dX3_write_17 : decode cX3_write 17 = .ok (.if_icmp .ge 10, 3) := by decide +kernel
theorem dX3_write_20 : decode cX3_write 20 = .ok (.aload_n 0, 1) := by decide +kernel
theorem dX3_write_21 : decode cX3_write 21 = .ok (.getfield 9, 3) := by decide +kernel
theorem dX3_write_24 : decode cX3_write 24 = .ok (.iload_n 3, 1) := by decide +kernel
theorem dX3_write_25 : decode cX3_write 25 = .ok (.iload_n 2, 1) := by decide +kernel
theorem dX3_write_26 : decode cX3_write 26 = .ok (.iastore, 1) := by decide +kernel
theorem dX3_write_27 : decode cX3_write 27 = .ok (.return_, 1) := by decide +kernel
set_option maxRecDepth 20000 in
theorem ggX3_fact_X3_placeOf : GoodIn wsX3_fact wsX3_placeOf := goodIn_r _ [6, 7, 8, 9] (by decide +kernel) (by decide +kernel)
set_option maxRecDepth 20000 in
theorem gX3_fact_X3_placeOf : GoodIn wsX3_fact (wsV RX3 31 RX3 yX3_placeOf wsX3_placeOf) := goodIn_app (goodIn_of _ (by decide +kernel)) ggX3_fact_X3_placeOf
theorem dX3_fact_0 : decode cX3_fact 0 = .ok (.aload_n 0, 1) := by decide +kernel
theorem dX3_fact_1 : decode cX3_fact 1 = .ok (.iload_n 1, 1) := by decide +kernel
theorem dX3_fact_2 : decode cX3_fact 2 = .ok (.iload_n 2, 1) := by decide +kernel
theorem dX3_fact_3 : decode cX3_fact 3 = .ok (.invokevirtual 31, 3) := by decide +kernel
theorem dX3_fact_6 : decode cX3_fact 6 = .ok (.istore_n 3, 1) := by decide +kernel
theorem dX3_fact_7 : decode cX3_fact 7 = .ok (.iload_n 3, 1) := by decide +kernel
theorem dX3_fact_8 : decode cX3_fact 8 = .ok (.ifCond .lt 21, 3) := by decide +kernel
theorem dX3_fact_11 : decode cX3_fact 11 = .ok (.iload_n 3, 1) := by decide +kernel
theorem dX3_fact_12 : decode cX3_fact 12 = .ok (.aload_n 0, 1) := by decide +kernel
theorem dX3_fact_13 : decode cX3_fact 13 = .ok (.getfield 9, 3) := by decide +kernel
theorem dX3_fact_16 : decode cX3_fact 16 = .ok (.arraylength, 1) := by decide +kernel
theorem dX3_fact_17 : decode cX3_fact 17 = .ok (.if_icmp .ge 12, 3) := by decide +kernel
theorem dX3_fact_20 : decode cX3_fact 20 = .ok (.aload_n 0, 1) := by decide +kernel
theorem dX3_fact_21 : decode cX3_fact 21 = .ok (.getfield 9, 3) := by decide +kernel
theorem dX3_fact_24 : decode cX3_fact 24 = .ok (.iload_n 3, 1) := by decide +kernel
theorem dX3_fact_25 : decode cX3_fact 25 = .ok (.iaload, 1) := by decide +kernel
theorem dX3_fact_26 : decode cX3_fact 26 = .ok (.goto 4, 3) := by decide +kernel
theorem dX3_fact_29 : decode cX3_fact 29 = .ok (.iconst 0, 1) := by decide +kernel
theorem dX3_fact_30 : decode cX3_fact 30 = .ok (.ireturn, 1) := by decide +kernel
theorem dX3_placeOf_0 : decode cX3_placeOf 0 = .ok (.aload_n 0, 1) := by decide +kernel
theorem dX3_placeOf_1 : decode cX3_placeOf 1 = .ok (.getfield 15, 3) := by decide +kernel
theorem dX3_placeOf_4 : decode cX3_placeOf 4 = .ok (.iconst 1, 1) := by decide +kernel
theorem dX3_placeOf_5 : decode cX3_placeOf 5 = .ok (.isub, 1) := by decide +kernel
theorem dX3_placeOf_6 : decode cX3_placeOf 6 = .ok (.iload_n 1, 1) := by decide +kernel
theorem dX3_placeOf_7 : decode cX3_placeOf 7 = .ok (.isub, 1) := by decide +kernel
theorem dX3_placeOf_8 : decode cX3_placeOf 8 = .ok (.bipush 48, 2) := by decide +kernel
theorem dX3_placeOf_10 : decode cX3_placeOf 10 = .ok (.irem, 1) := by decide +kernel
theorem dX3_placeOf_11 : decode cX3_placeOf 11 = .ok (.bipush 7, 2) := by decide +kernel
theorem dX3_placeOf_13 : decode cX3_placeOf 13 = .ok (.imul, 1) := by decide +kernel
theorem dX3_placeOf_14 : decode cX3_placeOf 14 = .ok (.iload_n 2, 1) := by decide +kernel
theorem dX3_placeOf_15 : decode cX3_placeOf 15 = .ok (.iadd, 1) := by decide +kernel
theorem dX3_placeOf_16 : decode cX3_placeOf 16 = .ok (.ireturn, 1) := by decide +kernel
set_option maxRecDepth 20000 in
theorem ggX3_sumOfRates_X3_length : GoodIn wsX3_sumOfRates wsX3_length := goodIn_r _ [5, 6, 7, 8, 9, 10, 20, 21] (by decide +kernel) (by decide +kernel)
set_option maxRecDepth 20000 in
theorem gX3_sumOfRates_X3_length : GoodIn wsX3_sumOfRates (wsV RX3 34 RX3 yX3_length wsX3_length) := goodIn_app (goodIn_of _ (by decide +kernel)) ggX3_sumOfRates_X3_length
set_option maxRecDepth 20000 in
theorem ggX3_sumOfRates_X3_fact : GoodIn wsX3_sumOfRates wsX3_fact := goodIn_r _ [14, 15, 16, 17, 18, 4, 19, 6, 20, 21] (by decide +kernel) (by decide +kernel)
set_option maxRecDepth 20000 in
theorem gX3_sumOfRates_X3_fact : GoodIn wsX3_sumOfRates (wsV RX3 38 RX3 yX3_fact wsX3_fact) := goodIn_app (goodIn_of _ (by decide +kernel)) ggX3_sumOfRates_X3_fact
theorem dX3_sumOfRates_0 : decode cX3_sumOfRates 0 = .ok (.iconst 0, 1) := by decide +kernel
theorem dX3_sumOfRates_1 : decode cX3_sumOfRates 1 = .ok (.istore_n 1, 1) := by decide +kernel
theorem dX3_sumOfRates_2 : decode cX3_sumOfRates 2 = .ok (.iconst 0, 1) := by decide +kernel
theorem dX3_sumOfRates_3 : decode cX3_sumOfRates 3 = .ok (.istore_n 2, 1) := by decide +kernel
theorem dX3_sumOfRates_4 : decode cX3_sumOfRates 4 = .ok (.iload_n 2, 1) := by decide +kernel
theorem dX3_sumOfRates_5 : decode cX3_sumOfRates 5 = .ok (.aload_n 0, 1) := by decide +kernel
theorem dX3_sumOfRates_6 : decode cX3_sumOfRates 6 = .ok (.invokevirtual 34, 3) := by decide +kernel
theorem dX3_sumOfRates_9 : decode cX3_sumOfRates 9 = .ok (.if_icmp .ge 18, 3) := by decide +kernel
theorem dX3_sumOfRates_12 : decode cX3_sumOfRates 12 = .ok (.iload_n 1, 1) := by decide +kernel
theorem dX3_sumOfRates_13 : decode cX3_sumOfRates 13 = .ok (.aload_n 0, 1) := by decide +kernel
theorem dX3_sumOfRates_14 : decode cX3_sumOfRates 14 = .ok (.iload_n 2, 1) := by decide +kernel
theorem dX3_sumOfRates_15 : decode cX3_sumOfRates 15 = .ok (.iconst 3, 1) := by decide +kernel
theorem dX3_sumOfRates_16 : decode cX3_sumOfRates 16 = .ok (.invokevirtual 38, 3) := by decide +kernel
theorem dX3_sumOfRates_19 : decode cX3_sumOfRates 19 = .ok (.iadd, 1) := by decide +kernel
theorem dX3_sumOfRates_20 : decode cX3_sumOfRates 20 = .ok (.istore_n 1, 1) := by decide +kernel
theorem dX3_sumOfRates_21 : decode cX3_sumOfRates 21 = .ok (.iinc 2 1, 3) := by decide +kernel
theorem dX3_sumOfRates_24 : decode cX3_sumOfRates 24 = .ok (.goto (-20), 3) := by decide +kernel
theorem dX3_sumOfRates_27 : decode cX3_sumOfRates 27 = .ok (.iload_n 1, 1) := by decide +kernel
theorem dX3_sumOfRates_28 : decode cX3_sumOfRates 28 = .ok (.ireturn, 1) := by decide +kernel
set_option maxRecDepth 20000 in
theorem ggX3_greatestRate_X3_fact : GoodIn wsX3_greatestRate wsX3_fact := goodIn_r _ [9, 10, 11, 12, 13, 8, 14, 15, 23, 24] (by decide +kernel) (by decide +kernel)
set_option maxRecDepth 20000 in
theorem gX3_greatestRate_X3_fact : GoodIn wsX3_greatestRate (wsV RX3 38 RX3 yX3_fact wsX3_fact) := goodIn_app (goodIn_of _ (by decide +kernel)) ggX3_greatestRate_X3_fact
set_option maxRecDepth 20000 in
theorem ggX3_greatestRate_X3_length : GoodIn wsX3_greatestRate wsX3_length := goodIn_r _ [19, 15, 20, 21, 3, 22, 23, 24] (by decide +kernel) (by decide +kernel)
set_option maxRecDepth 20000 in
theorem gX3_greatestRate_X3_length : GoodIn wsX3_greatestRate (wsV RX3 34 RX3 yX3_length wsX3_length) := goodIn_app (goodIn_of _ (by decide +kernel)) ggX3_greatestRate_X3_length
theorem dX3_greatestRate_0 : decode cX3_greatestRate 0 = .ok (.aload_n 0, 1) := by decide +kernel
theorem dX3_greatestRate_1 : decode cX3_greatestRate 1 = .ok (.iconst 0, 1) := by decide +kernel
theorem dX3_greatestRate_2 : decode cX3_greatestRate 2 = .ok (.iconst 3, 1) := by decide +kernel
theorem dX3_greatestRate_3 : decode cX3_greatestRate 3 = .ok (.invokevirtual 38, 3) := by decide +kernel
theorem dX3_greatestRate_6 : decode cX3_greatestRate 6 = .ok (.istore_n 1, 1) := by decide +kernel
theorem dX3_greatestRate_7 : decode cX3_greatestRate 7 = .ok (.iconst 1, 1) := by decide +kernel
theorem dX3_greatestRate_8 : decode cX3_greatestRate 8 = .ok (.istore_n 2, 1) := by decide +kernel
theorem dX3_greatestRate_9 : decode cX3_greatestRate 9 = .ok (.iload_n 2, 1) := by decide +kernel
theorem dX3_greatestRate_10 : decode cX3_greatestRate 10 = .ok (.aload_n 0, 1) := by decide +kernel
theorem dX3_greatestRate_11 : decode cX3_greatestRate 11 = .ok (.invokevirtual 34, 3) := by decide +kernel
theorem dX3_greatestRate_14 : decode cX3_greatestRate 14 = .ok (.if_icmp .ge 20, 3) := by decide +kernel
theorem dX3_greatestRate_17 : decode cX3_greatestRate 17 = .ok (.iload_n 1, 1) := by decide +kernel
theorem dX3_greatestRate_18 : decode cX3_greatestRate 18 = .ok (.aload_n 0, 1) := by decide +kernel
theorem dX3_greatestRate_19 : decode cX3_greatestRate 19 = .ok (.iload_n 2, 1) := by decide +kernel
theorem dX3_greatestRate_20 : decode cX3_greatestRate 20 = .ok (.iconst 3, 1) := by decide +kernel
theorem dX3_greatestRate_21 : decode cX3_greatestRate 21 = .ok (.invokevirtual 38, 3) := by decide +kernel
theorem dX3_greatestRate_24 : decode cX3_greatestRate 24 = .ok (.invokestatic 41, 3) := by decide +kernel
theorem dX3_greatestRate_27 : decode cX3_greatestRate 27 = .ok (.istore_n 1, 1) := by decide +kernel
theorem dX3_greatestRate_28 : decode cX3_greatestRate 28 = .ok (.iinc 2 1, 3) := by decide +kernel
theorem dX3_greatestRate_31 : decode cX3_greatestRate 31 = .ok (.goto (-22), 3) := by decide +kernel
theorem dX3_greatestRate_34 : decode cX3_greatestRate 34 = .ok (.iload_n 1, 1) := by decide +kernel
theorem dX3_greatestRate_35 : decode cX3_greatestRate 35 = .ok (.ireturn, 1) := by decide +kernel
set_option maxRecDepth 20000 in
theorem ggX3_leastRate_X3_fact : GoodIn wsX3_leastRate wsX3_fact := goodIn_r _ [9, 10, 11, 12, 13, 8, 14, 15, 20, 21] (by decide +kernel) (by decide +kernel)
set_option maxRecDepth 20000 in
theorem gX3_leastRate_X3_fact : GoodIn wsX3_leastRate (wsV RX3 38 RX3 yX3_fact wsX3_fact) := goodIn_app (goodIn_of _ (by decide +kernel)) ggX3_leastRate_X3_fact
set_option maxRecDepth 20000 in
theorem ggX3_leastRate_X3_length : GoodIn wsX3_leastRate wsX3_length := goodIn_r _ [19, 15, 1, 2, 3, 4, 20, 21] (by decide +kernel) (by decide +kernel)
set_option maxRecDepth 20000 in
theorem gX3_leastRate_X3_length : GoodIn wsX3_leastRate (wsV RX3 34 RX3 yX3_length wsX3_length) := goodIn_app (goodIn_of _ (by decide +kernel)) ggX3_leastRate_X3_length
theorem dX3_leastRate_0 : decode cX3_leastRate 0 = .ok (.aload_n 0, 1) := by decide +kernel
theorem dX3_leastRate_1 : decode cX3_leastRate 1 = .ok (.iconst 0, 1) := by decide +kernel
theorem dX3_leastRate_2 : decode cX3_leastRate 2 = .ok (.iconst 3, 1) := by decide +kernel
theorem dX3_leastRate_3 : decode cX3_leastRate 3 = .ok (.invokevirtual 38, 3) := by decide +kernel
theorem dX3_leastRate_6 : decode cX3_leastRate 6 = .ok (.istore_n 1, 1) := by decide +kernel
theorem dX3_leastRate_7 : decode cX3_leastRate 7 = .ok (.iconst 1, 1) := by decide +kernel
theorem dX3_leastRate_8 : decode cX3_leastRate 8 = .ok (.istore_n 2, 1) := by decide +kernel
theorem dX3_leastRate_9 : decode cX3_leastRate 9 = .ok (.iload_n 2, 1) := by decide +kernel
theorem dX3_leastRate_10 : decode cX3_leastRate 10 = .ok (.aload_n 0, 1) := by decide +kernel
theorem dX3_leastRate_11 : decode cX3_leastRate 11 = .ok (.invokevirtual 34, 3) := by decide +kernel
theorem dX3_leastRate_14 : decode cX3_leastRate 14 = .ok (.if_icmp .ge 20, 3) := by decide +kernel
theorem dX3_leastRate_17 : decode cX3_leastRate 17 = .ok (.iload_n 1, 1) := by decide +kernel
theorem dX3_leastRate_18 : decode cX3_leastRate 18 = .ok (.aload_n 0, 1) := by decide +kernel
theorem dX3_leastRate_19 : decode cX3_leastRate 19 = .ok (.iload_n 2, 1) := by decide +kernel
theorem dX3_leastRate_20 : decode cX3_leastRate 20 = .ok (.iconst 3, 1) := by decide +kernel
theorem dX3_leastRate_21 : decode cX3_leastRate 21 = .ok (.invokevirtual 38, 3) := by decide +kernel
theorem dX3_leastRate_24 : decode cX3_leastRate 24 = .ok (.invokestatic 19, 3) := by decide +kernel
theorem dX3_leastRate_27 : decode cX3_leastRate 27 = .ok (.istore_n 1, 1) := by decide +kernel
theorem dX3_leastRate_28 : decode cX3_leastRate 28 = .ok (.iinc 2 1, 3) := by decide +kernel
theorem dX3_leastRate_31 : decode cX3_leastRate 31 = .ok (.goto (-22), 3) := by decide +kernel
theorem dX3_leastRate_34 : decode cX3_leastRate 34 = .ok (.iload_n 1, 1) := by decide +kernel
theorem dX3_leastRate_35 : decode cX3_leastRate 35 = .ok (.ireturn, 1) := by decide +kernel
set_option maxRecDepth 20000 in
theorem ggX3_countAboveZero_X3_length : GoodIn wsX3_countAboveZero wsX3_length := goodIn_r _ [5, 6, 7, 8, 9, 10, 20, 21] (by decide +kernel) (by decide +kernel)
set_option maxRecDepth 20000 in
theorem gX3_countAboveZero_X3_length : GoodIn wsX3_countAboveZero (wsV RX3 34 RX3 yX3_length wsX3_length) := goodIn_app (goodIn_of _ (by decide +kernel)) ggX3_countAboveZero_X3_length
set_option maxRecDepth 20000 in
theorem ggX3_countAboveZero_X3_fact : GoodIn wsX3_countAboveZero wsX3_fact := goodIn_r _ [14, 15, 16, 17, 18, 4, 19, 6, 20, 21] (by decide +kernel) (by decide +kernel)
set_option maxRecDepth 20000 in
theorem gX3_countAboveZero_X3_fact : GoodIn wsX3_countAboveZero (wsV RX3 38 RX3 yX3_fact wsX3_fact) := goodIn_app (goodIn_of _ (by decide +kernel)) ggX3_countAboveZero_X3_fact
theorem dX3_countAboveZero_0 : decode cX3_countAboveZero 0 = .ok (.iconst 0, 1) := by decide +kernel
theorem dX3_countAboveZero_1 : decode cX3_countAboveZero 1 = .ok (.istore_n 2, 1) := by decide +kernel
theorem dX3_countAboveZero_2 : decode cX3_countAboveZero 2 = .ok (.iconst 0, 1) := by decide +kernel
theorem dX3_countAboveZero_3 : decode cX3_countAboveZero 3 = .ok (.istore_n 3, 1) := by decide +kernel
theorem dX3_countAboveZero_4 : decode cX3_countAboveZero 4 = .ok (.iload_n 3, 1) := by decide +kernel
theorem dX3_countAboveZero_5 : decode cX3_countAboveZero 5 = .ok (.aload_n 0, 1) := by decide +kernel
theorem dX3_countAboveZero_6 : decode cX3_countAboveZero 6 = .ok (.invokevirtual 34, 3) := by decide +kernel
theorem dX3_countAboveZero_9 : decode cX3_countAboveZero 9 = .ok (.if_icmp .ge 21, 3) := by decide +kernel
theorem dX3_countAboveZero_12 : decode cX3_countAboveZero 12 = .ok (.aload_n 0, 1) := by decide +kernel
theorem dX3_countAboveZero_13 : decode cX3_countAboveZero 13 = .ok (.iload_n 3, 1) := by decide +kernel
theorem dX3_countAboveZero_14 : decode cX3_countAboveZero 14 = .ok (.iload_n 1, 1) := by decide +kernel
theorem dX3_countAboveZero_15 : decode cX3_countAboveZero 15 = .ok (.invokevirtual 38, 3) := by decide +kernel
theorem dX3_countAboveZero_18 : decode cX3_countAboveZero 18 = .ok (.ifCond .le 6, 3) := by decide +kernel
theorem dX3_countAboveZero_21 : decode cX3_countAboveZero 21 = .ok (.iinc 2 1, 3) := by decide +kernel
theorem dX3_countAboveZero_24 : decode cX3_countAboveZero 24 = .ok (.iinc 3 1, 3) := by decide +kernel
theorem dX3_countAboveZero_27 : decode cX3_countAboveZero 27 = .ok (.goto (-23), 3) := by decide +kernel
theorem dX3_countAboveZero_30 : decode cX3_countAboveZero 30 = .ok (.iload_n 2, 1) := by decide +kernel
theorem dX3_countAboveZero_31 : decode cX3_countAboveZero 31 = .ok (.ireturn, 1) := by decide +kernel
set_option maxRecDepth 20000 in
theorem ggX3_countOtherTrays_X3_length : GoodIn wsX3_countOtherTrays wsX3_length := goodIn_r _ [5, 6, 7, 8, 9, 10, 20, 21] (by decide +kernel) (by decide +kernel)
set_option maxRecDepth 20000 in
theorem gX3_countOtherTrays_X3_length : GoodIn wsX3_countOtherTrays (wsV RX3 34 RX3 yX3_length wsX3_length) := goodIn_app (goodIn_of _ (by decide +kernel)) ggX3_countOtherTrays_X3_length
set_option maxRecDepth 20000 in
theorem ggX3_countOtherTrays_X3_fact : GoodIn wsX3_countOtherTrays wsX3_fact := goodIn_r _ [14, 15, 16, 17, 18, 4, 19, 6, 20, 21] (by decide +kernel) (by decide +kernel)
set_option maxRecDepth 20000 in
theorem gX3_countOtherTrays_X3_fact : GoodIn wsX3_countOtherTrays (wsV RX3 38 RX3 yX3_fact wsX3_fact) := goodIn_app (goodIn_of _ (by decide +kernel)) ggX3_countOtherTrays_X3_fact
theorem dX3_countOtherTrays_0 : decode cX3_countOtherTrays 0 = .ok (.iconst 0, 1) := by decide +kernel
theorem dX3_countOtherTrays_1 : decode cX3_countOtherTrays 1 = .ok (.istore_n 1, 1) := by decide +kernel
theorem dX3_countOtherTrays_2 : decode cX3_countOtherTrays 2 = .ok (.iconst 0, 1) := by decide +kernel
theorem dX3_countOtherTrays_3 : decode cX3_countOtherTrays 3 = .ok (.istore_n 2, 1) := by decide +kernel
theorem dX3_countOtherTrays_4 : decode cX3_countOtherTrays 4 = .ok (.iload_n 2, 1) := by decide +kernel
theorem dX3_countOtherTrays_5 : decode cX3_countOtherTrays 5 = .ok (.aload_n 0, 1) := by decide +kernel
theorem dX3_countOtherTrays_6 : decode cX3_countOtherTrays 6 = .ok (.invokevirtual 34, 3) := by decide +kernel
theorem dX3_countOtherTrays_9 : decode cX3_countOtherTrays 9 = .ok (.iconst 1, 1) := by decide +kernel
theorem dX3_countOtherTrays_10 : decode cX3_countOtherTrays 10 = .ok (.isub, 1) := by decide +kernel
theorem dX3_countOtherTrays_11 : decode cX3_countOtherTrays 11 = .ok (.if_icmp .ge 31, 3) := by decide +kernel
theorem dX3_countOtherTrays_14 : decode cX3_countOtherTrays 14 = .ok (.aload_n 0, 1) := by decide +kernel
theorem dX3_countOtherTrays_15 : decode cX3_countOtherTrays 15 = .ok (.iload_n 2, 1) := by decide +kernel
theorem dX3_countOtherTrays_16 : decode cX3_countOtherTrays 16 = .ok (.bipush 6, 2) := by decide +kernel
theorem dX3_countOtherTrays_18 : decode cX3_countOtherTrays 18 = .ok (.invokevirtual 38, 3) := by decide +kernel
theorem dX3_countOtherTrays_21 : decode cX3_countOtherTrays 21 = .ok (.aload_n 0, 1) := by decide +kernel
theorem dX3_countOtherTrays_22 : decode cX3_countOtherTrays 22 = .ok (.iload_n 2, 1) := by decide +kernel
theorem dX3_countOtherTrays_23 : decode cX3_countOtherTrays 23 = .ok (.iconst 1, 1) := by decide +kernel
theorem dX3_countOtherTrays_24 : decode cX3_countOtherTrays 24 = .ok (.iadd, 1) := by decide +kernel
theorem dX3_countOtherTrays_25 : decode cX3_countOtherTrays 25 = .ok (.bipush 6, 2) := by decide +kernel
theorem dX3_countOtherTrays_27 : decode cX3_countOtherTrays 27 = .ok (.invokevirtual 38, 3) := by decide +kernel
theorem dX3_countOtherTrays_30 : decode cX3_countOtherTrays 30 = .ok (.if_icmp .eq 6, 3) := by decide +kernel
theorem dX3_countOtherTrays_33 : decode cX3_countOtherTrays 33 = .ok (.iinc 1 1, 3) := by decide +kernel
theorem dX3_countOtherTrays_36 : decode cX3_countOtherTrays 36 = .ok (.iinc 2 1, 3) := by decide +kernel
theorem dX3_countOtherTrays_39 : decode cX3_countOtherTrays 39 = .ok (.goto (-35), 3) := by decide +kernel
theorem dX3_countOtherTrays_42 : decode cX3_countOtherTrays 42 = .ok (.iload_n 1, 1) := by decide +kernel
theorem dX3_countOtherTrays_43 : decode cX3_countOtherTrays 43 = .ok (.ireturn, 1) := by decide +kernel
theorem dX4_init_0 : decode cX4_init 0 = .ok (.aload_n 0, 1) := by decide +kernel
theorem dX4_init_1 : decode cX4_init 1 = .ok (.invokespecial 3, 3) := by decide +kernel
theorem dX4_init_4 : decode cX4_init 4 = .ok (.aload_n 0, 1) := by decide +kernel
theorem dX4_init_5 : decode cX4_init 5 = .ok (.bipush 80, 2) := by decide +kernel
theorem dX4_init_7 : decode cX4_init 7 = .ok (.newarray .char, 2) := by decide +kernel
theorem dX4_init_9 : decode cX4_init 9 = .ok (.putfield 9, 3) := by decide +kernel
theorem dX4_init_12 : decode cX4_init 12 = .ok (.return_, 1) := by decide +kernel
set_option maxRecDepth 20000 in
theorem ggX5_init_X4_init : GoodIn wsX5_init wsX4_init := goodIn_r _ [9, 10, 2, 3, 11, 12, 13, 14] (by decide +kernel) (by decide +kernel)
set_option maxRecDepth 20000 in
theorem gX5_init_X4_init_n11 : GoodIn wsX5_init (wsX4_init) := ggX5_init_X4_init
theorem dX5_init_0 : decode cX5_init 0 = .ok (.aload_n 0, 1) := by decide +kernel
theorem dX5_init_1 : decode cX5_init 1 = .ok (.invokespecial 3, 3) := by decide +kernel
theorem dX5_init_4 : decode cX5_init 4 = .ok (.aload_n 0, 1) := by decide +kernel
theorem dX5_init_5 : decode cX5_init 5 = .ok (.new 9, 3) := by decide +kernel
theorem dX5_init_8 : decode cX5_init 8 = .ok (.dup, 1) := by decide +kernel
theorem dX5_init_9 : decode cX5_init 9 = .ok (.invokespecial 11, 3) := by decide +kernel
theorem dX5_init_12 : decode cX5_init 12 = .ok (.putfield 12, 3) := by decide +kernel
theorem dX5_init_15 : decode cX5_init 15 = .ok (.return_, 1) := by decide +kernel
set_option maxRecDepth 20000 in
theorem ggX6_init_X0_init : GoodIn wsX6_init wsX0_init := goodIn_r _ [9, 10, 2, 3, 11, 12, 13, 14, 15, 16, 17, 18, 19, 20, 21, 22, 23, 24, 25, 26, 27, 28, 29, 30, 31, 32, 33, 34, 37, 38, 39, 40] (by decide +kernel) (by decide +kernel)
set_option maxRecDepth 20000 in
theorem gX6_init_X0_init_n9 : GoodIn wsX6_init (wsX0_init) := ggX6_init_X0_init
theorem dX6_init_0 : decode cX6_init 0 = .ok (.aload_n 0, 1) := by decide +kernel
theorem dX6_init_1 : decode cX6_init 1 = .ok (.invokespecial 1, 3) := by decide +kernel
theorem dX6_init_4 : decode cX6_init 4 = .ok (.aload_n 0, 1) := by decide +kernel
theorem dX6_init_5 : decode cX6_init 5 = .ok (.new 7, 3) := by decide +kernel
theorem dX6_init_8 : decode cX6_init 8 = .ok (.dup, 1) := by decide +kernel
theorem dX6_init_9 : decode cX6_init 9 = .ok (.invokespecial 9, 3) := by decide +kernel
theorem dX6_init_12 : decode cX6_init 12 = .ok (.putfield 10, 3) := by decide +kernel
theorem dX6_init_15 : decode cX6_init 15 = .ok (.return_, 1) := by decide +kernel
set_option maxRecDepth 20000 in
theorem ggX7_init_X0_init : GoodIn wsX7_init wsX0_init := goodIn_r _ [26, 27, 2, 3, 28, 29, 30, 22, 23, 31, 32, 33, 34, 35, 36, 37, 38, 39, 40, 41, 42, 66, 67, 68, 69, 70, 71, 72, 91, 92, 93, 94] (by decide +kernel) (by decide +kernel)
set_option maxRecDepth 20000 in
theorem gX7_init_X0_init_n9 : GoodIn wsX7_init (wsX0_init) := ggX7_init_X0_init
set_option maxRecDepth 20000 in
theorem ggX7_init_X2_init : GoodIn wsX7_init wsX2_init := goodIn_r _ [45, 46, 2, 3, 47, 48, 5, 6, 25, 26, 27, 28, 29, 30, 22, 23, 31, 32, 33, 34, 35, 36, 37, 38, 39, 40, 41, 42, 79, 80, 66, 67, 68, 69, 70, 71, 72, 91, 92, 93, 94] (by decide +kernel) (by decide +kernel)
set_option maxRecDepth 20000 in
theorem gX7_init_X2_init : GoodIn wsX7_init (wsX2_init) := ggX7_init_X2_init
set_option maxRecDepth 20000 in
theorem ggX7_init_X6_init : GoodIn wsX7_init wsX6_init := goodIn_r _ [50, 51, 2, 3, 52, 5, 6, 53, 25, 26, 27, 28, 29, 30, 22, 23, 31, 32, 33, 34, 35, 36, 37, 38, 39, 40, 41, 42, 66, 67, 68, 69, 70, 71, 72, 81, 82, 91, 92, 93, 94] (by decide +kernel) (by decide +kernel)
set_option maxRecDepth 20000 in
theorem gX7_init_X6_init_n25 : GoodIn wsX7_init (wsX6_init) := ggX7_init_X6_init
set_option maxRecDepth 20000 in
theorem ggX7_init_X5_init : GoodIn wsX7_init wsX5_init := goodIn_r _ [55, 56, 2, 3, 57, 58, 59, 60, 61, 62, 63, 64, 65, 95, 96, 83, 84, 85, 86, 87, 88, 89, 90] (by decide +kernel) (by decide +kernel)
set_option maxRecDepth 20000 in
theorem gX7_init_X5_init_n35 : GoodIn wsX7_init (wsX5_init) := ggX7_init_X5_init
set_option maxRecDepth 20000 in
theorem ggX7_init_X1_init : GoodIn wsX7_init wsX1_init := goodIn_r _ [37, 38, 2, 3] (by decide +kernel) (by decide +kernel)
set_option maxRecDepth 20000 in
theorem gX7_init_X1_init_n42 : GoodIn wsX7_init (wsX1_init) := ggX7_init_X1_init
theorem dX7_init_0 : decode cX7_init 0 = .ok (.aload_n 0, 1) := by decide +kernel
theorem dX7_init_1 : decode cX7_init 1 = .ok (.invokespecial 1, 3) := by decide +kernel
theorem dX7_init_4 : decode cX7_init 4 = .ok (.aload_n 0, 1) := by decide +kernel
theorem dX7_init_5 : decode cX7_init 5 = .ok (.new 7, 3) := by decide +kernel
theorem dX7_init_8 : decode cX7_init 8 = .ok (.dup, 1) := by decide +kernel
theorem dX7_init_9 : decode cX7_init 9 = .ok (.invokespecial 9, 3) := by decide +kernel
theorem dX7_init_12 : decode cX7_init 12 = .ok (.putfield 10, 3) := by decide +kernel
theorem dX7_init_15 : decode cX7_init 15 = .ok (.aload_n 0, 1) := by decide +kernel
theorem dX7_init_16 : decode cX7_init 16 = .ok (.new 16, 3) := by decide +kernel
theorem dX7_init_19 : decode cX7_init 19 = .ok (.dup, 1) := by decide +kernel
theorem dX7_init_20 : decode cX7_init 20 = .ok (.invokespecial 18, 3) := by decide +kernel
theorem dX7_init_23 : decode cX7_init 23 = .ok (.putfield 19, 3) := by decide +kernel
theorem dX7_init_26 : decode cX7_init 26 = .ok (.aload_n 0, 1) := by decide +kernel
theorem dX7_init_27 : decode cX7_init 27 = .ok (.new 23, 3) := by decide +kernel
theorem dX7_init_30 : decode cX7_init 30 = .ok (.dup, 1) := by decide +kernel
theorem dX7_init_31 : decode cX7_init 31 = .ok (.invokespecial 25, 3) := by decide +kernel
theorem dX7_init_34 : decode cX7_init 34 = .ok (.putfield 26, 3) := by decide +kernel
theorem dX7_init_37 : decode cX7_init 37 = .ok (.aload_n 0, 1) := by decide +kernel
