set_option maxRecDepth 20000 in
theorem inlX0 : ∀ w ∈ wsX00, w ∈ wsL_law := fun _ h => List.mem_append_left _ (List.mem_append_left _ (List.mem_append_right _ h))
theorem inlX1 : ∀ w ∈ wsX10, w ∈ wsL_law := fun _ h => List.mem_append_left _ (List.mem_append_left _ (List.mem_append_left _ (List.mem_append_left _ (List.mem_append_right _ h))))
theorem inlX2 : ∀ w ∈ wsX20, w ∈ wsL_law := fun _ h => List.mem_append_left _ (List.mem_append_left _ (List.mem_append_left _ (List.mem_append_right _ h)))
theorem inlX3 : ∀ w ∈ wsX30, w ∈ wsL_law := fun _ h => List.mem_append_left _ (List.mem_append_right _ h)
theorem inlX4 : ∀ w ∈ wsX40, w ∈ wsL_law := fun _ h => List.mem_append_left _ (List.mem_append_left _ (List.mem_append_left _ (List.mem_append_left _ (List.mem_append_left _ (List.mem_append_left _ (List.mem_append_right _ h))))))
theorem inlX5 : ∀ w ∈ wsX50, w ∈ wsL_law := fun _ h => List.mem_append_left _ (List.mem_append_left _ (List.mem_append_left _ (List.mem_append_left _ (List.mem_append_left _ (List.mem_append_right _ h)))))
theorem inlX6 : ∀ w ∈ wsX60, w ∈ wsL_law := fun _ h => List.mem_append_left _ (List.mem_append_left _ (List.mem_append_left _ (List.mem_append_left _ (List.mem_append_left _ (List.mem_append_left _ (List.mem_append_left _ (List.mem_append_right _ h)))))))
theorem inX7 : ∀ w ∈ wsX70, w ∈ lw_tbl := by decide +kernel
theorem inJ6 : ∀ w ∈ wsJ60, w ∈ lw_tbl := by decide +kernel
theorem inJ13 : ∀ w ∈ wsJ130, w ∈ lw_tbl := by decide +kernel
theorem inJ9 : ∀ w ∈ wsJ90, w ∈ lw_tbl := by decide +kernel
theorem inJ10 : ∀ w ∈ wsJ100, w ∈ lw_tbl := by decide +kernel
set_option maxRecDepth 20000 in
theorem ggX0_init_X4_init : GoodIn wsX0_init wsX4_init := goodIn_r _ [10, 11, 2, 3, 12, 13, 14, 15, 16, 17, 18, 19, 20, 21, 22, 23, 24, 25, 26, 27, 31, 32, 33, 34, 35, 36, 37, 38, 39, 40, 41, 42] (by decide +kernel) (by decide +kernel)
set_option maxRecDepth 20000 in
theorem gX0_init_X4_init : GoodIn wsX0_init (wsX4_init) := ggX0_init_X4_init
theorem dX0_init_0 : decode cX0_init 0 = .ok (.aload_n 0, 1) := by decide +kernel
theorem dX0_init_1 : decode cX0_init 1 = .ok (.invokespecial 3, 3) := by decide +kernel
theorem dX0_init_4 : decode cX0_init 4 = .ok (.aload_n 0, 1) := by decide +kernel
theorem dX0_init_5 : decode cX0_init 5 = .ok (.iconst 5, 1) := by decide +kernel
theorem dX0_init_6 : decode cX0_init 6 = .ok (.anewarray 9, 3) := by decide +kernel
theorem dX0_init_9 : decode cX0_init 9 = .ok (.putfield 11, 3) := by decide +kernel
theorem dX0_init_12 : decode cX0_init 12 = .ok (.iconst 0, 1) := by decide +kernel
theorem dX0_init_13 : decode cX0_init 13 = .ok (.istore_n 1, 1) := by decide +kernel
theorem dX0_init_14 : decode cX0_init 14 = .ok (.iload_n 1, 1) := by decide +kernel
theorem dX0_init_15 : decode cX0_init 15 = .ok (.iconst 5, 1) := by decide +kernel
theorem dX0_init_16 : decode cX0_init 16 = .ok (.if_icmp .ge 22, 3) := by decide +kernel
theorem dX0_init_19 : decode cX0_init 19 = .ok (.aload_n 0, 1) := by decide +kernel
theorem dX0_init_20 : decode cX0_init 20 = .ok (.getfield 11, 3) := by decide +kernel
theorem dX0_init_23 : decode cX0_init 23 = .ok (.iload_n 1, 1) := by decide +kernel
theorem dX0_init_24 : decode cX0_init 24 = .ok (.new 9, 3) := by decide +kernel
theorem dX0_init_27 : decode cX0_init 27 = .ok (.dup, 1) := by decide +kernel
theorem dX0_init_28 : decode cX0_init 28 = .ok (.invokespecial 17, 3) := by decide +kernel
theorem dX0_init_31 : decode cX0_init 31 = .ok (.aastore, 1) := by decide +kernel
theorem dX0_init_32 : decode cX0_init 32 = .ok (.iinc 1 1, 3) := by decide +kernel
theorem dX0_init_35 : decode cX0_init 35 = .ok (.goto (-21), 3) := by decide +kernel
theorem dX0_init_38 : decode cX0_init 38 = .ok (.return_, 1) := by decide +kernel
set_option maxRecDepth 20000 in
theorem ggX0_remember_X0_stateAt : GoodIn wsX0_remember wsX0_stateAt := goodIn_r _ [7, 8, 2, 9, 10, 11, 12, 40, 41, 42] (by decide +kernel) (by decide +kernel)
set_option maxRecDepth 20000 in
theorem gX0_remember_X0_stateAt : GoodIn wsX0_remember (wsV RX0 22 RX0 yX0_stateAt wsX0_stateAt) := goodIn_app (goodIn_of _ (by decide +kernel)) ggX0_remember_X0_stateAt
set_option maxRecDepth 20000 in
theorem ggX0_remember_X4_copyFrom : GoodIn wsX0_remember wsX4_copyFrom := goodIn_r _ [17, 18, 19, 20, 21, 22, 23, 24, 25, 26, 27, 28, 29, 30, 31, 32, 33, 34, 35, 36, 37, 38, 39, 43, 44, 45, 46, 47, 48, 49, 50, 51, 52, 53, 54] (by decide +kernel) (by decide +kernel)
set_option maxRecDepth 20000 in
theorem gX0_remember_X4_copyFrom : GoodIn wsX0_remember (wsV RX0 26 RX4 yX4_copyFrom wsX4_copyFrom) := goodIn_app (goodIn_of _ (by decide +kernel)) ggX0_remember_X4_copyFrom
theorem dX0_remember_0 : decode cX0_remember 0 = .ok (.aload_n 0, 1) := by decide +kernel
theorem dX0_remember_1 : decode cX0_remember 1 = .ok (.aload_n 0, 1) := by decide +kernel
theorem dX0_remember_2 : decode cX0_remember 2 = .ok (.getfield 18, 3) := by decide +kernel
theorem dX0_remember_5 : decode cX0_remember 5 = .ok (.invokevirtual 22, 3) := by decide +kernel
theorem dX0_remember_8 : decode cX0_remember 8 = .ok (.aload_n 1, 1) := by decide +kernel
theorem dX0_remember_9 : decode cX0_remember 9 = .ok (.invokevirtual 26, 3) := by decide +kernel
theorem dX0_remember_12 : decode cX0_remember 12 = .ok (.aload_n 0, 1) := by decide +kernel
theorem dX0_remember_13 : decode cX0_remember 13 = .ok (.getfield 18, 3) := by decide +kernel
theorem dX0_remember_16 : decode cX0_remember 16 = .ok (.iconst 5, 1) := by decide +kernel
theorem dX0_remember_17 : decode cX0_remember 17 = .ok (.if_icmp .ge 16, 3) := by decide +kernel
theorem dX0_remember_20 : decode cX0_remember 20 = .ok (.aload_n 0, 1) := by decide +kernel
theorem dX0_remember_21 : decode cX0_remember 21 = .ok (.dup, 1) := by decide +kernel
theorem dX0_remember_22 : decode cX0_remember 22 = .ok (.getfield 18, 3) := by decide +kernel
theorem dX0_remember_25 : decode cX0_remember 25 = .ok (.iconst 1, 1) := by decide +kernel
theorem dX0_remember_26 : decode cX0_remember 26 = .ok (.iadd, 1) := by decide +kernel
theorem dX0_remember_27 : decode cX0_remember 27 = .ok (.putfield 18, 3) := by decide +kernel
theorem dX0_remember_30 : decode cX0_remember 30 = .ok (.goto 15, 3) := by decide +kernel
theorem dX0_remember_33 : decode cX0_remember 33 = .ok (.aload_n 0, 1) := by decide +kernel
theorem dX0_remember_34 : decode cX0_remember 34 = .ok (.aload_n 0, 1) := by decide +kernel
theorem dX0_remember_35 : decode cX0_remember 35 = .ok (.getfield 30, 3) := by decide +kernel
theorem dX0_remember_38 : decode cX0_remember 38 = .ok (.iconst 1, 1) := by decide +kernel
theorem dX0_remember_39 : decode cX0_remember 39 = .ok (.iadd, 1) := by decide +kernel
theorem dX0_remember_40 : decode cX0_remember 40 = .ok (.iconst 5, 1) := by decide +kernel
theorem dX0_remember_41 : decode cX0_remember 41 = .ok (.irem, 1) := by decide +kernel
theorem dX0_remember_42 : decode cX0_remember 42 = .ok (.putfield 30, 3) := by decide +kernel
theorem dX0_remember_45 : decode cX0_remember 45 = .ok (.return_, 1) := by decide +kernel
set_option maxRecDepth 20000 in
theorem ggX0_takeBack_X0_stateAt : GoodIn wsX0_takeBack wsX0_stateAt := goodIn_r _ [6, 7, 8, 9, 10, 11, 12, 40, 41, 42] (by decide +kernel) (by decide +kernel)
set_option maxRecDepth 20000 in
theorem gX0_takeBack_X0_stateAt : GoodIn wsX0_takeBack (wsV RX0 22 RX0 yX0_stateAt wsX0_stateAt) := goodIn_app (goodIn_of _ (by decide +kernel)) ggX0_takeBack_X0_stateAt
set_option maxRecDepth 20000 in
theorem ggX0_takeBack_X4_copyFrom : GoodIn wsX0_takeBack wsX4_copyFrom := goodIn_r _ [17, 18, 19, 20, 21, 22, 23, 24, 25, 26, 27, 28, 29, 30, 31, 32, 33, 34, 35, 36, 37, 38, 39, 43, 44, 45, 46, 47, 48, 49, 50, 51, 52, 53, 54] (by decide +kernel) (by decide +kernel)
set_option maxRecDepth 20000 in
theorem gX0_takeBack_X4_copyFrom : GoodIn wsX0_takeBack (wsV RX0 26 RX4 yX4_copyFrom wsX4_copyFrom) := goodIn_app (goodIn_of _ (by decide +kernel)) ggX0_takeBack_X4_copyFrom
theorem dX0_takeBack_0 : decode cX0_takeBack 0 = .ok (.aload_n 0, 1) := by decide +kernel
theorem dX0_takeBack_1 : decode cX0_takeBack 1 = .ok (.getfield 18, 3) := by decide +kernel
theorem dX0_takeBack_4 : decode cX0_takeBack 4 = .ok (.ifCond .le 25, 3) := by decide +kernel
theorem dX0_takeBack_7 : decode cX0_takeBack 7 = .ok (.aload_n 0, 1) := by decide +kernel
theorem dX0_takeBack_8 : decode cX0_takeBack 8 = .ok (.dup, 1) := by decide +kernel
theorem dX0_takeBack_9 : decode cX0_takeBack 9 = .ok (.getfield 18, 3) := by decide +kernel
theorem dX0_takeBack_12 : decode cX0_takeBack 12 = .ok (.iconst 1, 1) := by decide +kernel
theorem dX0_takeBack_13 : decode cX0_takeBack 13 = .ok (.isub, 1) := by decide +kernel
theorem dX0_takeBack_14 : decode cX0_takeBack 14 = .ok (.putfield 18, 3) := by decide +kernel
theorem dX0_takeBack_17 : decode cX0_takeBack 17 = .ok (.aload_n 1, 1) := by decide +kernel
theorem dX0_takeBack_18 : decode cX0_takeBack 18 = .ok (.aload_n 0, 1) := by decide +kernel
theorem dX0_takeBack_19 : decode cX0_takeBack 19 = .ok (.aload_n 0, 1) := by decide +kernel
theorem dX0_takeBack_20 : decode cX0_takeBack 20 = .ok (.getfield 18, 3) := by decide +kernel
theorem dX0_takeBack_23 : decode cX0_takeBack 23 = .ok (.invokevirtual 22, 3) := by decide +kernel
theorem dX0_takeBack_26 : decode cX0_takeBack 26 = .ok (.invokevirtual 26, 3) := by decide +kernel
theorem dX0_takeBack_29 : decode cX0_takeBack 29 = .ok (.return_, 1) := by decide +kernel
set_option maxRecDepth 20000 in
theorem ggX0_stateAt_J9_floorMod_7cf53 : GoodIn wsX0_stateAt wsJ9_floorMod_7cf53 := goodIn_r _ [6] (by decide +kernel) (by decide +kernel)
set_option maxRecDepth 20000 in
theorem gX0_stateAt_J9_floorMod_7cf53 : GoodIn wsX0_stateAt (va_wsS RX0 33 yJ9_floorMod_7cf53 wsJ9_floorMod_7cf53) := goodIn_app (goodIn_of _ (by decide +kernel)) ggX0_stateAt_J9_floorMod_7cf53
theorem dX0_stateAt_0 : decode cX0_stateAt 0 = .ok (.aload_n 0, 1) := by decide +kernel
theorem dX0_stateAt_1 : decode cX0_stateAt 1 = .ok (.getfield 11, 3) := by decide +kernel
theorem dX0_stateAt_4 : decode cX0_stateAt 4 = .ok (.aload_n 0, 1) := by decide +kernel
theorem dX0_stateAt_5 : decode cX0_stateAt 5 = .ok (.getfield 30, 3) := by decide +kernel
theorem dX0_stateAt_8 : decode cX0_stateAt 8 = .ok (.iload_n 1, 1) := by decide +kernel
theorem dX0_stateAt_9 : decode cX0_stateAt 9 = .ok (.iadd, 1) := by decide +kernel
theorem dX0_stateAt_10 : decode cX0_stateAt 10 = .ok (.iconst 5, 1) := by decide +kernel
theorem dX0_stateAt_11 : decode cX0_stateAt 11 = .ok (.invokestatic 33, 3) := by decide +kernel
theorem dX0_stateAt_14 : decode cX0_stateAt 14 = .ok (.aaload, 1) := by decide +kernel
theorem dX0_stateAt_15 : decode cX0_stateAt 15 = .ok (.areturn, 1) := by decide +kernel
theorem dX1_init_0 : decode cX1_init 0 = .ok (.aload_n 0, 1) := by decide +kernel
theorem dX1_init_1 : decode cX1_init 1 = .ok (.invokespecial 3, 3) := by decide +kernel
theorem dX1_init_4 : decode cX1_init 4 = .ok (.aload_n 0, 1) := by decide +kernel
theorem dX1_init_5 : decode cX1_init 5 = .ok (.bipush 24, 2) := by decide +kernel
theorem dX1_init_7 : decode cX1_init 7 = .ok (.newarray .int, 2) := by decide +kernel
theorem dX1_init_9 : decode cX1_init 9 = .ok (.putfield 9, 3) := by decide +kernel
theorem dX1_init_12 : decode cX1_init 12 = .ok (.aload_n 0, 1) := by decide +kernel
theorem dX1_init_13 : decode cX1_init 13 = .ok (.bipush 24, 2) := by decide +kernel
theorem dX1_init_15 : decode cX1_init 15 = .ok (.newarray .boolean, 2) := by decide +kernel
theorem dX1_init_17 : decode cX1_init 17 = .ok (.putfield 15, 3) := by decide +kernel
theorem dX1_init_20 : decode cX1_init 20 = .ok (.aload_n 0, 1) := by decide +kernel
theorem dX1_init_21 : decode cX1_init 21 = .ok (.bipush 24, 2) := by decide +kernel
theorem dX1_init_23 : decode cX1_init 23 = .ok (.newarray .int, 2) := by decide +kernel
theorem dX1_init_25 : decode cX1_init 25 = .ok (.putfield 19, 3) := by decide +kernel
theorem dX1_init_28 : decode cX1_init 28 = .ok (.aload_n 0, 1) := by decide +kernel
theorem dX1_init_29 : decode cX1_init 29 = .ok (.aload_n 1, 1) := by decide +kernel
theorem dX1_init_30 : decode cX1_init 30 = .ok (.putfield 22, 3) := by decide +kernel
theorem dX1_init_33 : decode cX1_init 33 = .ok (.return_, 1) := by decide +kernel
set_option maxRecDepth 20000 in
theorem ggX1_plan_X1_partsInReach : GoodIn wsX1_plan wsX1_partsInReach := goodIn_r _ [9, 2, 3, 10, 11, 12, 13, 14, 66, 67, 68, 69, 70, 71, 72, 73, 74, 75, 76, 77, 78, 79, 80, 81] (by decide +kernel) (by decide +kernel)
set_option maxRecDepth 20000 in
theorem gX1_plan_X1_partsInReach : GoodIn wsX1_plan (wsV RX1 26 RX1 yX1_partsInReach wsX1_partsInReach) := goodIn_app (goodIn_of _ (by decide +kernel)) ggX1_plan_X1_partsInReach
set_option maxRecDepth 20000 in
theorem ggX1_plan_X3_lowestAlike : GoodIn wsX1_plan wsX3_lowestAlike := goodIn_r _ [19, 20, 21, 22, 18, 23, 24, 25, 26, 27, 28, 29, 30, 31, 32, 33, 34, 35, 36, 37, 38, 39, 40, 41, 42, 43, 44, 45, 79, 80, 81] (by decide +kernel) (by decide +kernel)
set_option maxRecDepth 20000 in
theorem gX1_plan_X3_lowestAlike : GoodIn wsX1_plan (wsV RX1 36 RX3 yX3_lowestAlike wsX3_lowestAlike) := goodIn_app (goodIn_of _ (by decide +kernel)) ggX1_plan_X3_lowestAlike
set_option maxRecDepth 20000 in
theorem ggX1_plan_X1_letStayWhatIsShown : GoodIn wsX1_plan wsX1_letStayWhatIsShown := goodIn_r _ [49, 2, 50, 4, 51, 52, 53, 54, 55, 56, 57, 58, 59, 8, 60, 1, 66, 67, 68, 69, 70, 71, 72, 73, 74, 75, 76, 77, 78] (by decide +kernel) (by decide +kernel)
set_option maxRecDepth 20000 in
theorem gX1_plan_X1_letStayWhatIsShown : GoodIn wsX1_plan (wsV RX1 42 RX1 yX1_letStayWhatIsShown wsX1_letStayWhatIsShown) := goodIn_app (goodIn_of _ (by decide +kernel)) ggX1_plan_X1_letStayWhatIsShown
set_option maxRecDepth 20000 in
theorem ggX1_plan_X1_numberAnew : GoodIn wsX1_plan wsX1_numberAnew := goodIn_r _ [64, 65, 4, 5, 6, 7, 8, 9, 2, 3, 10, 11, 12, 13, 14, 66, 67, 68, 69, 70, 71, 72, 73, 74, 75, 76, 77, 78, 79, 80, 81] (by decide +kernel) (by decide +kernel)
set_option maxRecDepth 20000 in
theorem gX1_plan_X1_numberAnew : GoodIn wsX1_plan (wsV RX1 45 RX1 yX1_numberAnew wsX1_numberAnew) := goodIn_app (goodIn_of _ (by decide +kernel)) ggX1_plan_X1_numberAnew
theorem dX1_plan_0 : decode cX1_plan 0 = .ok (.aload_n 0, 1) := by decide +kernel
theorem dX1_plan_1 : decode cX1_plan 1 = .ok (.invokevirtual 26, 3) := by decide +kernel
theorem dX1_plan_4 : decode cX1_plan 4 = .ok (.istore_n 2, 1) := by decide +kernel
theorem dX1_plan_5 : decode cX1_plan 5 = .ok (.iconst 0, 1) := by decide +kernel
theorem dX1_plan_6 : decode cX1_plan 6 = .ok (.istore_n 3, 1) := by decide +kernel
theorem dX1_plan_7 : decode cX1_plan 7 = .ok (.iload_n 3, 1) := by decide +kernel
theorem dX1_plan_8 : decode cX1_plan 8 = .ok (.iload_n 2, 1) := by decide +kernel
theorem dX1_plan_9 : decode cX1_plan 9 = .ok (.if_icmp .ge 51, 3) := by decide +kernel
theorem dX1_plan_12 : decode cX1_plan 12 = .ok (.aload_n 0, 1) := by decide +kernel
theorem dX1_plan_13 : decode cX1_plan 13 = .ok (.getfield 9, 3) := by decide +kernel
theorem dX1_plan_16 : decode cX1_plan 16 = .ok (.iload_n 3, 1) := by decide +kernel
theorem dX1_plan_17 : decode cX1_plan 17 = .ok (.aload_n 0, 1) := by decide +kernel
theorem dX1_plan_18 : decode cX1_plan 18 = .ok (.getfield 22, 3) := by decide +kernel
theorem dX1_plan_21 : decode cX1_plan 21 = .ok (.getfield 30, 3) := by decide +kernel
theorem dX1_plan_24 : decode cX1_plan 24 = .ok (.iload_n 3, 1) := by decide +kernel
theorem dX1_plan_25 : decode cX1_plan 25 = .ok (.invokevirtual 36, 3) := by decide +kernel
theorem dX1_plan_28 : decode cX1_plan 28 = .ok (.iastore, 1) := by decide +kernel
theorem dX1_plan_29 : decode cX1_plan 29 = .ok (.aload_n 0, 1) := by decide +kernel
theorem dX1_plan_30 : decode cX1_plan 30 = .ok (.getfield 15, 3) := by decide +kernel
theorem dX1_plan_33 : decode cX1_plan 33 = .ok (.iload_n 3, 1) := by decide +kernel
theorem dX1_plan_34 : decode cX1_plan 34 = .ok (.iload_n 1, 1) := by decide +kernel
theorem dX1_plan_35 : decode cX1_plan 35 = .ok (.ifCond .ne 17, 3) := by decide +kernel
theorem dX1_plan_38 : decode cX1_plan 38 = .ok (.aload_n 0, 1) := by decide +kernel
theorem dX1_plan_39 : decode cX1_plan 39 = .ok (.getfield 9, 3) := by decide +kernel
theorem dX1_plan_42 : decode cX1_plan 42 = .ok (.iload_n 3, 1) := by decide +kernel
theorem dX1_plan_43 : decode cX1_plan 43 = .ok (.iaload, 1) := by decide +kernel
theorem dX1_plan_44 : decode cX1_plan 44 = .ok (.iload_n 3, 1) := by decide +kernel
theorem dX1_plan_45 : decode cX1_plan 45 = .ok (.if_icmp .ne 7, 3) := by decide +kernel
theorem dX1_plan_48 : decode cX1_plan 48 = .ok (.iconst 1, 1) := by decide +kernel
theorem dX1_plan_49 : decode cX1_plan 49 = .ok (.goto 4, 3) := by decide +kernel
theorem dX1_plan_52 : decode cX1_plan 52 = .ok (.iconst 0, 1) := by decide +kernel
theorem dX1_plan_53 : decode cX1_plan 53 = .ok (.bastore, 1) := by decide +kernel
theorem dX1_plan_54 : decode cX1_plan 54 = .ok (.iinc 3 1, 3) := by decide +kernel
theorem dX1_plan_57 : decode cX1_plan 57 = .ok (.goto (-50), 3) := by decide +kernel
theorem dX1_plan_60 : decode cX1_plan 60 = .ok (.iload_n 1, 1) := by decide +kernel
theorem dX1_plan_61 : decode cX1_plan 61 = .ok (.ifCond .eq 7, 3) := by decide +kernel
theorem dX1_plan_64 : decode cX1_plan 64 = .ok (.aload_n 0, 1) := by decide +kernel
theorem dX1_plan_65 : decode cX1_plan 65 = .ok (.invokevirtual 42, 3) := by decide +kernel
theorem dX1_plan_68 : decode cX1_plan 68 = .ok (.iload_n 2, 1) := by decide +kernel
theorem dX1_plan_69 : decode cX1_plan 69 = .ok (.aload_n 0, 1) := by decide +kernel
theorem dX1_plan_70 : decode cX1_plan 70 = .ok (.invokevirtual 45, 3) := by decide +kernel
theorem dX1_plan_73 : decode cX1_plan 73 = .ok (.isub, 1) := by decide +kernel
theorem dX1_plan_74 : decode cX1_plan 74 = .ok (.ireturn, 1) := by decide +kernel
set_option maxRecDepth 20000 in
theorem ggX1_carryOut_X1_unite : GoodIn wsX1_carryOut wsX1_unite := goodIn_r _ [10, 1, 4, 11, 12, 13, 14, 15, 16, 17, 18, 19, 20, 9, 21, 22, 23, 24, 25, 26, 27, 28, 29, 30, 31, 32, 33, 34, 35, 36, 37, 38, 39, 40, 41, 42, 43, 44, 45, 46, 47, 48, 49, 50, 51, 52, 53, 68, 69, 70, 71, 72, 73, 74, 75, 76, 77, 78, 79, 80, 81, 82, 83] (by decide +kernel) (by decide +kernel)
set_option maxRecDepth 20000 in
theorem gX1_carryOut_X1_unite : GoodIn wsX1_carryOut (wsV RX1 52 RX1 yX1_unite wsX1_unite) := goodIn_app (goodIn_of _ (by decide +kernel)) ggX1_carryOut_X1_unite
set_option maxRecDepth 20000 in
theorem ggX1_carryOut_X1_partsInReach : GoodIn wsX1_carryOut wsX1_partsInReach := goodIn_r _ [57, 1, 4, 5, 58, 59, 60, 61, 68, 69, 70, 71, 72, 73, 74, 75, 76, 77, 78, 79, 80, 81, 82, 83] (by decide +kernel) (by decide +kernel)
set_option maxRecDepth 20000 in
theorem gX1_carryOut_X1_partsInReach : GoodIn wsX1_carryOut (wsV RX1 26 RX1 yX1_partsInReach wsX1_partsInReach) := goodIn_app (goodIn_of _ (by decide +kernel)) ggX1_carryOut_X1_partsInReach
set_option maxRecDepth 20000 in
theorem ggX1_carryOut_X3_lowOf : GoodIn wsX1_carryOut wsX3_lowOf := goodIn_r _ [31, 32, 81, 82, 83] (by decide +kernel) (by decide +kernel)
set_option maxRecDepth 20000 in
theorem gX1_carryOut_X3_lowOf : GoodIn wsX1_carryOut (wsV RX1 56 RX3 yX3_lowOf wsX3_lowOf) := goodIn_app (goodIn_of _ (by decide +kernel)) ggX1_carryOut_X3_lowOf
set_option maxRecDepth 20000 in
theorem ggX1_carryOut_X3_highOf : GoodIn wsX1_carryOut wsX3_highOf := goodIn_r _ [48, 49, 81, 82, 83] (by decide +kernel) (by decide +kernel)
set_option maxRecDepth 20000 in
theorem gX1_carryOut_X3_highOf : GoodIn wsX1_carryOut (wsV RX1 60 RX3 yX3_highOf wsX3_highOf) := goodIn_app (goodIn_of _ (by decide +kernel)) ggX1_carryOut_X3_highOf
set_option maxRecDepth 20000 in
theorem ggX1_carryOut_X3_putPlanes : GoodIn wsX1_carryOut wsX3_putPlanes := goodIn_r _ [67, 32, 49, 81, 82, 83] (by decide +kernel) (by decide +kernel)
set_option maxRecDepth 20000 in
theorem gX1_carryOut_X3_putPlanes : GoodIn wsX1_carryOut (wsV RX1 63 RX3 yX3_putPlanes wsX3_putPlanes) := goodIn_app (goodIn_of _ (by decide +kernel)) ggX1_carryOut_X3_putPlanes
theorem dX1_carryOut_0 : decode cX1_carryOut 0 = .ok (.iconst 0, 1) := by decide +kernel
theorem dX1_carryOut_1 : decode cX1_carryOut 1 = .ok (.istore_n 1, 1) := by decide +kernel
theorem dX1_carryOut_2 : decode cX1_carryOut 2 = .ok (.iload_n 1, 1) := by decide +kernel
theorem dX1_carryOut_3 : decode cX1_carryOut 3 = .ok (.aload_n 0, 1) := by decide +kernel
theorem dX1_carryOut_4 : decode cX1_carryOut 4 = .ok (.getfield 22, 3) := by decide +kernel
theorem dX1_carryOut_7 : decode cX1_carryOut 7 = .ok (.getfield 48, 3) := by decide +kernel
theorem dX1_carryOut_10 : decode cX1_carryOut 10 = .ok (.if_icmp .ge 14, 3) := by decide +kernel
theorem dX1_carryOut_13 : decode cX1_carryOut 13 = .ok (.aload_n 0, 1) := by decide +kernel
theorem dX1_carryOut_14 : decode cX1_carryOut 14 = .ok (.iload_n 1, 1) := by decide +kernel
theorem dX1_carryOut_15 : decode cX1_carryOut 15 = .ok (.invokevirtual 52, 3) := by decide +kernel
theorem dX1_carryOut_18 : decode cX1_carryOut 18 = .ok (.iinc 1 1, 3) := by decide +kernel
theorem dX1_carryOut_21 : decode cX1_carryOut 21 = .ok (.goto (-19), 3) := by decide +kernel
theorem dX1_carryOut_24 : decode cX1_carryOut 24 = .ok (.aload_n 0, 1) := by decide +kernel
theorem dX1_carryOut_25 : decode cX1_carryOut 25 = .ok (.invokevirtual 26, 3) := by decide +kernel
theorem dX1_carryOut_28 : decode cX1_carryOut 28 = .ok (.istore_n 1, 1) := by decide +kernel
theorem dX1_carryOut_29 : decode cX1_carryOut 29 = .ok (.iconst 0, 1) := by decide +kernel
theorem dX1_carryOut_30 : decode cX1_carryOut 30 = .ok (.istore_n 2, 1) := by decide +kernel
theorem dX1_carryOut_31 : decode cX1_carryOut 31 = .ok (.iconst 0, 1) := by decide +kernel
theorem dX1_carryOut_32 : decode cX1_carryOut 32 = .ok (.istore_n 3, 1) := by decide +kernel
theorem dX1_carryOut_33 : decode cX1_carryOut 33 = .ok (.iload_n 3, 1) := by decide +kernel
theorem dX1_carryOut_34 : decode cX1_carryOut 34 = .ok (.iload_n 1, 1) := by decide +kernel
theorem dX1_carryOut_35 : decode cX1_carryOut 35 = .ok (.if_icmp .ge 54, 3) := by decide +kernel
theorem dX1_carryOut_38 : decode cX1_carryOut 38 = .ok (.aload_n 0, 1) := by decide +kernel
theorem dX1_carryOut_39 : decode cX1_carryOut 39 = .ok (.getfield 15, 3) := by decide +kernel
theorem dX1_carryOut_42 : decode cX1_carryOut 42 = .ok (.iload_n 3, 1) := by decide +kernel
theorem dX1_carryOut_43 : decode cX1_carryOut 43 = .ok (.baload, 1) := by decide +kernel
theorem dX1_carryOut_44 : decode cX1_carryOut 44 = .ok (.ifCond .eq 39, 3) := by decide +kernel
theorem dX1_carryOut_47 : decode cX1_carryOut 47 = .ok (.aload_n 0, 1) := by decide +kernel
theorem dX1_carryOut_48 : decode cX1_carryOut 48 = .ok (.getfield 22, 3) := by decide +kernel
theorem dX1_carryOut_51 : decode cX1_carryOut 51 = .ok (.getfield 30, 3) := by decide +kernel
theorem dX1_carryOut_54 : decode cX1_carryOut 54 = .ok (.iload_n 2, 1) := by decide +kernel
theorem dX1_carryOut_55 : decode cX1_carryOut 55 = .ok (.aload_n 0, 1) := by decide +kernel
theorem dX1_carryOut_56 : decode cX1_carryOut 56 = .ok (.getfield 22, 3) := by decide +kernel
theorem dX1_carryOut_59 : decode cX1_carryOut 59 = .ok (.getfield 30, 3) := by decide +kernel
theorem dX1_carryOut_62 : decode cX1_carryOut 62 = .ok (.iload_n 3, 1) := by decide +kernel
theorem dX1_carryOut_63 : decode cX1_carryOut 63 = .ok (.invokevirtual 56, 3) := by decide +kernel
theorem dX1_carryOut_66 : decode cX1_carryOut 66 = .ok (.aload_n 0, 1) := by decide +kernel
theorem dX1_carryOut_67 : decode cX1_carryOut 67 = .ok (.getfield 22, 3) := by decide +kernel
theorem dX1_carryOut_70 : decode cX1_carryOut 70 = .ok (.getfield 30, 3) := by decide +kernel
theorem dX1_carryOut_73 : decode cX1_carryOut 73 = .ok (.iload_n 3, 1) := by decide +kernel
theorem dX1_carryOut_74 : decode cX1_carryOut 74 = .ok (.invokevirtual 60, 3) := by decide +kernel
theorem dX1_carryOut_77 : decode cX1_carryOut 77 = .ok (.invokevirtual 63, 3) := by decide +kernel
theorem dX1_carryOut_80 : decode cX1_carryOut 80 = .ok (.iinc 2 1, 3) := by decide +kernel
theorem dX1_carryOut_83 : decode cX1_carryOut 83 = .ok (.iinc 3 1, 3) := by decide +kernel
theorem dX1_carryOut_86 : decode cX1_carryOut 86 = .ok (.goto (-53), 3) := by decide +kernel
theorem dX1_carryOut_89 : decode cX1_carryOut 89 = .ok (.aload_n 0, 1) := by decide +kernel
theorem dX1_carryOut_90 : decode cX1_carryOut 90 = .ok (.getfield 22, 3) := by decide +kernel
theorem dX1_carryOut_93 : decode cX1_carryOut 93 = .ok (.getfield 30, 3) := by decide +kernel
theorem dX1_carryOut_96 : decode cX1_carryOut 96 = .ok (.iload_n 2, 1) := by decide +kernel
theorem dX1_carryOut_97 : decode cX1_carryOut 97 = .ok (.putfield 67, 3) := by decide +kernel
theorem dX1_carryOut_100 : decode cX1_carryOut 100 = .ok (.return_, 1) := by decide +kernel
theorem dX1_partsInReach_0 : decode cX1_partsInReach 0 = .ok (.aload_n 0, 1) := by decide +kernel
theorem dX1_partsInReach_1 : decode cX1_partsInReach 1 = .ok (.getfield 22, 3) := by decide +kernel
theorem dX1_partsInReach_4 : decode cX1_partsInReach 4 = .ok (.getfield 30, 3) := by decide +kernel
theorem dX1_partsInReach_7 : decode cX1_partsInReach 7 = .ok (.getfield 67, 3) := by decide +kernel
theorem dX1_partsInReach_10 : decode cX1_partsInReach 10 = .ok (.bipush 24, 2) := by decide +kernel
theorem dX1_partsInReach_12 : decode cX1_partsInReach 12 = .ok (.invokestatic 70, 3) := by decide +kernel
theorem dX1_partsInReach_15 : decode cX1_partsInReach 15 = .ok (.ireturn, 1) := by decide +kernel
set_option maxRecDepth 20000 in
theorem ggX1_letStayWhatIsShown_X4_property : GoodIn wsX1_letStayWhatIsShown wsX4_property := goodIn_r _ [8, 9, 20, 21, 22, 23, 24, 25, 26, 27, 28] (by decide +kernel) (by decide +kernel)
set_option maxRecDepth 20000 in
theorem gX1_letStayWhatIsShown_X4_property : GoodIn wsX1_letStayWhatIsShown (wsV RX1 76 RX4 yX4_property wsX4_property) := goodIn_app (goodIn_of _ (by decide +kernel)) ggX1_letStayWhatIsShown_X4_property
set_option maxRecDepth 20000 in
theorem ggX1_letStayWhatIsShown_X1_unitedOf : GoodIn wsX1_letStayWhatIsShown wsX1_unitedOf := goodIn_r _ [14, 15, 16, 17, 18, 19] (by decide +kernel) (by decide +kernel)
set_option maxRecDepth 20000 in
theorem gX1_letStayWhatIsShown_X1_unitedOf : GoodIn wsX1_letStayWhatIsShown (wsV RX1 79 RX1 yX1_unitedOf wsX1_unitedOf) := goodIn_app (goodIn_of _ (by decide +kernel)) ggX1_letStayWhatIsShown_X1_unitedOf
theorem dX1_letStayWhatIsShown_0 : decode cX1_letStayWhatIsShown 0 = .ok (.iconst 0, 1) := by decide +kernel
theorem dX1_letStayWhatIsShown_1 : decode cX1_letStayWhatIsShown 1 = .ok (.istore_n 1, 1) := by decide +kernel
theorem dX1_letStayWhatIsShown_2 : decode cX1_letStayWhatIsShown 2 = .ok (.iload_n 1, 1) := by decide +kernel
theorem dX1_letStayWhatIsShown_3 : decode cX1_letStayWhatIsShown 3 = .ok (.aload_n 0, 1) := by decide +kernel
theorem dX1_letStayWhatIsShown_4 : decode cX1_letStayWhatIsShown 4 = .ok (.getfield 22, 3) := by decide +kernel
theorem dX1_letStayWhatIsShown_7 : decode cX1_letStayWhatIsShown 7 = .ok (.getfield 48, 3) := by decide +kernel
theorem dX1_letStayWhatIsShown_10 : decode cX1_letStayWhatIsShown 10 = .ok (.if_icmp .ge 43, 3) := by decide +kernel
theorem dX1_letStayWhatIsShown_13 : decode cX1_letStayWhatIsShown 13 = .ok (.aload_n 0, 1) := by decide +kernel
theorem dX1_letStayWhatIsShown_14 : decode cX1_letStayWhatIsShown 14 = .ok (.aload_n 0, 1) := by decide +kernel
theorem dX1_letStayWhatIsShown_15 : decode cX1_letStayWhatIsShown 15 = .ok (.getfield 22, 3) := by decide +kernel
theorem dX1_letStayWhatIsShown_18 : decode cX1_letStayWhatIsShown 18 = .ok (.iload_n 1, 1) := by decide +kernel
theorem dX1_letStayWhatIsShown_19 : decode cX1_letStayWhatIsShown 19 = .ok (.iconst 0, 1) := by decide +kernel
theorem dX1_letStayWhatIsShown_20 : decode cX1_letStayWhatIsShown 20 = .ok (.invokevirtual 76, 3) := by decide +kernel
theorem dX1_letStayWhatIsShown_23 : decode cX1_letStayWhatIsShown 23 = .ok (.invokevirtual 79, 3) := by decide +kernel
theorem dX1_letStayWhatIsShown_26 : decode cX1_letStayWhatIsShown 26 = .ok (.istore_n 2, 1) := by decide +kernel
theorem dX1_letStayWhatIsShown_27 : decode cX1_letStayWhatIsShown 27 = .ok (.iload_n 2, 1) := by decide +kernel
theorem dX1_letStayWhatIsShown_28 : decode cX1_letStayWhatIsShown 28 = .ok (.ifCond .lt 19, 3) := by decide +kernel
theorem dX1_letStayWhatIsShown_31 : decode cX1_letStayWhatIsShown 31 = .ok (.iload_n 2, 1) := by decide +kernel
theorem dX1_letStayWhatIsShown_32 : decode cX1_letStayWhatIsShown 32 = .ok (.aload_n 0, 1) := by decide +kernel
theorem dX1_letStayWhatIsShown_33 : decode cX1_letStayWhatIsShown 33 = .ok (.getfield 15, 3) := by decide +kernel
theorem dX1_letStayWhatIsShown_36 : decode cX1_letStayWhatIsShown 36 = .ok (.arraylength, 1) := by decide +kernel
theorem dX1_letStayWhatIsShown_37 : decode cX1_letStayWhatIsShown 37 = .ok (.if_icmp .ge 10, 3) := by decide +kernel
theorem dX1_letStayWhatIsShown_40 : decode cX1_letStayWhatIsShown 40 = .ok (.aload_n 0, 1) := by decide +kernel
theorem dX1_letStayWhatIsShown_41 : decode cX1_letStayWhatIsShown 41 = .ok (.getfield 15, 3) := by decide +kernel
theorem dX1_letStayWhatIsShown_44 : decode cX1_letStayWhatIsShown 44 = .ok (.iload_n 2, 1) := by decide +kernel
theorem dX1_letStayWhatIsShown_45 : decode cX1_letStayWhatIsShown 45 = .ok (.iconst 1, 1) := by decide +kernel
theorem dX1_letStayWhatIsShown_46 : decode cX1_letStayWhatIsShown 46 = .ok (.bastore, 1) := by decide +kernel
theorem dX1_letStayWhatIsShown_47 : decode cX1_letStayWhatIsShown 47 = .ok (.iinc 1 1, 3) := by decide +kernel
theorem dX1_letStayWhatIsShown_50 : decode cX1_letStayWhatIsShown 50 = .ok (.goto (-48), 3) := by decide +kernel
theorem dX1_letStayWhatIsShown_53 : decode cX1_letStayWhatIsShown 53 = .ok (.return_, 1) := by decide +kernel
set_option maxRecDepth 20000 in
theorem ggX1_numberAnew_X1_partsInReach : GoodIn wsX1_numberAnew wsX1_partsInReach := goodIn_r _ [7, 8, 9, 10, 11, 12, 13, 14, 15, 16, 17, 18, 19, 20, 21, 22, 23, 24, 25, 26, 27, 28, 29, 30] (by decide +kernel) (by decide +kernel)
set_option maxRecDepth 20000 in
theorem gX1_numberAnew_X1_partsInReach : GoodIn wsX1_numberAnew (wsV RX1 26 RX1 yX1_partsInReach wsX1_partsInReach) := goodIn_app (goodIn_of _ (by decide +kernel)) ggX1_numberAnew_X1_partsInReach
theorem dX1_numberAnew_0 : decode cX1_numberAnew 0 = .ok (.aload_n 0, 1) := by decide +kernel
theorem dX1_numberAnew_1 : decode cX1_numberAnew 1 = .ok (.invokevirtual 26, 3) := by decide +kernel
theorem dX1_numberAnew_4 : decode cX1_numberAnew 4 = .ok (.istore_n 1, 1) := by decide +kernel
theorem dX1_numberAnew_5 : decode cX1_numberAnew 5 = .ok (.iconst 0, 1) := by decide +kernel
theorem dX1_numberAnew_6 : decode cX1_numberAnew 6 = .ok (.istore_n 2, 1) := by decide +kernel
theorem dX1_numberAnew_7 : decode cX1_numberAnew 7 = .ok (.iconst 0, 1) := by decide +kernel
theorem dX1_numberAnew_8 : decode cX1_numberAnew 8 = .ok (.istore_n 3, 1) := by decide +kernel
theorem dX1_numberAnew_9 : decode cX1_numberAnew 9 = .ok (.iload_n 3, 1) := by decide +kernel
theorem dX1_numberAnew_10 : decode cX1_numberAnew 10 = .ok (.iload_n 1, 1) := by decide +kernel
theorem dX1_numberAnew_11 : decode cX1_numberAnew 11 = .ok (.if_icmp .ge 28, 3) := by decide +kernel
theorem dX1_numberAnew_14 : decode cX1_numberAnew 14 = .ok (.aload_n 0, 1) := by decide +kernel
theorem dX1_numberAnew_15 : decode cX1_numberAnew 15 = .ok (.getfield 19, 3) := by decide +kernel
theorem dX1_numberAnew_18 : decode cX1_numberAnew 18 = .ok (.iload_n 3, 1) := by decide +kernel
theorem dX1_numberAnew_19 : decode cX1_numberAnew 19 = .ok (.iload_n 2, 1) := by decide +kernel
theorem dX1_numberAnew_20 : decode cX1_numberAnew 20 = .ok (.iastore, 1) := by decide +kernel
theorem dX1_numberAnew_21 : decode cX1_numberAnew 21 = .ok (.aload_n 0, 1) := by decide +kernel
theorem dX1_numberAnew_22 : decode cX1_numberAnew 22 = .ok (.getfield 15, 3) := by decide +kernel
theorem dX1_numberAnew_25 : decode cX1_numberAnew 25 = .ok (.iload_n 3, 1) := by decide +kernel
theorem dX1_numberAnew_26 : decode cX1_numberAnew 26 = .ok (.baload, 1) := by decide +kernel
theorem dX1_numberAnew_27 : decode cX1_numberAnew 27 = .ok (.ifCond .eq 6, 3) := by decide +kernel
theorem dX1_numberAnew_30 : decode cX1_numberAnew 30 = .ok (.iinc 2 1, 3) := by decide +kernel
theorem dX1_numberAnew_33 : decode cX1_numberAnew 33 = .ok (.iinc 3 1, 3) := by decide +kernel
theorem dX1_numberAnew_36 : decode cX1_numberAnew 36 = .ok (.goto (-27), 3) := by decide +kernel
theorem dX1_numberAnew_39 : decode cX1_numberAnew 39 = .ok (.iload_n 2, 1) := by decide +kernel
theorem dX1_numberAnew_40 : decode cX1_numberAnew 40 = .ok (.ireturn, 1) := by decide +kernel
theorem dX1_unitedOf_0 : decode cX1_unitedOf 0 = .ok (.iload_n 1, 1) := by decide +kernel
theorem dX1_unitedOf_1 : decode cX1_unitedOf 1 = .ok (.ifCond .lt 21, 3) := by decide +kernel
theorem dX1_unitedOf_4 : decode cX1_unitedOf 4 = .ok (.iload_n 1, 1) := by decide +kernel
theorem dX1_unitedOf_5 : decode cX1_unitedOf 5 = .ok (.aload_n 0, 1) := by decide +kernel
theorem dX1_unitedOf_6 : decode cX1_unitedOf 6 = .ok (.getfield 9, 3) := by decide +kernel
theorem dX1_unitedOf_9 : decode cX1_unitedOf 9 = .ok (.arraylength, 1) := by decide +kernel
theorem dX1_unitedOf_10 : decode cX1_unitedOf 10 = .ok (.if_icmp .ge 12, 3) := by decide +kernel
theorem dX1_unitedOf_13 : decode cX1_unitedOf 13 = .ok (.aload_n 0, 1) := by decide +kernel
theorem dX1_unitedOf_14 : decode cX1_unitedOf 14 = .ok (.getfield 9, 3) := by decide +kernel
theorem dX1_unitedOf_17 : decode cX1_unitedOf 17 = .ok (.iload_n 1, 1) := by decide +kernel
theorem dX1_unitedOf_18 : decode cX1_unitedOf 18 = .ok (.iaload, 1) := by decide +kernel
theorem dX1_unitedOf_19 : decode cX1_unitedOf 19 = .ok (.goto 4, 3) := by decide +kernel
theorem dX1_unitedOf_22 : decode cX1_unitedOf 22 = .ok (.iconst 0, 1) := by decide +kernel
theorem dX1_unitedOf_23 : decode cX1_unitedOf 23 = .ok (.ireturn, 1) := by decide +kernel
set_option maxRecDepth 20000 in
theorem ggX1_unite_X4_property : GoodIn wsX1_unite wsX4_property := goodIn_r _ [8, 9, 51, 52, 53, 54, 55, 56, 57, 58, 59] (by decide +kernel) (by decide +kernel)
set_option maxRecDepth 20000 in
theorem gX1_unite_X4_property : GoodIn wsX1_unite (wsV RX1 76 RX4 yX4_property wsX4_property) := goodIn_app (goodIn_of _ (by decide +kernel)) ggX1_unite_X4_property
set_option maxRecDepth 20000 in
theorem ggX1_unite_X1_unitedOf : GoodIn wsX1_unite wsX1_unitedOf := goodIn_r _ [14, 15, 47, 48, 49, 50] (by decide +kernel) (by decide +kernel)
set_option maxRecDepth 20000 in
theorem gX1_unite_X1_unitedOf : GoodIn wsX1_unite (wsV RX1 79 RX1 yX1_unitedOf wsX1_unitedOf) := goodIn_app (goodIn_of _ (by decide +kernel)) ggX1_unite_X1_unitedOf
set_option maxRecDepth 20000 in
theorem ggX1_unite_X3_wayToMatch : GoodIn wsX1_unite wsX3_wayToMatch := goodIn_r _ [20, 21, 22, 23, 19, 24, 25, 26, 27, 28, 29, 30, 31, 32, 33, 34, 35, 36, 37, 38, 39, 40, 41, 42, 60, 61, 62] (by decide +kernel) (by decide +kernel)
set_option maxRecDepth 20000 in
theorem gX1_unite_X3_wayToMatch : GoodIn wsX1_unite (wsV RX1 82 RX3 yX3_wayToMatch wsX3_wayToMatch) := goodIn_app (goodIn_of _ (by decide +kernel)) ggX1_unite_X3_wayToMatch
set_option maxRecDepth 20000 in
theorem ggX1_unite_X4_putProperty : GoodIn wsX1_unite wsX4_putProperty := goodIn_r _ [46, 9, 51, 52, 53, 54, 55, 56, 57, 58, 59] (by decide +kernel) (by decide +kernel)
set_option maxRecDepth 20000 in
theorem gX1_unite_X4_putProperty : GoodIn wsX1_unite (wsV RX1 86 RX4 yX4_putProperty wsX4_putProperty) := goodIn_app (goodIn_of _ (by decide +kernel)) ggX1_unite_X4_putProperty
theorem dX1_unite_0 : decode cX1_unite 0 = .ok (.aload_n 0, 1) := by decide +kernel
theorem dX1_unite_1 : decode cX1_unite 1 = .ok (.getfield 22, 3) := by decide +kernel
theorem dX1_unite_4 : decode cX1_unite 4 = .ok (.iload_n 1, 1) := by decide +kernel
theorem dX1_unite_5 : decode cX1_unite 5 = .ok (.iconst 0, 1) := by decide +kernel
theorem dX1_unite_6 : decode cX1_unite 6 = .ok (.invokevirtual 76, 3) := by decide +kernel
theorem dX1_unite_9 : decode cX1_unite 9 = .ok (.istore_n 2, 1) := by decide +kernel
theorem dX1_unite_10 : decode cX1_unite 10 = .ok (.aload_n 0, 1) := by decide +kernel
theorem dX1_unite_11 : decode cX1_unite 11 = .ok (.iload_n 2, 1) := by decide +kernel
theorem dX1_unite_12 : decode cX1_unite 12 = .ok (.invokevirtual 79, 3) := by decide +kernel
theorem dX1_unite_15 : decode cX1_unite 15 = .ok (.istore_n 3, 1) := by decide +kernel
theorem dX1_unite_16 : decode cX1_unite 16 = .ok (.iload_n 3, 1) := by decide +kernel
theorem dX1_unite_17 : decode cX1_unite 17 = .ok (.iload_n 2, 1) := by decide +kernel
theorem dX1_unite_18 : decode cX1_unite 18 = .ok (.if_icmp .eq 37, 3) := by decide +kernel
theorem dX1_unite_21 : decode cX1_unite 21 = .ok (.aload_n 0, 1) := by decide +kernel
theorem dX1_unite_22 : decode cX1_unite 22 = .ok (.getfield 22, 3) := by decide +kernel
theorem dX1_unite_25 : decode cX1_unite 25 = .ok (.iload_n 1, 1) := by decide +kernel
theorem dX1_unite_26 : decode cX1_unite 26 = .ok (.iconst 1, 1) := by decide +kernel
theorem dX1_unite_27 : decode cX1_unite 27 = .ok (.invokevirtual 76, 3) := by decide +kernel
theorem dX1_unite_30 : decode cX1_unite 30 = .ok (.istore 4, 2) := by decide +kernel
theorem dX1_unite_32 : decode cX1_unite 32 = .ok (.aload_n 0, 1) := by decide +kernel
theorem dX1_unite_33 : decode cX1_unite 33 = .ok (.getfield 22, 3) := by decide +kernel
theorem dX1_unite_36 : decode cX1_unite 36 = .ok (.iload_n 1, 1) := by decide +kernel
theorem dX1_unite_37 : decode cX1_unite 37 = .ok (.iconst 1, 1) := by decide +kernel
theorem dX1_unite_38 : decode cX1_unite 38 = .ok (.aload_n 0, 1) := by decide +kernel
theorem dX1_unite_39 : decode cX1_unite 39 = .ok (.getfield 22, 3) := by decide +kernel
theorem dX1_unite_42 : decode cX1_unite 42 = .ok (.getfield 30, 3) := by decide +kernel
theorem dX1_unite_45 : decode cX1_unite 45 = .ok (.iload_n 2, 1) := by decide +kernel
theorem dX1_unite_46 : decode cX1_unite 46 = .ok (.iload 4, 2) := by decide +kernel
theorem dX1_unite_48 : decode cX1_unite 48 = .ok (.iload_n 3, 1) := by decide +kernel
theorem dX1_unite_49 : decode cX1_unite 49 = .ok (.invokevirtual 82, 3) := by decide +kernel
theorem dX1_unite_52 : decode cX1_unite 52 = .ok (.invokevirtual 86, 3) := by decide +kernel
theorem dX1_unite_55 : decode cX1_unite 55 = .ok (.iload_n 3, 1) := by decide +kernel
theorem dX1_unite_56 : decode cX1_unite 56 = .ok (.ifCond .lt 27, 3) := by decide +kernel
theorem dX1_unite_59 : decode cX1_unite 59 = .ok (.iload_n 3, 1) := by decide +kernel
theorem dX1_unite_60 : decode cX1_unite 60 = .ok (.aload_n 0, 1) := by decide +kernel
theorem dX1_unite_61 : decode cX1_unite 61 = .ok (.getfield 19, 3) := by decide +kernel
theorem dX1_unite_64 : decode cX1_unite 64 = .ok (.arraylength, 1) := by decide +kernel
theorem dX1_unite_65 : decode cX1_unite 65 = .ok (.if_icmp .ge 18, 3) := by decide +kernel
theorem dX1_unite_68 : decode cX1_unite 68 = .ok (.aload_n 0, 1) := by decide +kernel
theorem dX1_unite_69 : decode cX1_unite 69 = .ok (.getfield 22, 3) := by decide +kernel
theorem dX1_unite_72 : decode cX1_unite 72 = .ok (.iload_n 1, 1) := by decide +kernel
theorem dX1_unite_73 : decode cX1_unite 73 = .ok (.iconst 0, 1) := by decide +kernel
theorem dX1_unite_74 : decode cX1_unite 74 = .ok (.aload_n 0, 1) := by decide +kernel
theorem dX1_unite_75 : decode cX1_unite 75 = .ok (.getfield 19, 3) := by decide +kernel
theorem dX1_unite_78 : decode cX1_unite 78 = .ok (.iload_n 3, 1) := by decide +kernel
theorem dX1_unite_79 : decode cX1_unite 79 = .ok (.iaload, 1) := by decide +kernel
theorem dX1_unite_80 : decode cX1_unite 80 = .ok (.invokevirtual 86, 3) := by decide +kernel
theorem dX1_unite_83 : decode cX1_unite 83 = .ok (.return_, 1) := by decide +kernel
theorem dX2_init_0 : decode cX2_init 0 = .ok (.aload_n 0, 1) := by decide +kernel
theorem dX2_init_1 : decode cX2_init 1 = .ok (.invokespecial 3, 3) := by decide +kernel
theorem dX2_init_4 : decode cX2_init 4 = .ok (.aload_n 0, 1) := by decide +kernel
theorem dX2_init_5 : decode cX2_init 5 = .ok (.bipush 60, 2) := by decide +kernel
theorem dX2_init_7 : decode cX2_init 7 = .ok (.newarray .char, 2) := by decide +kernel
theorem dX2_init_9 : decode cX2_init 9 = .ok (.putfield 9, 3) := by decide +kernel
theorem dX2_init_12 : decode cX2_init 12 = .ok (.return_, 1) := by decide +kernel
theorem dX2_append_0 : decode cX2_append 0 = .ok (.aload_n 0, 1) := by decide +kernel
theorem dX2_append_1 : decode cX2_append 1 = .ok (.getfield 15, 3) := by decide +kernel
theorem dX2_append_4 : decode cX2_append 4 = .ok (.ifCond .lt 35, 3) := by decide +kernel
theorem dX2_append_7 : decode cX2_append 7 = .ok (.aload_n 0, 1) := by decide +kernel
theorem dX2_append_8 : decode cX2_append 8 = .ok (.getfield 15, 3) := by decide +kernel
theorem dX2_append_11 : decode cX2_append 11 = .ok (.aload_n 0, 1) := by decide +kernel
theorem dX2_append_12 : decode cX2_append 12 = .ok (.getfield 9, 3) := by decide +kernel
theorem dX2_append_15 : decode cX2_append 15 = .ok (.arraylength, 1) := by decide +kernel
theorem dX2_append_16 : decode cX2_append 16 = .ok (.if_icmp .ge 23, 3) := by decide +kernel
theorem dX2_append_19 : decode cX2_append 19 = .ok (.aload_n 0, 1) := by decide +kernel
theorem dX2_append_20 : decode cX2_append 20 = .ok (.getfield 9, 3) := by decide +kernel
theorem dX2_append_23 : decode cX2_append 23 = .ok (.aload_n 0, 1) := by decide +kernel
theorem dX2_append_24 : decode cX2_append 24 = .ok (.getfield 15, 3) := by decide +kernel
theorem dX2_append_27 : decode cX2_append 27 = .ok (.iload_n 1, 1) := by decide +kernel
theorem dX2_append_28 : decode cX2_append 28 = .ok (.castore, 1) := by decide +kernel
theorem dX2_append_29 : decode cX2_append 29 = .ok (.aload_n 0, 1) := by decide +kernel
theorem dX2_append_30 : decode cX2_append 30 = .ok (.dup, 1) := by decide +kernel
theorem dX2_append_31 : decode cX2_append 31 = .ok (.getfield 15, 3) := by decide +kernel
theorem dX2_append_34 : decode cX2_append 34 = .ok (.iconst 1, 1) := by decide +kernel
theorem dX2_append_35 : decode cX2_append 35 = .ok (.iadd, 1) := by decide +kernel
theorem dX2_append_36 : decode cX2_append 36 = .ok (.putfield 15, 3) := by decide +kernel
theorem dX2_append_39 : decode cX2_append 39 = .ok (.return_, 1) := by decide +kernel
set_option maxRecDepth 20000 in
theorem ggX2_read_X2_takes : GoodIn wsX2_read wsX2_takes := goodIn_r _ [13, 6, 5, 14, 15, 16, 12, 17, 18, 19, 20, 21, 22, 4, 3, 1, 2, 23, 24, 25, 26, 27, 28, 29, 30, 31, 32, 33, 34, 35, 36, 37, 38, 39] (by decide +kernel) (by decide +kernel)
set_option maxRecDepth 20000 in
theorem gX2_read_X2_takes : GoodIn wsX2_read (wsV RX2 39 RX2 yX2_takes wsX2_takes) := goodIn_app (goodIn_of _ (by decide +kernel)) ggX2_read_X2_takes
theorem dX2_read_0 : decode cX2_read 0 = .ok (.aload_n 0, 1) := by decide +kernel
theorem dX2_read_1 : decode cX2_read 1 = .ok (.lconst 0, 1) := by decide +kernel
theorem dX2_read_2 : decode cX2_read 2 = .ok (.putfield 19, 3) := by decide +kernel
theorem dX2_read_5 : decode cX2_read 5 = .ok (.aload_n 0, 1) := by decide +kernel
theorem dX2_read_6 : decode cX2_read 6 = .ok (.lconst 0, 1) := by decide +kernel
theorem dX2_read_7 : decode cX2_read 7 = .ok (.putfield 23, 3) := by decide +kernel
theorem dX2_read_10 : decode cX2_read 10 = .ok (.aload_n 0, 1) := by decide +kernel
theorem dX2_read_11 : decode cX2_read 11 = .ok (.iconst 0, 1) := by decide +kernel
theorem dX2_read_12 : decode cX2_read 12 = .ok (.putfield 26, 3) := by decide +kernel
theorem dX2_read_15 : decode cX2_read 15 = .ok (.aload_n 0, 1) := by decide +kernel
theorem dX2_read_16 : decode cX2_read 16 = .ok (.iconst 0, 1) := by decide +kernel
theorem dX2_read_17 : decode cX2_read 17 = .ok (.putfield 29, 3) := by decide +kernel
theorem dX2_read_20 : decode cX2_read 20 = .ok (.aload_n 0, 1) := by decide +kernel
theorem dX2_read_21 : decode cX2_read 21 = .ok (.iconst 0, 1) := by decide +kernel
theorem dX2_read_22 : decode cX2_read 22 = .ok (.putfield 32, 3) := by decide +kernel
theorem dX2_read_25 : decode cX2_read 25 = .ok (.aload_n 0, 1) := by decide +kernel
theorem dX2_read_26 : decode cX2_read 26 = .ok (.iconst 0, 1) := by decide +kernel
theorem dX2_read_27 : decode cX2_read 27 = .ok (.putfield 36, 3) := by decide +kernel
theorem dX2_read_30 : decode cX2_read 30 = .ok (.iconst 0, 1) := by decide +kernel
theorem dX2_read_31 : decode cX2_read 31 = .ok (.istore_n 1, 1) := by decide +kernel
theorem dX2_read_32 : decode cX2_read 32 = .ok (.iload_n 1, 1) := by decide +kernel
theorem dX2_read_33 : decode cX2_read 33 = .ok (.aload_n 0, 1) := by decide +kernel
theorem dX2_read_34 : decode cX2_read 34 = .ok (.getfield 15, 3) := by decide +kernel
theorem dX2_read_37 : decode cX2_read 37 = .ok (.if_icmp .ge 33, 3) := by decide +kernel
theorem dX2_read_40 : decode cX2_read 40 = .ok (.iload_n 1, 1) := by decide +kernel
theorem dX2_read_41 : decode cX2_read 41 = .ok (.aload_n 0, 1) := by decide +kernel
theorem dX2_read_42 : decode cX2_read 42 = .ok (.getfield 9, 3) := by decide +kernel
theorem dX2_read_45 : decode cX2_read 45 = .ok (.arraylength, 1) := by decide +kernel
theorem dX2_read_46 : decode cX2_read 46 = .ok (.if_icmp .ge 24, 3) := by decide +kernel
theorem dX2_read_49 : decode cX2_read 49 = .ok (.aload_n 0, 1) := by decide +kernel
theorem dX2_read_50 : decode cX2_read 50 = .ok (.aload_n 0, 1) := by decide +kernel
theorem dX2_read_51 : decode cX2_read 51 = .ok (.getfield 9, 3) := by decide +kernel
theorem dX2_read_54 : decode cX2_read 54 = .ok (.iload_n 1, 1) := by decide +kernel
theorem dX2_read_55 : decode cX2_read 55 = .ok (.caload, 1) := by decide +kernel
theorem dX2_read_56 : decode cX2_read 56 = .ok (.invokevirtual 39, 3) := by decide +kernel
theorem dX2_read_59 : decode cX2_read 59 = .ok (.ifCond .ne 5, 3) := by decide +kernel
theorem dX2_read_62 : decode cX2_read 62 = .ok (.iload_n 1, 1) := by decide +kernel
theorem dX2_read_63 : decode cX2_read 63 = .ok (.ireturn, 1) := by decide +kernel
theorem dX2_read_64 : decode cX2_read 64 = .ok (.iinc 1 1, 3) := by decide +kernel
theorem dX2_read_67 : decode cX2_read 67 = .ok (.goto (-35), 3) := by decide +kernel
theorem dX2_read_70 : decode cX2_read 70 = .ok (.aload_n 0, 1) := by decide +kernel
theorem dX2_read_71 : decode cX2_read 71 = .ok (.getfield 36, 3) := by decide +kernel
theorem dX2_read_74 : decode cX2_read 74 = .ok (.ifCond .ne 12, 3) := by decide +kernel
theorem dX2_read_77 : decode cX2_read 77 = .ok (.aload_n 0, 1) := by decide +kernel
theorem dX2_read_78 : decode cX2_read 78 = .ok (.getfield 29, 3) := by decide +kernel
theorem dX2_read_81 : decode cX2_read 81 = .ok (.bipush 8, 2) := by decide +kernel
theorem dX2_read_83 : decode cX2_read 83 = .ok (.if_icmp .ge 10, 3) := by decide +kernel
theorem dX2_read_86 : decode cX2_read 86 = .ok (.aload_n 0, 1) := by decide +kernel
theorem dX2_read_87 : decode cX2_read 87 = .ok (.getfield 15, 3) := by decide +kernel
theorem dX2_read_90 : decode cX2_read 90 = .ok (.goto 5, 3) := by decide +kernel
theorem dX2_read_93 : decode cX2_read 93 = .ok (.bipush (-5), 2) := by decide +kernel
theorem dX2_read_95 : decode cX2_read 95 = .ok (.ireturn, 1) := by decide +kernel
set_option maxRecDepth 20000 in
theorem ggX2_takes_X2_takesTimes : GoodIn wsX2_takes wsX2_takesTimes := goodIn_r _ [7, 1, 8, 9, 10, 11, 6, 12, 13, 14, 15, 16, 25, 26, 27, 28, 29, 30, 31, 32, 33] (by decide +kernel) (by decide +kernel)
set_option maxRecDepth 20000 in
theorem gX2_takes_X2_takesTimes : GoodIn wsX2_takes (wsV RX2 43 RX2 yX2_takesTimes wsX2_takesTimes) := goodIn_app (goodIn_of _ (by decide +kernel)) ggX2_takes_X2_takesTimes
set_option maxRecDepth 20000 in
theorem ggX2_takes_X2_takesEndOfRow : GoodIn wsX2_takes wsX2_takesEndOfRow := goodIn_r _ [20, 13, 14, 25, 26, 27, 28, 29, 30, 31, 32, 33] (by decide +kernel) (by decide +kernel)
set_option maxRecDepth 20000 in
theorem gX2_takes_X2_takesEndOfRow : GoodIn wsX2_takes (wsV RX2 46 RX2 yX2_takesEndOfRow wsX2_takesEndOfRow) := goodIn_app (goodIn_of _ (by decide +kernel)) ggX2_takes_X2_takesEndOfRow
set_option maxRecDepth 20000 in
theorem ggX2_takes_X2_takesPixel : GoodIn wsX2_takes wsX2_takesPixel := goodIn_r _ [24, 8, 2, 9, 10, 11, 6, 12, 13, 14, 15, 16, 25, 26, 27, 28, 29, 30, 31, 32, 33] (by decide +kernel) (by decide +kernel)
set_option maxRecDepth 20000 in
theorem gX2_takes_X2_takesPixel : GoodIn wsX2_takes (wsV RX2 50 RX2 yX2_takesPixel wsX2_takesPixel) := goodIn_app (goodIn_of _ (by decide +kernel)) ggX2_takes_X2_takesPixel
theorem dX2_takes_0 : decode cX2_takes 0 = .ok (.aload_n 0, 1) := by decide +kernel
theorem dX2_takes_1 : decode cX2_takes 1 = .ok (.getfield 36, 3) := by decide +kernel
theorem dX2_takes_4 : decode cX2_takes 4 = .ok (.ifCond .eq 9, 3) := by decide +kernel
theorem dX2_takes_7 : decode cX2_takes 7 = .ok (.aload_n 0, 1) := by decide +kernel
theorem dX2_takes_8 : decode cX2_takes 8 = .ok (.iload_n 1, 1) := by decide +kernel
theorem dX2_takes_9 : decode cX2_takes 9 = .ok (.invokevirtual 43, 3) := by decide +kernel
theorem dX2_takes_12 : decode cX2_takes 12 = .ok (.ireturn, 1) := by decide +kernel
theorem dX2_takes_13 : decode cX2_takes 13 = .ok (.aload_n 0, 1) := by decide +kernel
theorem dX2_takes_14 : decode cX2_takes 14 = .ok (.getfield 32, 3) := by decide +kernel
theorem dX2_takes_17 : decode cX2_takes 17 = .ok (.istore_n 2, 1) := by decide +kernel
theorem dX2_takes_18 : decode cX2_takes 18 = .ok (.aload_n 0, 1) := by decide +kernel
theorem dX2_takes_19 : decode cX2_takes 19 = .ok (.iconst 0, 1) := by decide +kernel
theorem dX2_takes_20 : decode cX2_takes 20 = .ok (.putfield 32, 3) := by decide +kernel
theorem dX2_takes_23 : decode cX2_takes 23 = .ok (.iload_n 1, 1) := by decide +kernel
theorem dX2_takes_24 : decode cX2_takes 24 = .ok (.bipush 120, 2) := by decide +kernel
theorem dX2_takes_26 : decode cX2_takes 26 = .ok (.if_icmp .ne 10, 3) := by decide +kernel
theorem dX2_takes_29 : decode cX2_takes 29 = .ok (.aload_n 0, 1) := by decide +kernel
theorem dX2_takes_30 : decode cX2_takes 30 = .ok (.iload_n 2, 1) := by decide +kernel
theorem dX2_takes_31 : decode cX2_takes 31 = .ok (.putfield 36, 3) := by decide +kernel
theorem dX2_takes_34 : decode cX2_takes 34 = .ok (.iload_n 2, 1) := by decide +kernel
theorem dX2_takes_35 : decode cX2_takes 35 = .ok (.ireturn, 1) := by decide +kernel
theorem dX2_takes_36 : decode cX2_takes 36 = .ok (.iload_n 1, 1) := by decide +kernel
theorem dX2_takes_37 : decode cX2_takes 37 = .ok (.bipush 47, 2) := by decide +kernel
theorem dX2_takes_39 : decode cX2_takes 39 = .ok (.if_icmp .ne 8, 3) := by decide +kernel
theorem dX2_takes_42 : decode cX2_takes 42 = .ok (.aload_n 0, 1) := by decide +kernel
theorem dX2_takes_43 : decode cX2_takes 43 = .ok (.invokevirtual 46, 3) := by decide +kernel
theorem dX2_takes_46 : decode cX2_takes 46 = .ok (.ireturn, 1) := by decide +kernel
theorem dX2_takes_47 : decode cX2_takes 47 = .ok (.iload_n 1, 1) := by decide +kernel
theorem dX2_takes_48 : decode cX2_takes 48 = .ok (.bipush 46, 2) := by decide +kernel
theorem dX2_takes_50 : decode cX2_takes 50 = .ok (.if_icmp .ne 9, 3) := by decide +kernel
theorem dX2_takes_53 : decode cX2_takes 53 = .ok (.aload_n 0, 1) := by decide +kernel
theorem dX2_takes_54 : decode cX2_takes 54 = .ok (.iconst 0, 1) := by decide +kernel
theorem dX2_takes_55 : decode cX2_takes 55 = .ok (.invokevirtual 50, 3) := by decide +kernel
theorem dX2_takes_58 : decode cX2_takes 58 = .ok (.ireturn, 1) := by decide +kernel
theorem dX2_takes_59 : decode cX2_takes 59 = .ok (.iload_n 1, 1) := by decide +kernel
theorem dX2_takes_60 : decode cX2_takes 60 = .ok (.bipush 49, 2) := by decide +kernel
theorem dX2_takes_62 : decode cX2_takes 62 = .ok (.if_icmp .lt 24, 3) := by decide +kernel
theorem dX2_takes_65 : decode cX2_takes 65 = .ok (.iload_n 1, 1) := by decide +kernel
theorem dX2_takes_66 : decode cX2_takes 66 = .ok (.bipush 51, 2) := by decide +kernel
theorem dX2_takes_68 : decode cX2_takes 68 = .ok (.if_icmp .gt 18, 3) := by decide +kernel
theorem dX2_takes_71 : decode cX2_takes 71 = .ok (.aload_n 0, 1) := by decide +kernel
theorem dX2_takes_72 : decode cX2_takes 72 = .ok (.iload_n 1, 1) := by decide +kernel
theorem dX2_takes_73 : decode cX2_takes 73 = .ok (.bipush 48, 2) := by decide +kernel
theorem dX2_takes_75 : decode cX2_takes 75 = .ok (.isub, 1) := by decide +kernel
theorem dX2_takes_76 : decode cX2_takes 76 = .ok (.invokevirtual 50, 3) := by decide +kernel
theorem dX2_takes_79 : decode cX2_takes 79 = .ok (.ifCond .eq 7, 3) := by decide +kernel
theorem dX2_takes_82 : decode cX2_takes 82 = .ok (.iconst 1, 1) := by decide +kernel
theorem dX2_takes_83 : decode cX2_takes 83 = .ok (.goto 4, 3) := by decide +kernel
theorem dX2_takes_86 : decode cX2_takes 86 = .ok (.iconst 0, 1) := by decide +kernel
theorem dX2_takes_87 : decode cX2_takes 87 = .ok (.ireturn, 1) := by decide +kernel
set_option maxRecDepth 20000 in
theorem ggX2_takesTimes_X2_puts : GoodIn wsX2_takesTimes wsX2_puts := goodIn_r _ [7, 8, 9, 10, 11, 12, 13, 14, 15, 16, 17, 18, 19, 20] (by decide +kernel) (by decide +kernel)
set_option maxRecDepth 20000 in
theorem gX2_takesTimes_X2_puts : GoodIn wsX2_takesTimes (wsV RX2 57 RX2 yX2_puts wsX2_puts) := goodIn_app (goodIn_of _ (by decide +kernel)) ggX2_takesTimes_X2_puts
theorem dX2_takesTimes_0 : decode cX2_takesTimes 0 = .ok (.aload_n 0, 1) := by decide +kernel
theorem dX2_takesTimes_1 : decode cX2_takesTimes 1 = .ok (.iconst 0, 1) := by decide +kernel
theorem dX2_takesTimes_2 : decode cX2_takesTimes 2 = .ok (.putfield 36, 3) := by decide +kernel
theorem dX2_takesTimes_5 : decode cX2_takesTimes 5 = .ok (.iload_n 1, 1) := by decide +kernel
theorem dX2_takesTimes_6 : decode cX2_takesTimes 6 = .ok (.bipush 50, 2) := by decide +kernel
theorem dX2_takesTimes_8 : decode cX2_takesTimes 8 = .ok (.if_icmp .lt 9, 3) := by decide +kernel
theorem dX2_takesTimes_11 : decode cX2_takesTimes 11 = .ok (.iload_n 1, 1) := by decide +kernel
theorem dX2_takesTimes_12 : decode cX2_takesTimes 12 = .ok (.bipush 56, 2) := by decide +kernel
theorem dX2_takesTimes_14 : decode cX2_takesTimes 14 = .ok (.if_icmp .le 5, 3) := by decide +kernel
theorem dX2_takesTimes_17 : decode cX2_takesTimes 17 = .ok (.iconst 0, 1) := by decide +kernel
theorem dX2_takesTimes_18 : decode cX2_takesTimes 18 = .ok (.ireturn, 1) := by decide +kernel
theorem dX2_takesTimes_19 : decode cX2_takesTimes 19 = .ok (.aload_n 0, 1) := by decide +kernel
theorem dX2_takesTimes_20 : decode cX2_takesTimes 20 = .ok (.aload_n 0, 1) := by decide +kernel
theorem dX2_takesTimes_21 : decode cX2_takesTimes 21 = .ok (.getfield 54, 3) := by decide +kernel
theorem dX2_takesTimes_24 : decode cX2_takesTimes 24 = .ok (.iload_n 1, 1) := by decide +kernel
theorem dX2_takesTimes_25 : decode cX2_takesTimes 25 = .ok (.bipush 48, 2) := by decide +kernel
theorem dX2_takesTimes_27 : decode cX2_takesTimes 27 = .ok (.isub, 1) := by decide +kernel
theorem dX2_takesTimes_28 : decode cX2_takesTimes 28 = .ok (.iconst 1, 1) := by decide +kernel
theorem dX2_takesTimes_29 : decode cX2_takesTimes 29 = .ok (.isub, 1) := by decide +kernel
theorem dX2_takesTimes_30 : decode cX2_takesTimes 30 = .ok (.invokevirtual 57, 3) := by decide +kernel
theorem dX2_takesTimes_33 : decode cX2_takesTimes 33 = .ok (.ireturn, 1) := by decide +kernel
theorem dX2_takesEndOfRow_0 : decode cX2_takesEndOfRow 0 = .ok (.aload_n 0, 1) := by decide +kernel
theorem dX2_takesEndOfRow_1 : decode cX2_takesEndOfRow 1 = .ok (.getfield 29, 3) := by decide +kernel
theorem dX2_takesEndOfRow_4 : decode cX2_takesEndOfRow 4 = .ok (.bipush 8, 2) := by decide +kernel
theorem dX2_takesEndOfRow_6 : decode cX2_takesEndOfRow 6 = .ok (.if_icmp .lt 12, 3) := by decide +kernel
theorem dX2_takesEndOfRow_9 : decode cX2_takesEndOfRow 9 = .ok (.aload_n 0, 1) := by decide +kernel
theorem dX2_takesEndOfRow_10 : decode cX2_takesEndOfRow 10 = .ok (.getfield 26, 3) := by decide +kernel
theorem dX2_takesEndOfRow_13 : decode cX2_takesEndOfRow 13 = .ok (.bipush 7, 2) := by decide +kernel
theorem dX2_takesEndOfRow_15 : decode cX2_takesEndOfRow 15 = .ok (.if_icmp .lt 5, 3) := by decide +kernel
theorem dX2_takesEndOfRow_18 : decode cX2_takesEndOfRow 18 = .ok (.iconst 0, 1) := by decide +kernel
theorem dX2_takesEndOfRow_19 : decode cX2_takesEndOfRow 19 = .ok (.ireturn, 1) := by decide +kernel
theorem dX2_takesEndOfRow_20 : decode cX2_takesEndOfRow 20 = .ok (.aload_n 0, 1) := by decide +kernel
theorem dX2_takesEndOfRow_21 : decode cX2_takesEndOfRow 21 = .ok (.dup, 1) := by decide +kernel
theorem dX2_takesEndOfRow_22 : decode cX2_takesEndOfRow 22 = .ok (.getfield 26, 3) := by decide +kernel
theorem dX2_takesEndOfRow_25 : decode cX2_takesEndOfRow 25 = .ok (.iconst 1, 1) := by decide +kernel
theorem dX2_takesEndOfRow_26 : decode cX2_takesEndOfRow 26 = .ok (.iadd, 1) := by decide +kernel
theorem dX2_takesEndOfRow_27 : decode cX2_takesEndOfRow 27 = .ok (.putfield 26, 3) := by decide +kernel
theorem dX2_takesEndOfRow_30 : decode cX2_takesEndOfRow 30 = .ok (.aload_n 0, 1) := by decide +kernel
theorem dX2_takesEndOfRow_31 : decode cX2_takesEndOfRow 31 = .ok (.iconst 0, 1) := by decide +kernel
theorem dX2_takesEndOfRow_32 : decode cX2_takesEndOfRow 32 = .ok (.putfield 29, 3) := by decide +kernel
theorem dX2_takesEndOfRow_35 : decode cX2_takesEndOfRow 35 = .ok (.iconst 1, 1) := by decide +kernel
theorem dX2_takesEndOfRow_36 : decode cX2_takesEndOfRow 36 = .ok (.ireturn, 1) := by decide +kernel
set_option maxRecDepth 20000 in
theorem ggX2_takesPixel_X2_puts : GoodIn wsX2_takesPixel wsX2_puts := goodIn_r _ [7, 8, 9, 10, 11, 12, 13, 14, 15, 16, 17, 18, 19, 20] (by decide +kernel) (by decide +kernel)
set_option maxRecDepth 20000 in
theorem gX2_takesPixel_X2_puts : GoodIn wsX2_takesPixel (wsV RX2 57 RX2 yX2_puts wsX2_puts) := goodIn_app (goodIn_of _ (by decide +kernel)) ggX2_takesPixel_X2_puts
theorem dX2_takesPixel_0 : decode cX2_takesPixel 0 = .ok (.aload_n 0, 1) := by decide +kernel
theorem dX2_takesPixel_1 : decode cX2_takesPixel 1 = .ok (.iload_n 1, 1) := by decide +kernel
theorem dX2_takesPixel_2 : decode cX2_takesPixel 2 = .ok (.putfield 54, 3) := by decide +kernel
theorem dX2_takesPixel_5 : decode cX2_takesPixel 5 = .ok (.aload_n 0, 1) := by decide +kernel
theorem dX2_takesPixel_6 : decode cX2_takesPixel 6 = .ok (.iconst 1, 1) := by decide +kernel
theorem dX2_takesPixel_7 : decode cX2_takesPixel 7 = .ok (.putfield 32, 3) := by decide +kernel
theorem dX2_takesPixel_10 : decode cX2_takesPixel 10 = .ok (.aload_n 0, 1) := by decide +kernel
theorem dX2_takesPixel_11 : decode cX2_takesPixel 11 = .ok (.iload_n 1, 1) := by decide +kernel
theorem dX2_takesPixel_12 : decode cX2_takesPixel 12 = .ok (.iconst 1, 1) := by decide +kernel
theorem dX2_takesPixel_13 : decode cX2_takesPixel 13 = .ok (.invokevirtual 57, 3) := by decide +kernel
theorem dX2_takesPixel_16 : decode cX2_takesPixel 16 = .ok (.ireturn, 1) := by decide +kernel
theorem dX2_puts_0 : decode cX2_puts 0 = .ok (.aload_n 0, 1) := by decide +kernel
theorem dX2_puts_1 : decode cX2_puts 1 = .ok (.getfield 29, 3) := by decide +kernel
theorem dX2_puts_4 : decode cX2_puts 4 = .ok (.iload_n 2, 1) := by decide +kernel
theorem dX2_puts_5 : decode cX2_puts 5 = .ok (.iadd, 1) := by decide +kernel
theorem dX2_puts_6 : decode cX2_puts 6 = .ok (.bipush 8, 2) := by decide +kernel
theorem dX2_puts_8 : decode cX2_puts 8 = .ok (.if_icmp .le 5, 3) := by decide +kernel
theorem dX2_puts_11 : decode cX2_puts 11 = .ok (.iconst 0, 1) := by decide +kernel
theorem dX2_puts_12 : decode cX2_puts 12 = .ok (.ireturn, 1) := by decide +kernel
theorem dX2_puts_13 : decode cX2_puts 13 = .ok (.iconst 0, 1) := by decide +kernel
theorem dX2_puts_14 : decode cX2_puts 14 = .ok (.istore_n 3, 1) := by decide +kernel
theorem dX2_puts_15 : decode cX2_puts 15 = .ok (.iload_n 3, 1) := by decide +kernel
theorem dX2_puts_16 : decode cX2_puts 16 = .ok (.iload_n 2, 1) := by decide +kernel
theorem dX2_puts_17 : decode cX2_puts 17 = .ok (.if_icmp .ge 67, 3) := by decide +kernel
theorem dX2_puts_20 : decode cX2_puts 20 = .ok (.bipush 8, 2) := by decide +kernel
theorem dX2_puts_22 : decode cX2_puts 22 = .ok (.aload_n 0, 1) := by decide +kernel
theorem dX2_puts_23 : decode cX2_puts 23 = .ok (.getfield 26, 3) := by decide +kernel
theorem dX2_puts_26 : decode cX2_puts 26 = .ok (.imul, 1) := by decide +kernel
theorem dX2_puts_27 : decode cX2_puts 27 = .ok (.aload_n 0, 1) := by decide +kernel
theorem dX2_puts_28 : decode cX2_puts 28 = .ok (.getfield 29, 3) := by decide +kernel
theorem dX2_puts_31 : decode cX2_puts 31 = .ok (.iadd, 1) := by decide +kernel
theorem dX2_puts_32 : decode cX2_puts 32 = .ok (.istore 4, 2) := by decide +kernel
theorem dX2_puts_34 : decode cX2_puts 34 = .ok (.aload_n 0, 1) := by decide +kernel
theorem dX2_puts_35 : decode cX2_puts 35 = .ok (.dup, 1) := by decide +kernel
theorem dX2_puts_36 : decode cX2_puts 36 = .ok (.getfield 19, 3) := by decide +kernel
theorem dX2_puts_39 : decode cX2_puts 39 = .ok (.iload_n 1, 1) := by decide +kernel
theorem dX2_puts_40 : decode cX2_puts 40 = .ok (.iconst 1, 1) := by decide +kernel
theorem dX2_puts_41 : decode cX2_puts 41 = .ok (.iand, 1) := by decide +kernel
theorem dX2_puts_42 : decode cX2_puts 42 = .ok (.i2l, 1) := by decide +kernel
theorem dX2_puts_43 : decode cX2_puts 43 = .ok (.iload 4, 2) := by decide +kernel
theorem dX2_puts_45 : decode cX2_puts 45 = .ok (.lshl, 1) := by decide +kernel
theorem dX2_puts_46 : decode cX2_puts 46 = .ok (.lor, 1) := by decide +kernel
theorem dX2_puts_47 : decode cX2_puts 47 = .ok (.putfield 19, 3) := by decide +kernel
theorem dX2_puts_50 : decode cX2_puts 50 = .ok (.aload_n 0, 1) := by decide +kernel
theorem dX2_puts_51 : decode cX2_puts 51 = .ok (.dup, 1) := by decide +kernel
theorem dX2_puts_52 : decode cX2_puts 52 = .ok (.getfield 23, 3) := by decide +kernel
theorem dX2_puts_55 : decode cX2_puts 55 = .ok (.iload_n 1, 1) := by decide +kernel
theorem dX2_puts_56 : decode cX2_puts 56 = .ok (.iconst 1, 1) := by decide +kernel
theorem dX2_puts_57 : decode cX2_puts 57 = .ok (.ishr, 1) := by decide +kernel
theorem dX2_puts_58 : decode cX2_puts 58 = .ok (.iconst 1, 1) := by decide +kernel
theorem dX2_puts_59 : decode cX2_puts 59 = .ok (.iand, 1) := by decide +kernel
theorem dX2_puts_60 : decode cX2_puts 60 = .ok (.i2l, 1) := by decide +kernel
theorem dX2_puts_61 : decode cX2_puts 61 = .ok (.iload 4, 2) := by decide +kernel
theorem dX2_puts_63 : decode cX2_puts 63 = .ok (.lshl, 1) := by decide +kernel
theorem dX2_puts_64 : decode cX2_puts 64 = .ok (.lor, 1) := by decide +kernel
theorem dX2_puts_65 : decode cX2_puts 65 = .ok (.putfield 23, 3) := by decide +kernel
theorem dX2_puts_68 : decode cX2_puts 68 = .ok (.aload_n 0, 1) := by decide +kernel
theorem dX2_puts_69 : decode cX2_puts 69 = .ok (.dup, 1) := by decide +kernel
theorem dX2_puts_70 : decode cX2_puts 70 = .ok (.getfield 29, 3) := by decide +kernel
theorem dX2_puts_73 : decode cX2_puts 73 = .ok (.iconst 1, 1) := by decide +kernel
theorem dX2_puts_74 : decode cX2_puts 74 = .ok (.iadd, 1) := by decide +kernel
theorem dX2_puts_75 : decode cX2_puts 75 = .ok (.putfield 29, 3) := by decide +kernel
theorem dX2_puts_78 : decode cX2_puts 78 = .ok (.iinc 3 1, 3) := by decide +kernel
theorem dX2_puts_81 : decode cX2_puts 81 = .ok (.goto (-66), 3) := by decide +kernel
theorem dX2_puts_84 : decode cX2_puts 84 = .ok (.iconst 1, 1) := by decide +kernel
theorem dX2_puts_85 : decode cX2_puts 85 = .ok (.ireturn, 1) := by decide +kernel
theorem dX3_init_0 : decode cX3_init 0 = .ok (.aload_n 0, 1) := by decide +kernel
theorem dX3_init_1 : decode cX3_init 1 = .ok (.invokespecial 3, 3) := by decide +kernel
theorem dX3_init_4 : decode cX3_init 4 = .ok (.aload_n 0, 1) := by decide +kernel
theorem dX3_init_5 : decode cX3_init 5 = .ok (.bipush 24, 2) := by decide +kernel
theorem dX3_init_7 : decode cX3_init 7 = .ok (.newarray .long, 2) := by decide +kernel
theorem dX3_init_9 : decode cX3_init 9 = .ok (.putfield 9, 3) := by decide +kernel
theorem dX3_init_12 : decode cX3_init 12 = .ok (.aload_n 0, 1) := by decide +kernel
theorem dX3_init_13 : decode cX3_init 13 = .ok (.bipush 24, 2) := by decide +kernel
theorem dX3_init_15 : decode cX3_init 15 = .ok (.newarray .long, 2) := by decide +kernel
theorem dX3_init_17 : decode cX3_init 17 = .ok (.putfield 15, 3) := by decide +kernel
theorem dX3_init_20 : decode cX3_init 20 = .ok (.return_, 1) := by decide +kernel
theorem dX3_copyFrom_0 : decode cX3_copyFrom 0 = .ok (.aload_n 0, 1) := by decide +kernel
theorem dX3_copyFrom_1 : decode cX3_copyFrom 1 = .ok (.aload_n 1, 1) := by decide +kernel
theorem dX3_copyFrom_2 : decode cX3_copyFrom 2 = .ok (.getfield 18, 3) := by decide +kernel
theorem dX3_copyFrom_5 : decode cX3_copyFrom 5 = .ok (.putfield 18, 3) := by decide +kernel
theorem dX3_copyFrom_8 : decode cX3_copyFrom 8 = .ok (.aload_n 1, 1) := by decide +kernel
theorem dX3_copyFrom_9 : decode cX3_copyFrom 9 = .ok (.getfield 9, 3) := by decide +kernel
theorem dX3_copyFrom_12 : decode cX3_copyFrom 12 = .ok (.iconst 0, 1) := by decide +kernel
theorem dX3_copyFrom_13 : decode cX3_copyFrom 13 = .ok (.aload_n 0, 1) := by decide +kernel
theorem dX3_copyFrom_14 : decode cX3_copyFrom 14 = .ok (.getfield 9, 3) := by decide +kernel
theorem dX3_copyFrom_17 : decode cX3_copyFrom 17 = .ok (.iconst 0, 1) := by decide +kernel
theorem dX3_copyFrom_18 : decode cX3_copyFrom 18 = .ok (.bipush 24, 2) := by decide +kernel
theorem dX3_copyFrom_20 : decode cX3_copyFrom 20 = .ok (.invokestatic 22, 3) := by decide +kernel
theorem dX3_copyFrom_23 : decode cX3_copyFrom 23 = .ok (.aload_n 1, 1) := by decide +kernel
theorem dX3_copyFrom_24 : decode cX3_copyFrom 24 = .ok (.getfield 15, 3) := by decide +kernel
theorem dX3_copyFrom_27 : decode cX3_copyFrom 27 = .ok (.iconst 0, 1) := by decide +kernel
theorem dX3_copyFrom_28 : decode cX3_copyFrom 28 = .ok (.aload_n 0, 1) := by decide +kernel
theorem dX3_copyFrom_29 : decode cX3_copyFrom 29 = .ok (.getfield 15, 3) := by decide +kernel
theorem dX3_copyFrom_32 : decode cX3_copyFrom 32 = .ok (.iconst 0, 1) := by decide +kernel
theorem dX3_copyFrom_33 : decode cX3_copyFrom 33 = .ok (.bipush 24, 2) := by decide +kernel
theorem dX3_copyFrom_35 : decode cX3_copyFrom 35 = .ok (.invokestatic 22, 3) := by decide +kernel
theorem dX3_copyFrom_38 : decode cX3_copyFrom 38 = .ok (.return_, 1) := by decide +kernel
theorem dX3_lowOf_0 : decode cX3_lowOf 0 = .ok (.iload_n 1, 1) := by decide +kernel
theorem dX3_lowOf_1 : decode cX3_lowOf 1 = .ok (.ifCond .lt 21, 3) := by decide +kernel
theorem dX3_lowOf_4 : decode cX3_lowOf 4 = .ok (.iload_n 1, 1) := by decide +kernel
theorem dX3_lowOf_5 : decode cX3_lowOf 5 = .ok (.aload_n 0, 1) := by decide +kernel
theorem dX3_lowOf_6 : decode cX3_lowOf 6 = .ok (.getfield 9, 3) := by decide +kernel
theorem dX3_lowOf_9 : decode cX3_lowOf 9 = .ok (.arraylength, 1) := by decide +kernel
theorem dX3_lowOf_10 : decode cX3_lowOf 10 = .ok (.if_icmp .ge 12, 3) := by decide +kernel
theorem dX3_lowOf_13 : decode cX3_lowOf 13 = .ok (.aload_n 0, 1) := by decide +kernel
theorem dX3_lowOf_14 : decode cX3_lowOf 14 = .ok (.getfield 9, 3) := by decide +kernel
theorem dX3_lowOf_17 : decode cX3_lowOf 17 = .ok (.iload_n 1, 1) := by decide +kernel
theorem dX3_lowOf_18 : decode cX3_lowOf 18 = .ok (.laload, 1) := by decide +kernel
theorem dX3_lowOf_19 : decode cX3_lowOf 19 = .ok (.goto 4, 3) := by decide +kernel
theorem dX3_lowOf_22 : decode cX3_lowOf 22 = .ok (.lconst 0, 1) := by decide +kernel
theorem dX3_lowOf_23 : decode cX3_lowOf 23 = .ok (.lreturn, 1) := by decide +kernel
theorem dX3_highOf_0 : decode cX3_highOf 0 = .ok (.iload_n 1, 1) := by decide +kernel
theorem dX3_highOf_1 : decode cX3_highOf 1 = .ok (.ifCond .lt 21, 3) := by decide +kernel
theorem dX3_highOf_4 : decode cX3_highOf 4 = .ok (.iload_n 1, 1) := by decide +kernel
theorem dX3_highOf_5 : decode cX3_highOf 5 = .ok (.aload_n 0, 1) := by decide +kernel
theorem dX3_highOf_6 : decode cX3_highOf 6 = .ok (.getfield 15, 3) := by decide +kernel
theorem dX3_highOf_9 : decode cX3_highOf 9 = .ok (.arraylength, 1) := by decide +kernel
theorem dX3_highOf_10 : decode cX3_highOf 10 = .ok (.if_icmp .ge 12, 3) := by decide +kernel
theorem dX3_highOf_13 : decode cX3_highOf 13 = .ok (.aload_n 0, 1) := by decide +kernel
theorem dX3_highOf_14 : decode cX3_highOf 14 = .ok (.getfield 15, 3) := by decide +kernel
theorem dX3_highOf_17 : decode cX3_highOf 17 = .ok (.iload_n 1, 1) := by decide +kernel
theorem dX3_highOf_18 : decode cX3_highOf 18 = .ok (.laload, 1) := by decide +kernel
theorem dX3_highOf_19 : decode cX3_highOf 19 = .ok (.goto 4, 3) := by decide +kernel
theorem dX3_highOf_22 : decode cX3_highOf 22 = .ok (.lconst 0, 1) := by decide +kernel
theorem dX3_highOf_23 : decode cX3_highOf 23 = .ok (.lreturn, 1) := by decide +kernel
theorem dX3_putPlanes_0 : decode cX3_putPlanes 0 = .ok (.iload_n 1, 1) := by decide +kernel
theorem dX3_putPlanes_1 : decode cX3_putPlanes 1 = .ok (.ifCond .lt 36, 3) := by decide +kernel
theorem dX3_putPlanes_4 : decode cX3_putPlanes 4 = .ok (.iload_n 1, 1) := by decide +kernel
theorem dX3_putPlanes_5 : decode cX3_putPlanes 5 = .ok (.aload_n 0, 1) := by decide +kernel
theorem dX3_putPlanes_6 : decode cX3_putPlanes 6 = .ok (.getfield 9, 3) := by decide +kernel
theorem dX3_putPlanes_9 : decode cX3_putPlanes 9 = .ok (.arraylength, 1) := by decide +kernel
theorem dX3_putPlanes_10 : decode cX3_putPlanes 10 = .ok (.if_icmp .ge 27, 3) := by decide +kernel
theorem dX3_putPlanes_13 : decode cX3_putPlanes 13 = .ok (.iload_n 1, 1) := by decide +kernel
theorem dX3_putPlanes_14 : decode cX3_putPlanes 14 = .ok (.aload_n 0, 1) := by decide +kernel
theorem dX3_putPlanes_15 : decode cX3_putPlanes 15 = .ok (.getfield 15, 3) := by decide +kernel
theorem dX3_putPlanes_18 : decode cX3_putPlanes 18 = .ok (.arraylength, 1) := by decide +kernel
theorem dX3_putPlanes_19 : decode cX3_putPlanes 19 = .ok (.if_icmp .ge 18, 3) := by decide +kernel
theorem dX3_putPlanes_22 : decode cX3_putPlanes 22 = .ok (.aload_n 0, 1) := by decide +kernel
theorem dX3_putPlanes_23 : decode cX3_putPlanes 23 = .ok (.getfield 9, 3) := by decide +kernel
theorem dX3_putPlanes_26 : decode cX3_putPlanes 26 = .ok (.iload_n 1, 1) := by decide +kernel
theorem dX3_putPlanes_27 : decode cX3_putPlanes 27 = .ok (.lload_n 2, 1) := by decide +kernel
theorem dX3_putPlanes_28 : decode cX3_putPlanes 28 = .ok (.lastore, 1) := by decide +kernel
theorem dX3_putPlanes_29 : decode cX3_putPlanes 29 = .ok (.aload_n 0, 1) := by decide +kernel
theorem dX3_putPlanes_30 : decode cX3_putPlanes 30 = .ok (.getfield 15, 3) := by decide +kernel
theorem dX3_putPlanes_33 : decode cX3_putPlanes 33 = .ok (.iload_n 1, 1) := by decide +kernel
theorem dX3_putPlanes_34 : decode cX3_putPlanes 34 = .ok (.lload 4, 2) := by decide +kernel
theorem dX3_putPlanes_36 : decode cX3_putPlanes 36 = .ok (.lastore, 1) := by decide +kernel
theorem dX3_putPlanes_37 : decode cX3_putPlanes 37 = .ok (.return_, 1) := by decide +kernel
set_option maxRecDepth 20000 in
theorem ggX3_addBlank_X3_putPlanes : GoodIn wsX3_addBlank wsX3_putPlanes := goodIn_r _ [6, 7, 8, 9, 10, 11] (by decide +kernel) (by decide +kernel)
set_option maxRecDepth 20000 in
theorem gX3_addBlank_X3_putPlanes : GoodIn wsX3_addBlank (wsV RX3 28 RX3 yX3_putPlanes wsX3_putPlanes) := goodIn_app (goodIn_of _ (by decide +kernel)) ggX3_addBlank_X3_putPlanes
theorem dX3_addBlank_0 : decode cX3_addBlank 0 = .ok (.aload_n 0, 1) := by decide +kernel
theorem dX3_addBlank_1 : decode cX3_addBlank 1 = .ok (.aload_n 0, 1) := by decide +kernel
theorem dX3_addBlank_2 : decode cX3_addBlank 2 = .ok (.getfield 18, 3) := by decide +kernel
theorem dX3_addBlank_5 : decode cX3_addBlank 5 = .ok (.lconst 0, 1) := by decide +kernel
theorem dX3_addBlank_6 : decode cX3_addBlank 6 = .ok (.lconst 0, 1) := by decide +kernel
theorem dX3_addBlank_7 : decode cX3_addBlank 7 = .ok (.invokevirtual 28, 3) := by decide +kernel
theorem dX3_addBlank_10 : decode cX3_addBlank 10 = .ok (.aload_n 0, 1) := by decide +kernel
theorem dX3_addBlank_11 : decode cX3_addBlank 11 = .ok (.dup, 1) := by decide +kernel
theorem dX3_addBlank_12 : decode cX3_addBlank 12 = .ok (.getfield 18, 3) := by decide +kernel
theorem dX3_addBlank_15 : decode cX3_addBlank 15 = .ok (.iconst 1, 1) := by decide +kernel
theorem dX3_addBlank_16 : decode cX3_addBlank 16 = .ok (.iadd, 1) := by decide +kernel
theorem dX3_addBlank_17 : decode cX3_addBlank 17 = .ok (.putfield 18, 3) := by decide +kernel
theorem dX3_addBlank_20 : decode cX3_addBlank 20 = .ok (.return_, 1) := by decide +kernel
set_option maxRecDepth 20000 in
theorem ggX3_pixelAt_X3_lowOf : GoodIn wsX3_pixelAt wsX3_lowOf := goodIn_r _ [5, 6, 12, 13, 14] (by decide +kernel) (by decide +kernel)
set_option maxRecDepth 20000 in
theorem gX3_pixelAt_X3_lowOf : GoodIn wsX3_pixelAt (wsV RX3 32 RX3 yX3_lowOf wsX3_lowOf) := goodIn_app (goodIn_of _ (by decide +kernel)) ggX3_pixelAt_X3_lowOf
set_option maxRecDepth 20000 in
theorem ggX3_pixelAt_X3_highOf : GoodIn wsX3_pixelAt wsX3_highOf := goodIn_r _ [10, 11, 12, 13, 14] (by decide +kernel) (by decide +kernel)
set_option maxRecDepth 20000 in
theorem gX3_pixelAt_X3_highOf : GoodIn wsX3_pixelAt (wsV RX3 36 RX3 yX3_highOf wsX3_highOf) := goodIn_app (goodIn_of _ (by decide +kernel)) ggX3_pixelAt_X3_highOf
theorem dX3_pixelAt_0 : decode cX3_pixelAt 0 = .ok (.bipush 8, 2) := by decide +kernel
theorem dX3_pixelAt_2 : decode cX3_pixelAt 2 = .ok (.iload_n 3, 1) := by decide +kernel
theorem dX3_pixelAt_3 : decode cX3_pixelAt 3 = .ok (.imul, 1) := by decide +kernel
theorem dX3_pixelAt_4 : decode cX3_pixelAt 4 = .ok (.iload 4, 2) := by decide +kernel
theorem dX3_pixelAt_6 : decode cX3_pixelAt 6 = .ok (.iadd, 1) := by decide +kernel
theorem dX3_pixelAt_7 : decode cX3_pixelAt 7 = .ok (.istore 5, 2) := by decide +kernel
theorem dX3_pixelAt_9 : decode cX3_pixelAt 9 = .ok (.iload_n 2, 1) := by decide +kernel
theorem dX3_pixelAt_10 : decode cX3_pixelAt 10 = .ok (.iconst 1, 1) := by decide +kernel
theorem dX3_pixelAt_11 : decode cX3_pixelAt 11 = .ok (.iand, 1) := by decide +kernel
theorem dX3_pixelAt_12 : decode cX3_pixelAt 12 = .ok (.ifCond .eq 10, 3) := by decide +kernel
theorem dX3_pixelAt_15 : decode cX3_pixelAt 15 = .ok (.iload 5, 2) := by decide +kernel
theorem dX3_pixelAt_17 : decode cX3_pixelAt 17 = .ok (.bipush 7, 2) := by decide +kernel
theorem dX3_pixelAt_19 : decode cX3_pixelAt 19 = .ok (.ixor, 1) := by decide +kernel
theorem dX3_pixelAt_20 : decode cX3_pixelAt 20 = .ok (.istore 5, 2) := by decide +kernel
theorem dX3_pixelAt_22 : decode cX3_pixelAt 22 = .ok (.iload_n 2, 1) := by decide +kernel
theorem dX3_pixelAt_23 : decode cX3_pixelAt 23 = .ok (.iconst 2, 1) := by decide +kernel
theorem dX3_pixelAt_24 : decode cX3_pixelAt 24 = .ok (.iand, 1) := by decide +kernel
theorem dX3_pixelAt_25 : decode cX3_pixelAt 25 = .ok (.ifCond .eq 10, 3) := by decide +kernel
theorem dX3_pixelAt_28 : decode cX3_pixelAt 28 = .ok (.iload 5, 2) := by decide +kernel
theorem dX3_pixelAt_30 : decode cX3_pixelAt 30 = .ok (.bipush 56, 2) := by decide +kernel
theorem dX3_pixelAt_32 : decode cX3_pixelAt 32 = .ok (.ixor, 1) := by decide +kernel
theorem dX3_pixelAt_33 : decode cX3_pixelAt 33 = .ok (.istore 5, 2) := by decide +kernel
theorem dX3_pixelAt_35 : decode cX3_pixelAt 35 = .ok (.aload_n 0, 1) := by decide +kernel
theorem dX3_pixelAt_36 : decode cX3_pixelAt 36 = .ok (.iload_n 1, 1) := by decide +kernel
theorem dX3_pixelAt_37 : decode cX3_pixelAt 37 = .ok (.invokevirtual 32, 3) := by decide +kernel
theorem dX3_pixelAt_40 : decode cX3_pixelAt 40 = .ok (.iload 5, 2) := by decide +kernel
theorem dX3_pixelAt_42 : decode cX3_pixelAt 42 = .ok (.lushr, 1) := by decide +kernel
theorem dX3_pixelAt_43 : decode cX3_pixelAt 43 = .ok (.lconst 1, 1) := by decide +kernel
theorem dX3_pixelAt_44 : decode cX3_pixelAt 44 = .ok (.land, 1) := by decide +kernel
theorem dX3_pixelAt_45 : decode cX3_pixelAt 45 = .ok (.l2i, 1) := by decide +kernel
theorem dX3_pixelAt_46 : decode cX3_pixelAt 46 = .ok (.iconst 2, 1) := by decide +kernel
theorem dX3_pixelAt_47 : decode cX3_pixelAt 47 = .ok (.aload_n 0, 1) := by decide +kernel
theorem dX3_pixelAt_48 : decode cX3_pixelAt 48 = .ok (.iload_n 1, 1) := by decide +kernel
theorem dX3_pixelAt_49 : decode cX3_pixelAt 49 = .ok (.invokevirtual 36, 3) := by decide +kernel
theorem dX3_pixelAt_52 : decode cX3_pixelAt 52 = .ok (.iload 5, 2) := by decide +kernel
theorem dX3_pixelAt_54 : decode cX3_pixelAt 54 = .ok (.lushr, 1) := by decide +kernel
theorem dX3_pixelAt_55 : decode cX3_pixelAt 55 = .ok (.lconst 1, 1) := by decide +kernel
theorem dX3_pixelAt_56 : decode cX3_pixelAt 56 = .ok (.land, 1) := by decide +kernel
theorem dX3_pixelAt_57 : decode cX3_pixelAt 57 = .ok (.l2i, 1) := by decide +kernel
theorem dX3_pixelAt_58 : decode cX3_pixelAt 58 = .ok (.imul, 1) := by decide +kernel
theorem dX3_pixelAt_59 : decode cX3_pixelAt 59 = .ok (.iadd, 1) := by decide +kernel
theorem dX3_pixelAt_60 : decode cX3_pixelAt 60 = .ok (.ireturn, 1) := by decide +kernel
set_option maxRecDepth 20000 in
theorem ggX3_putPixel_X3_lowOf : GoodIn wsX3_putPixel wsX3_lowOf := goodIn_r _ [6, 7, 17, 18, 19] (by decide +kernel) (by decide +kernel)
set_option maxRecDepth 20000 in
theorem gX3_putPixel_X3_lowOf : GoodIn wsX3_putPixel (wsV RX3 32 RX3 yX3_lowOf wsX3_lowOf) := goodIn_app (goodIn_of _ (by decide +kernel)) ggX3_putPixel_X3_lowOf
set_option maxRecDepth 20000 in
theorem ggX3_putPixel_X3_highOf : GoodIn wsX3_putPixel wsX3_highOf := goodIn_r _ [11, 12, 17, 18, 19] (by decide +kernel) (by decide +kernel)
set_option maxRecDepth 20000 in
theorem gX3_putPixel_X3_highOf : GoodIn wsX3_putPixel (wsV RX3 36 RX3 yX3_highOf wsX3_highOf) := goodIn_app (goodIn_of _ (by decide +kernel)) ggX3_putPixel_X3_highOf
set_option maxRecDepth 20000 in
theorem ggX3_putPixel_X3_putPlanes : GoodIn wsX3_putPixel wsX3_putPlanes := goodIn_r _ [16, 7, 12, 17, 18, 19] (by decide +kernel) (by decide +kernel)
set_option maxRecDepth 20000 in
theorem gX3_putPixel_X3_putPlanes : GoodIn wsX3_putPixel (wsV RX3 28 RX3 yX3_putPlanes wsX3_putPlanes) := goodIn_app (goodIn_of _ (by decide +kernel)) ggX3_putPixel_X3_putPlanes
