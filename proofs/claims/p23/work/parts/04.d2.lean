theorem dX2_init_0 : decode cX2_init 0 = .ok (.aload_n 0, 1) := by decide +kernel
theorem dX2_init_1 : decode cX2_init 1 = .ok (.invokespecial 1, 3) := by decide +kernel
theorem dX2_init_4 : decode cX2_init 4 = .ok (.aload_n 0, 1) := by decide +kernel
theorem dX2_init_5 : decode cX2_init 5 = .ok (.new 7, 3) := by decide +kernel
theorem dX2_init_8 : decode cX2_init 8 = .ok (.dup, 1) := by decide +kernel
theorem dX2_init_9 : decode cX2_init 9 = .ok (.invokespecial 9, 3) := by decide +kernel
theorem dX2_init_12 : decode cX2_init 12 = .ok (.putfield 10, 3) := by decide +kernel
theorem dX2_init_15 : decode cX2_init 15 = .ok (.aload_n 0, 1) := by decide +kernel
theorem dX2_init_16 : decode cX2_init 16 = .ok (.new 16, 3) := by decide +kernel
theorem dX2_init_19 : decode cX2_init 19 = .ok (.dup, 1) := by decide +kernel
theorem dX2_init_20 : decode cX2_init 20 = .ok (.invokespecial 18, 3) := by decide +kernel
theorem dX2_init_23 : decode cX2_init 23 = .ok (.putfield 19, 3) := by decide +kernel
theorem dX2_init_26 : decode cX2_init 26 = .ok (.aload_n 0, 1) := by decide +kernel
theorem dX2_init_27 : decode cX2_init 27 = .ok (.new 16, 3) := by decide +kernel
theorem dX2_init_30 : decode cX2_init 30 = .ok (.dup, 1) := by decide +kernel
theorem dX2_init_31 : decode cX2_init 31 = .ok (.invokespecial 18, 3) := by decide +kernel
theorem dX2_init_34 : decode cX2_init 34 = .ok (.putfield 23, 3) := by decide +kernel
theorem dX2_init_37 : decode cX2_init 37 = .ok (.aload_n 0, 1) := by decide +kernel
theorem dX2_init_38 : decode cX2_init 38 = .ok (.bipush 9, 2) := by decide +kernel
theorem dX2_init_40 : decode cX2_init 40 = .ok (.newarray .int, 2) := by decide +kernel
theorem dX2_init_42 : decode cX2_init 42 = .ok (.putfield 26, 3) := by decide +kernel
theorem dX2_init_45 : decode cX2_init 45 = .ok (.aload_n 0, 1) := by decide +kernel
theorem dX2_init_46 : decode cX2_init 46 = .ok (.bipush 9, 2) := by decide +kernel
theorem dX2_init_48 : decode cX2_init 48 = .ok (.newarray .int, 2) := by decide +kernel
theorem dX2_init_50 : decode cX2_init 50 = .ok (.putfield 30, 3) := by decide +kernel
theorem dX2_init_53 : decode cX2_init 53 = .ok (.aload_n 0, 1) := by decide +kernel
theorem dX2_init_54 : decode cX2_init 54 = .ok (.bipush 9, 2) := by decide +kernel
theorem dX2_init_56 : decode cX2_init 56 = .ok (.newarray .int, 2) := by decide +kernel
theorem dX2_init_58 : decode cX2_init 58 = .ok (.putfield 33, 3) := by decide +kernel
theorem dX2_init_61 : decode cX2_init 61 = .ok (.aload_n 0, 1) := by decide +kernel
theorem dX2_init_62 : decode cX2_init 62 = .ok (.iconst 2, 1) := by decide +kernel
theorem dX2_init_63 : decode cX2_init 63 = .ok (.iconst 2, 1) := by decide +kernel
theorem dX2_init_64 : decode cX2_init 64 = .ok (.invokevirtual 36, 3) := by decide +kernel
theorem dX2_init_67 : decode cX2_init 67 = .ok (.return_, 1) := by decide +kernel
set_option maxRecDepth 20000 in
theorem ggX2_lay_X2_startWith : GoodIn wsX2_lay wsX2_startWith := goodIn_r _ [8, 3, 9, 10, 11, 12, 13, 14, 15, 16, 17, 18, 19, 20, 21, 22, 23, 24, 25, 26, 27, 28, 29, 30, 7, 31, 32, 33, 34, 35, 36, 37, 38, 39, 40, 41, 42, 43, 44, 45, 46, 47, 48, 49, 50, 51] (by decide +kernel) (by decide +kernel)
set_option maxRecDepth 20000 in
theorem gX2_lay_X2_startWith : GoodIn wsX2_lay (wsV RX2 36 RX2 yX2_startWith wsX2_startWith) := goodIn_app (goodIn_of _ (by decide +kernel)) ggX2_lay_X2_startWith
theorem dX2_lay_0 : decode cX2_lay 0 = .ok (.iload_n 1, 1) := by decide +kernel
theorem dX2_lay_1 : decode cX2_lay 1 = .ok (.iconst 2, 1) := by decide +kernel
theorem dX2_lay_2 : decode cX2_lay 2 = .ok (.if_icmp .lt 28, 3) := by decide +kernel
theorem dX2_lay_5 : decode cX2_lay 5 = .ok (.iload_n 1, 1) := by decide +kernel
theorem dX2_lay_6 : decode cX2_lay 6 = .ok (.iconst 4, 1) := by decide +kernel
theorem dX2_lay_7 : decode cX2_lay 7 = .ok (.if_icmp .gt 23, 3) := by decide +kernel
theorem dX2_lay_10 : decode cX2_lay 10 = .ok (.iload_n 2, 1) := by decide +kernel
theorem dX2_lay_11 : decode cX2_lay 11 = .ok (.iconst 2, 1) := by decide +kernel
theorem dX2_lay_12 : decode cX2_lay 12 = .ok (.if_icmp .lt 18, 3) := by decide +kernel
theorem dX2_lay_15 : decode cX2_lay 15 = .ok (.iload_n 2, 1) := by decide +kernel
theorem dX2_lay_16 : decode cX2_lay 16 = .ok (.iconst 3, 1) := by decide +kernel
theorem dX2_lay_17 : decode cX2_lay 17 = .ok (.if_icmp .gt 13, 3) := by decide +kernel
theorem dX2_lay_20 : decode cX2_lay 20 = .ok (.iload_n 1, 1) := by decide +kernel
theorem dX2_lay_21 : decode cX2_lay 21 = .ok (.iconst 4, 1) := by decide +kernel
theorem dX2_lay_22 : decode cX2_lay 22 = .ok (.if_icmp .ne 18, 3) := by decide +kernel
theorem dX2_lay_25 : decode cX2_lay 25 = .ok (.iload_n 2, 1) := by decide +kernel
theorem dX2_lay_26 : decode cX2_lay 26 = .ok (.iconst 3, 1) := by decide +kernel
theorem dX2_lay_27 : decode cX2_lay 27 = .ok (.if_icmp .ne 13, 3) := by decide +kernel
theorem dX2_lay_30 : decode cX2_lay 30 = .ok (.new 40, 3) := by decide +kernel
theorem dX2_lay_33 : decode cX2_lay 33 = .ok (.dup, 1) := by decide +kernel
theorem dX2_lay_34 : decode cX2_lay 34 = .ok (.ldc 42, 2) := by decide +kernel
theorem dX2_lay_36 : decode cX2_lay 36 = .ok (.invokespecial 44, 3) := by decide +kernel
theorem dX2_lay_39 : decode cX2_lay 39 = .ok (.athrow, 1) := by decide +kernel
theorem dX2_lay_40 : decode cX2_lay 40 = .ok (.aload_n 0, 1) := by decide +kernel
theorem dX2_lay_41 : decode cX2_lay 41 = .ok (.iload_n 1, 1) := by decide +kernel
theorem dX2_lay_42 : decode cX2_lay 42 = .ok (.iload_n 2, 1) := by decide +kernel
theorem dX2_lay_43 : decode cX2_lay 43 = .ok (.invokevirtual 36, 3) := by decide +kernel
theorem dX2_lay_46 : decode cX2_lay 46 = .ok (.aload_n 0, 1) := by decide +kernel
theorem dX2_lay_47 : decode cX2_lay 47 = .ok (.getfield 10, 3) := by decide +kernel
theorem dX2_lay_50 : decode cX2_lay 50 = .ok (.getfield 47, 3) := by decide +kernel
theorem dX2_lay_53 : decode cX2_lay 53 = .ok (.ireturn, 1) := by decide +kernel
set_option maxRecDepth 20000 in
theorem ggX2_setRegion_X0_hasTeam : GoodIn wsX2_setRegion wsX0_hasTeam := goodIn_r _ [8, 9, 37, 38, 39, 40, 41, 42, 43, 44, 45] (by decide +kernel) (by decide +kernel)
set_option maxRecDepth 20000 in
theorem gX2_setRegion_X0_hasTeam : GoodIn wsX2_setRegion (wsV RX2 51 RX0 yX0_hasTeam wsX0_hasTeam) := goodIn_app (goodIn_of _ (by decide +kernel)) ggX2_setRegion_X0_hasTeam
set_option maxRecDepth 20000 in
theorem ggX2_setRegion_X0_hasRegion : GoodIn wsX2_setRegion wsX0_hasRegion := goodIn_r _ [13] (by decide +kernel) (by decide +kernel)
set_option maxRecDepth 20000 in
theorem gX2_setRegion_X0_hasRegion : GoodIn wsX2_setRegion (wsV RX2 55 RX0 yX0_hasRegion wsX0_hasRegion) := goodIn_app (goodIn_of _ (by decide +kernel)) ggX2_setRegion_X0_hasRegion
set_option maxRecDepth 20000 in
theorem ggX2_setRegion_X2_requireNothingDrawn : GoodIn wsX2_setRegion wsX2_requireNothingDrawn := goodIn_ca (goodIn_r _ [18, 19, 20, 21, 28, 29, 30, 31, 32, 33, 34, 35, 36] (by decide +kernel) (by decide +kernel)) (goodIn_sub (fun _ h => List.mem_cons_of_mem _ (List.mem_append_right _ h)) (by decide +kernel))
set_option maxRecDepth 20000 in
theorem gX2_setRegion_X2_requireNothingDrawn : GoodIn wsX2_setRegion (wsV RX2 63 RX2 yX2_requireNothingDrawn wsX2_requireNothingDrawn) := goodIn_app (goodIn_of _ (by decide +kernel)) ggX2_setRegion_X2_requireNothingDrawn
set_option maxRecDepth 20000 in
theorem ggX2_setRegion_X2_forgetResults : GoodIn wsX2_setRegion wsX2_forgetResults := goodIn_r _ [25, 26, 27, 28, 29, 30, 31, 32, 33, 34, 35, 36] (by decide +kernel) (by decide +kernel)
set_option maxRecDepth 20000 in
theorem gX2_setRegion_X2_forgetResults : GoodIn wsX2_setRegion (wsV RX2 69 RX2 yX2_forgetResults wsX2_forgetResults) := goodIn_app (goodIn_of _ (by decide +kernel)) ggX2_setRegion_X2_forgetResults
theorem dX2_setRegion_0 : decode cX2_setRegion 0 = .ok (.aload_n 0, 1) := by decide +kernel
theorem dX2_setRegion_1 : decode cX2_setRegion 1 = .ok (.getfield 10, 3) := by decide +kernel
theorem dX2_setRegion_4 : decode cX2_setRegion 4 = .ok (.iload_n 1, 1) := by decide +kernel
theorem dX2_setRegion_5 : decode cX2_setRegion 5 = .ok (.invokevirtual 51, 3) := by decide +kernel
theorem dX2_setRegion_8 : decode cX2_setRegion 8 = .ok (.ifCond .eq 14, 3) := by decide +kernel
theorem dX2_setRegion_11 : decode cX2_setRegion 11 = .ok (.aload_n 0, 1) := by decide +kernel
theorem dX2_setRegion_12 : decode cX2_setRegion 12 = .ok (.getfield 10, 3) := by decide +kernel
theorem dX2_setRegion_15 : decode cX2_setRegion 15 = .ok (.iload_n 2, 1) := by decide +kernel
theorem dX2_setRegion_16 : decode cX2_setRegion 16 = .ok (.invokevirtual 55, 3) := by decide +kernel
theorem dX2_setRegion_19 : decode cX2_setRegion 19 = .ok (.ifCond .ne 13, 3) := by decide +kernel
theorem dX2_setRegion_22 : decode cX2_setRegion 22 = .ok (.new 58, 3) := by decide +kernel
theorem dX2_setRegion_25 : decode cX2_setRegion 25 = .ok (.dup, 1) := by decide +kernel
theorem dX2_setRegion_26 : decode cX2_setRegion 26 = .ok (.ldc 60, 2) := by decide +kernel
theorem dX2_setRegion_28 : decode cX2_setRegion 28 = .ok (.invokespecial 62, 3) := by decide +kernel
theorem dX2_setRegion_31 : decode cX2_setRegion 31 = .ok (.athrow, 1) := by decide +kernel
theorem dX2_setRegion_32 : decode cX2_setRegion 32 = .ok (.aload_n 0, 1) := by decide +kernel
theorem dX2_setRegion_33 : decode cX2_setRegion 33 = .ok (.invokevirtual 63, 3) := by decide +kernel
theorem dX2_setRegion_36 : decode cX2_setRegion 36 = .ok (.aload_n 0, 1) := by decide +kernel
theorem dX2_setRegion_37 : decode cX2_setRegion 37 = .ok (.getfield 10, 3) := by decide +kernel
theorem dX2_setRegion_40 : decode cX2_setRegion 40 = .ok (.getfield 66, 3) := by decide +kernel
theorem dX2_setRegion_43 : decode cX2_setRegion 43 = .ok (.iload_n 1, 1) := by decide +kernel
theorem dX2_setRegion_44 : decode cX2_setRegion 44 = .ok (.iaload, 1) := by decide +kernel
theorem dX2_setRegion_45 : decode cX2_setRegion 45 = .ok (.istore_n 3, 1) := by decide +kernel
theorem dX2_setRegion_46 : decode cX2_setRegion 46 = .ok (.aload_n 0, 1) := by decide +kernel
theorem dX2_setRegion_47 : decode cX2_setRegion 47 = .ok (.getfield 10, 3) := by decide +kernel
theorem dX2_setRegion_50 : decode cX2_setRegion 50 = .ok (.getfield 66, 3) := by decide +kernel
theorem dX2_setRegion_53 : decode cX2_setRegion 53 = .ok (.iload_n 1, 1) := by decide +kernel
theorem dX2_setRegion_54 : decode cX2_setRegion 54 = .ok (.iload_n 2, 1) := by decide +kernel
theorem dX2_setRegion_55 : decode cX2_setRegion 55 = .ok (.iastore, 1) := by decide +kernel
theorem dX2_setRegion_56 : decode cX2_setRegion 56 = .ok (.aload_n 0, 1) := by decide +kernel
theorem dX2_setRegion_57 : decode cX2_setRegion 57 = .ok (.invokevirtual 69, 3) := by decide +kernel
theorem dX2_setRegion_60 : decode cX2_setRegion 60 = .ok (.iload_n 3, 1) := by decide +kernel
theorem dX2_setRegion_61 : decode cX2_setRegion 61 = .ok (.ireturn, 1) := by decide +kernel
set_option maxRecDepth 20000 in
theorem ggX2_setBound_X0_hasRegion : GoodIn wsX2_setBound wsX0_hasRegion := goodIn_r _ [10] (by decide +kernel) (by decide +kernel)
set_option maxRecDepth 20000 in
theorem gX2_setBound_X0_hasRegion : GoodIn wsX2_setBound (wsV RX2 55 RX0 yX0_hasRegion wsX0_hasRegion) := goodIn_app (goodIn_of _ (by decide +kernel)) ggX2_setBound_X0_hasRegion
set_option maxRecDepth 20000 in
theorem ggX2_setBound_X2_requireNothingDrawn : GoodIn wsX2_setBound wsX2_requireNothingDrawn := goodIn_ca (goodIn_r _ [15, 16, 17, 18, 25, 26, 27, 28, 29, 30, 31, 32, 33] (by decide +kernel) (by decide +kernel)) (goodIn_sub (fun _ h => List.mem_cons_of_mem _ (List.mem_append_right _ h)) (by decide +kernel))
set_option maxRecDepth 20000 in
theorem gX2_setBound_X2_requireNothingDrawn : GoodIn wsX2_setBound (wsV RX2 63 RX2 yX2_requireNothingDrawn wsX2_requireNothingDrawn) := goodIn_app (goodIn_of _ (by decide +kernel)) ggX2_setBound_X2_requireNothingDrawn
set_option maxRecDepth 20000 in
theorem ggX2_setBound_X2_forgetResults : GoodIn wsX2_setBound wsX2_forgetResults := goodIn_r _ [22, 23, 24, 25, 26, 27, 28, 29, 30, 31, 32, 33] (by decide +kernel) (by decide +kernel)
set_option maxRecDepth 20000 in
theorem gX2_setBound_X2_forgetResults : GoodIn wsX2_setBound (wsV RX2 69 RX2 yX2_forgetResults wsX2_forgetResults) := goodIn_app (goodIn_of _ (by decide +kernel)) ggX2_setBound_X2_forgetResults
theorem dX2_setBound_0 : decode cX2_setBound 0 = .ok (.aload_n 0, 1) := by decide +kernel
theorem dX2_setBound_1 : decode cX2_setBound 1 = .ok (.getfield 10, 3) := by decide +kernel
theorem dX2_setBound_4 : decode cX2_setBound 4 = .ok (.iload_n 1, 1) := by decide +kernel
theorem dX2_setBound_5 : decode cX2_setBound 5 = .ok (.invokevirtual 55, 3) := by decide +kernel
theorem dX2_setBound_8 : decode cX2_setBound 8 = .ok (.ifCond .ne 13, 3) := by decide +kernel
theorem dX2_setBound_11 : decode cX2_setBound 11 = .ok (.new 58, 3) := by decide +kernel
theorem dX2_setBound_14 : decode cX2_setBound 14 = .ok (.dup, 1) := by decide +kernel
theorem dX2_setBound_15 : decode cX2_setBound 15 = .ok (.ldc 72, 2) := by decide +kernel
theorem dX2_setBound_17 : decode cX2_setBound 17 = .ok (.invokespecial 62, 3) := by decide +kernel
theorem dX2_setBound_20 : decode cX2_setBound 20 = .ok (.athrow, 1) := by decide +kernel
theorem dX2_setBound_21 : decode cX2_setBound 21 = .ok (.iload_n 2, 1) := by decide +kernel
theorem dX2_setBound_22 : decode cX2_setBound 22 = .ok (.iconst 1, 1) := by decide +kernel
theorem dX2_setBound_23 : decode cX2_setBound 23 = .ok (.if_icmp .lt 8, 3) := by decide +kernel
theorem dX2_setBound_26 : decode cX2_setBound 26 = .ok (.iload_n 2, 1) := by decide +kernel
theorem dX2_setBound_27 : decode cX2_setBound 27 = .ok (.iconst 3, 1) := by decide +kernel
theorem dX2_setBound_28 : decode cX2_setBound 28 = .ok (.if_icmp .le 13, 3) := by decide +kernel
theorem dX2_setBound_31 : decode cX2_setBound 31 = .ok (.new 40, 3) := by decide +kernel
theorem dX2_setBound_34 : decode cX2_setBound 34 = .ok (.dup, 1) := by decide +kernel
theorem dX2_setBound_35 : decode cX2_setBound 35 = .ok (.ldc 74, 2) := by decide +kernel
theorem dX2_setBound_37 : decode cX2_setBound 37 = .ok (.invokespecial 44, 3) := by decide +kernel
theorem dX2_setBound_40 : decode cX2_setBound 40 = .ok (.athrow, 1) := by decide +kernel
theorem dX2_setBound_41 : decode cX2_setBound 41 = .ok (.aload_n 0, 1) := by decide +kernel
theorem dX2_setBound_42 : decode cX2_setBound 42 = .ok (.invokevirtual 63, 3) := by decide +kernel
theorem dX2_setBound_45 : decode cX2_setBound 45 = .ok (.aload_n 0, 1) := by decide +kernel
theorem dX2_setBound_46 : decode cX2_setBound 46 = .ok (.getfield 10, 3) := by decide +kernel
theorem dX2_setBound_49 : decode cX2_setBound 49 = .ok (.getfield 76, 3) := by decide +kernel
theorem dX2_setBound_52 : decode cX2_setBound 52 = .ok (.iload_n 1, 1) := by decide +kernel
theorem dX2_setBound_53 : decode cX2_setBound 53 = .ok (.iaload, 1) := by decide +kernel
theorem dX2_setBound_54 : decode cX2_setBound 54 = .ok (.istore_n 3, 1) := by decide +kernel
theorem dX2_setBound_55 : decode cX2_setBound 55 = .ok (.aload_n 0, 1) := by decide +kernel
theorem dX2_setBound_56 : decode cX2_setBound 56 = .ok (.getfield 10, 3) := by decide +kernel
theorem dX2_setBound_59 : decode cX2_setBound 59 = .ok (.getfield 76, 3) := by decide +kernel
theorem dX2_setBound_62 : decode cX2_setBound 62 = .ok (.iload_n 1, 1) := by decide +kernel
theorem dX2_setBound_63 : decode cX2_setBound 63 = .ok (.iload_n 2, 1) := by decide +kernel
theorem dX2_setBound_64 : decode cX2_setBound 64 = .ok (.iastore, 1) := by decide +kernel
theorem dX2_setBound_65 : decode cX2_setBound 65 = .ok (.aload_n 0, 1) := by decide +kernel
theorem dX2_setBound_66 : decode cX2_setBound 66 = .ok (.invokevirtual 69, 3) := by decide +kernel
theorem dX2_setBound_69 : decode cX2_setBound 69 = .ok (.iload_n 3, 1) := by decide +kernel
theorem dX2_setBound_70 : decode cX2_setBound 70 = .ok (.ireturn, 1) := by decide +kernel
set_option maxRecDepth 20000 in
theorem ggX2_setApart_X2_requireTwoTeams : GoodIn wsX2_setApart wsX2_requireTwoTeams := goodIn_ca (goodIn_ca (goodIn_r _ [6, 7, 8, 9, 10, 11, 5, 12, 13, 14, 1, 15, 16, 17, 18, 19, 20, 37, 38, 39, 40, 41, 42, 43, 44, 45, 46, 47, 48, 49, 50, 51, 52, 53, 54] (by decide +kernel) (by decide +kernel)) (goodIn_sub (fun _ h => List.mem_cons_of_mem _ (List.mem_append_left _ (List.mem_append_left _ (List.mem_append_right _ h)))) (by decide +kernel))) (goodIn_sub (fun _ h => List.mem_cons_of_mem _ (List.mem_append_left _ (List.mem_append_right _ h))) (by decide +kernel))
set_option maxRecDepth 20000 in
theorem gX2_setApart_X2_requireTwoTeams : GoodIn wsX2_setApart (wsV RX2 79 RX2 yX2_requireTwoTeams wsX2_requireTwoTeams) := goodIn_app (goodIn_of _ (by decide +kernel)) ggX2_setApart_X2_requireTwoTeams
set_option maxRecDepth 20000 in
theorem ggX2_setApart_X2_requireNothingDrawn : GoodIn wsX2_setApart wsX2_requireNothingDrawn := goodIn_ca (goodIn_r _ [24, 25, 26, 27, 37, 38, 39, 40, 41, 42, 43, 44, 45] (by decide +kernel) (by decide +kernel)) (goodIn_sub (fun _ h => List.mem_cons_of_mem _ (List.mem_append_right _ h)) (by decide +kernel))
set_option maxRecDepth 20000 in
theorem gX2_setApart_X2_requireNothingDrawn : GoodIn wsX2_setApart (wsV RX2 63 RX2 yX2_requireNothingDrawn wsX2_requireNothingDrawn) := goodIn_app (goodIn_of _ (by decide +kernel)) ggX2_setApart_X2_requireNothingDrawn
set_option maxRecDepth 20000 in
theorem ggX2_setApart_X2_forgetResults : GoodIn wsX2_setApart wsX2_forgetResults := goodIn_r _ [31, 32, 33, 37, 38, 39, 40, 41, 42, 43, 44, 45] (by decide +kernel) (by decide +kernel)
set_option maxRecDepth 20000 in
theorem gX2_setApart_X2_forgetResults : GoodIn wsX2_setApart (wsV RX2 69 RX2 yX2_forgetResults wsX2_forgetResults) := goodIn_app (goodIn_of _ (by decide +kernel)) ggX2_setApart_X2_forgetResults
set_option maxRecDepth 20000 in
theorem ggX2_setApart_X0_setPair : GoodIn wsX2_setApart wsX0_setPair := goodIn_r _ [36] (by decide +kernel) (by decide +kernel)
set_option maxRecDepth 20000 in
theorem gX2_setApart_X0_setPair : GoodIn wsX2_setApart (va_wsS RX2 85 yX0_setPair wsX0_setPair) := goodIn_app (goodIn_of _ (by decide +kernel)) ggX2_setApart_X0_setPair
theorem dX2_setApart_0 : decode cX2_setApart 0 = .ok (.aload_n 0, 1) := by decide +kernel
theorem dX2_setApart_1 : decode cX2_setApart 1 = .ok (.iload_n 1, 1) := by decide +kernel
theorem dX2_setApart_2 : decode cX2_setApart 2 = .ok (.iload_n 2, 1) := by decide +kernel
theorem dX2_setApart_3 : decode cX2_setApart 3 = .ok (.invokevirtual 79, 3) := by decide +kernel
theorem dX2_setApart_6 : decode cX2_setApart 6 = .ok (.aload_n 0, 1) := by decide +kernel
theorem dX2_setApart_7 : decode cX2_setApart 7 = .ok (.invokevirtual 63, 3) := by decide +kernel
theorem dX2_setApart_10 : decode cX2_setApart 10 = .ok (.aload_n 0, 1) := by decide +kernel
theorem dX2_setApart_11 : decode cX2_setApart 11 = .ok (.invokevirtual 69, 3) := by decide +kernel
theorem dX2_setApart_14 : decode cX2_setApart 14 = .ok (.aload_n 0, 1) := by decide +kernel
theorem dX2_setApart_15 : decode cX2_setApart 15 = .ok (.getfield 10, 3) := by decide +kernel
theorem dX2_setApart_18 : decode cX2_setApart 18 = .ok (.getfield 82, 3) := by decide +kernel
theorem dX2_setApart_21 : decode cX2_setApart 21 = .ok (.iload_n 1, 1) := by decide +kernel
theorem dX2_setApart_22 : decode cX2_setApart 22 = .ok (.iload_n 2, 1) := by decide +kernel
theorem dX2_setApart_23 : decode cX2_setApart 23 = .ok (.iload_n 3, 1) := by decide +kernel
theorem dX2_setApart_24 : decode cX2_setApart 24 = .ok (.invokestatic 85, 3) := by decide +kernel
theorem dX2_setApart_27 : decode cX2_setApart 27 = .ok (.ireturn, 1) := by decide +kernel
set_option maxRecDepth 20000 in
theorem ggX2_setOtherDays_X2_requireTwoTeams : GoodIn wsX2_setOtherDays wsX2_requireTwoTeams := goodIn_ca (goodIn_ca (goodIn_r _ [6, 7, 8, 9, 10, 11, 5, 12, 13, 14, 1, 15, 16, 17, 18, 19, 20, 37, 38, 39, 40, 41, 42, 43, 44, 45, 46, 47, 48, 49, 50, 51, 52, 53, 54] (by decide +kernel) (by decide +kernel)) (goodIn_sub (fun _ h => List.mem_cons_of_mem _ (List.mem_append_left _ (List.mem_append_left _ (List.mem_append_right _ h)))) (by decide +kernel))) (goodIn_sub (fun _ h => List.mem_cons_of_mem _ (List.mem_append_left _ (List.mem_append_right _ h))) (by decide +kernel))
set_option maxRecDepth 20000 in
theorem gX2_setOtherDays_X2_requireTwoTeams : GoodIn wsX2_setOtherDays (wsV RX2 79 RX2 yX2_requireTwoTeams wsX2_requireTwoTeams) := goodIn_app (goodIn_of _ (by decide +kernel)) ggX2_setOtherDays_X2_requireTwoTeams
set_option maxRecDepth 20000 in
theorem ggX2_setOtherDays_X2_requireNothingDrawn : GoodIn wsX2_setOtherDays wsX2_requireNothingDrawn := goodIn_ca (goodIn_r _ [24, 25, 26, 27, 37, 38, 39, 40, 41, 42, 43, 44, 45] (by decide +kernel) (by decide +kernel)) (goodIn_sub (fun _ h => List.mem_cons_of_mem _ (List.mem_append_right _ h)) (by decide +kernel))
set_option maxRecDepth 20000 in
theorem gX2_setOtherDays_X2_requireNothingDrawn : GoodIn wsX2_setOtherDays (wsV RX2 63 RX2 yX2_requireNothingDrawn wsX2_requireNothingDrawn) := goodIn_app (goodIn_of _ (by decide +kernel)) ggX2_setOtherDays_X2_requireNothingDrawn
set_option maxRecDepth 20000 in
theorem ggX2_setOtherDays_X2_forgetResults : GoodIn wsX2_setOtherDays wsX2_forgetResults := goodIn_r _ [31, 32, 33, 37, 38, 39, 40, 41, 42, 43, 44, 45] (by decide +kernel) (by decide +kernel)
set_option maxRecDepth 20000 in
theorem gX2_setOtherDays_X2_forgetResults : GoodIn wsX2_setOtherDays (wsV RX2 69 RX2 yX2_forgetResults wsX2_forgetResults) := goodIn_app (goodIn_of _ (by decide +kernel)) ggX2_setOtherDays_X2_forgetResults
set_option maxRecDepth 20000 in
theorem ggX2_setOtherDays_X0_setPair : GoodIn wsX2_setOtherDays wsX0_setPair := goodIn_r _ [36] (by decide +kernel) (by decide +kernel)
set_option maxRecDepth 20000 in
theorem gX2_setOtherDays_X0_setPair : GoodIn wsX2_setOtherDays (va_wsS RX2 85 yX0_setPair wsX0_setPair) := goodIn_app (goodIn_of _ (by decide +kernel)) ggX2_setOtherDays_X0_setPair
theorem dX2_setOtherDays_0 : decode cX2_setOtherDays 0 = .ok (.aload_n 0, 1) := by decide +kernel
theorem dX2_setOtherDays_1 : decode cX2_setOtherDays 1 = .ok (.iload_n 1, 1) := by decide +kernel
theorem dX2_setOtherDays_2 : decode cX2_setOtherDays 2 = .ok (.iload_n 2, 1) := by decide +kernel
theorem dX2_setOtherDays_3 : decode cX2_setOtherDays 3 = .ok (.invokevirtual 79, 3) := by decide +kernel
theorem dX2_setOtherDays_6 : decode cX2_setOtherDays 6 = .ok (.aload_n 0, 1) := by decide +kernel
theorem dX2_setOtherDays_7 : decode cX2_setOtherDays 7 = .ok (.invokevirtual 63, 3) := by decide +kernel
theorem dX2_setOtherDays_10 : decode cX2_setOtherDays 10 = .ok (.aload_n 0, 1) := by decide +kernel
theorem dX2_setOtherDays_11 : decode cX2_setOtherDays 11 = .ok (.invokevirtual 69, 3) := by decide +kernel
theorem dX2_setOtherDays_14 : decode cX2_setOtherDays 14 = .ok (.aload_n 0, 1) := by decide +kernel
theorem dX2_setOtherDays_15 : decode cX2_setOtherDays 15 = .ok (.getfield 10, 3) := by decide +kernel
theorem dX2_setOtherDays_18 : decode cX2_setOtherDays 18 = .ok (.getfield 89, 3) := by decide +kernel
theorem dX2_setOtherDays_21 : decode cX2_setOtherDays 21 = .ok (.iload_n 1, 1) := by decide +kernel
theorem dX2_setOtherDays_22 : decode cX2_setOtherDays 22 = .ok (.iload_n 2, 1) := by decide +kernel
theorem dX2_setOtherDays_23 : decode cX2_setOtherDays 23 = .ok (.iload_n 3, 1) := by decide +kernel
theorem dX2_setOtherDays_24 : decode cX2_setOtherDays 24 = .ok (.invokestatic 85, 3) := by decide +kernel
theorem dX2_setOtherDays_27 : decode cX2_setOtherDays 27 = .ok (.ireturn, 1) := by decide +kernel
set_option maxRecDepth 20000 in
theorem ggX2_draw_X2_openResults : GoodIn wsX2_draw wsX2_openResults := goodIn_r _ [13, 14, 15, 6, 16, 17, 18, 19, 20, 21, 22, 23, 24, 25, 26, 27, 28, 29, 30, 31, 32, 33, 34, 35, 36, 37, 38, 39, 40, 41, 42, 43, 44, 45, 46, 47, 48, 49, 50, 51, 52, 53, 54, 55, 56, 57, 58, 59, 60, 61, 62, 92, 93, 94, 95, 96, 97, 98, 99, 100, 110, 111, 101, 102, 103, 104, 105, 106, 107, 108, 109] (by decide +kernel) (by decide +kernel)
set_option maxRecDepth 20000 in
theorem gX2_draw_X2_openResults : GoodIn wsX2_draw (wsV RX2 95 RX2 yX2_openResults wsX2_openResults) := goodIn_app (goodIn_of _ (by decide +kernel)) ggX2_draw_X2_openResults
set_option maxRecDepth 20000 in
theorem ggX2_draw_X2_findBall : GoodIn wsX2_draw wsX2_findBall := goodIn_r _ [66, 6, 8, 67, 68, 69, 12, 70, 71, 72, 73, 74, 92, 93, 94, 95, 96, 97, 98, 99, 100, 101, 102, 103, 104, 105, 106, 107, 108, 109] (by decide +kernel) (by decide +kernel)
set_option maxRecDepth 20000 in
theorem gX2_draw_X2_findBall : GoodIn wsX2_draw (wsV RX2 107 RX2 yX2_findBall wsX2_findBall) := goodIn_app (goodIn_of _ (by decide +kernel)) ggX2_draw_X2_findBall
set_option maxRecDepth 20000 in
theorem ggX2_draw_X2_seat : GoodIn wsX2_draw wsX2_seat := goodIn_r _ [78, 15, 79, 5, 8, 80, 81, 82, 83, 19, 84, 21, 37, 85, 86, 87, 88, 89, 90, 91, 92, 93, 94, 95, 96, 97, 98, 99, 100, 110, 111] (by decide +kernel) (by decide +kernel)
set_option maxRecDepth 20000 in
theorem gX2_draw_X2_seat : GoodIn wsX2_draw (wsV RX2 117 RX2 yX2_seat wsX2_seat) := goodIn_app (goodIn_of _ (by decide +kernel)) ggX2_draw_X2_seat
theorem dX2_draw_0 : decode cX2_draw 0 = .ok (.aload_n 0, 1) := by decide +kernel
theorem dX2_draw_1 : decode cX2_draw 1 = .ok (.getfield 92, 3) := by decide +kernel
theorem dX2_draw_4 : decode cX2_draw 4 = .ok (.aload_n 0, 1) := by decide +kernel
theorem dX2_draw_5 : decode cX2_draw 5 = .ok (.getfield 10, 3) := by decide +kernel
theorem dX2_draw_8 : decode cX2_draw 8 = .ok (.getfield 47, 3) := by decide +kernel
theorem dX2_draw_11 : decode cX2_draw 11 = .ok (.if_icmp .ge 13, 3) := by decide +kernel
theorem dX2_draw_14 : decode cX2_draw 14 = .ok (.aload_n 0, 1) := by decide +kernel
theorem dX2_draw_15 : decode cX2_draw 15 = .ok (.invokevirtual 95, 3) := by decide +kernel
theorem dX2_draw_18 : decode cX2_draw 18 = .ok (.getfield 99, 3) := by decide +kernel
theorem dX2_draw_21 : decode cX2_draw 21 = .ok (.ifCond .ne 13, 3) := by decide +kernel
theorem dX2_draw_24 : decode cX2_draw 24 = .ok (.new 102, 3) := by decide +kernel
theorem dX2_draw_27 : decode cX2_draw 27 = .ok (.dup, 1) := by decide +kernel
theorem dX2_draw_28 : decode cX2_draw 28 = .ok (.ldc 104, 2) := by decide +kernel
theorem dX2_draw_30 : decode cX2_draw 30 = .ok (.invokespecial 106, 3) := by decide +kernel
theorem dX2_draw_33 : decode cX2_draw 33 = .ok (.athrow, 1) := by decide +kernel
theorem dX2_draw_34 : decode cX2_draw 34 = .ok (.aload_n 0, 1) := by decide +kernel
theorem dX2_draw_35 : decode cX2_draw 35 = .ok (.iload_n 1, 1) := by decide +kernel
theorem dX2_draw_36 : decode cX2_draw 36 = .ok (.invokevirtual 107, 3) := by decide +kernel
theorem dX2_draw_39 : decode cX2_draw 39 = .ok (.istore_n 2, 1) := by decide +kernel
theorem dX2_draw_40 : decode cX2_draw 40 = .ok (.iload_n 2, 1) := by decide +kernel
theorem dX2_draw_41 : decode cX2_draw 41 = .ok (.iconst (-1), 1) := by decide +kernel
theorem dX2_draw_42 : decode cX2_draw 42 = .ok (.if_icmp .ne 13, 3) := by decide +kernel
theorem dX2_draw_45 : decode cX2_draw 45 = .ok (.new 58, 3) := by decide +kernel
theorem dX2_draw_48 : decode cX2_draw 48 = .ok (.dup, 1) := by decide +kernel
theorem dX2_draw_49 : decode cX2_draw 49 = .ok (.ldc 111, 2) := by decide +kernel
theorem dX2_draw_51 : decode cX2_draw 51 = .ok (.invokespecial 62, 3) := by decide +kernel
theorem dX2_draw_54 : decode cX2_draw 54 = .ok (.athrow, 1) := by decide +kernel
theorem dX2_draw_55 : decode cX2_draw 55 = .ok (.aload_n 0, 1) := by decide +kernel
theorem dX2_draw_56 : decode cX2_draw 56 = .ok (.iconst 0, 1) := by decide +kernel
theorem dX2_draw_57 : decode cX2_draw 57 = .ok (.putfield 113, 3) := by decide +kernel
theorem dX2_draw_60 : decode cX2_draw 60 = .ok (.aload_n 0, 1) := by decide +kernel
theorem dX2_draw_61 : decode cX2_draw 61 = .ok (.iload_n 2, 1) := by decide +kernel
theorem dX2_draw_62 : decode cX2_draw 62 = .ok (.invokevirtual 117, 3) := by decide +kernel
theorem dX2_draw_65 : decode cX2_draw 65 = .ok (.aload_n 0, 1) := by decide +kernel
theorem dX2_draw_66 : decode cX2_draw 66 = .ok (.getfield 26, 3) := by decide +kernel
theorem dX2_draw_69 : decode cX2_draw 69 = .ok (.iload_n 2, 1) := by decide +kernel
theorem dX2_draw_70 : decode cX2_draw 70 = .ok (.iaload, 1) := by decide +kernel
theorem dX2_draw_71 : decode cX2_draw 71 = .ok (.ireturn, 1) := by decide +kernel
set_option maxRecDepth 20000 in
theorem ggX2_undo_X2_unseat : GoodIn wsX2_undo wsX2_unseat := goodIn_r _ [9, 3, 10, 11, 12, 13, 14, 15, 16, 17, 18, 19, 20, 21, 22, 23, 24, 25, 26, 27, 28, 29, 30] (by decide +kernel) (by decide +kernel)
set_option maxRecDepth 20000 in
theorem gX2_undo_X2_unseat : GoodIn wsX2_undo (wsV RX2 123 RX2 yX2_unseat wsX2_unseat) := goodIn_app (goodIn_of _ (by decide +kernel)) ggX2_undo_X2_unseat
theorem dX2_undo_0 : decode cX2_undo 0 = .ok (.aload_n 0, 1) := by decide +kernel
theorem dX2_undo_1 : decode cX2_undo 1 = .ok (.getfield 92, 3) := by decide +kernel
theorem dX2_undo_4 : decode cX2_undo 4 = .ok (.ifCond .gt 13, 3) := by decide +kernel
theorem dX2_undo_7 : decode cX2_undo 7 = .ok (.new 102, 3) := by decide +kernel
theorem dX2_undo_10 : decode cX2_undo 10 = .ok (.dup, 1) := by decide +kernel
theorem dX2_undo_11 : decode cX2_undo 11 = .ok (.ldc 121, 2) := by decide +kernel
theorem dX2_undo_13 : decode cX2_undo 13 = .ok (.invokespecial 106, 3) := by decide +kernel
theorem dX2_undo_16 : decode cX2_undo 16 = .ok (.athrow, 1) := by decide +kernel
theorem dX2_undo_17 : decode cX2_undo 17 = .ok (.aload_n 0, 1) := by decide +kernel
theorem dX2_undo_18 : decode cX2_undo 18 = .ok (.iconst 0, 1) := by decide +kernel
theorem dX2_undo_19 : decode cX2_undo 19 = .ok (.putfield 113, 3) := by decide +kernel
theorem dX2_undo_22 : decode cX2_undo 22 = .ok (.aload_n 0, 1) := by decide +kernel
theorem dX2_undo_23 : decode cX2_undo 23 = .ok (.invokevirtual 123, 3) := by decide +kernel
theorem dX2_undo_26 : decode cX2_undo 26 = .ok (.ireturn, 1) := by decide +kernel
theorem dX2_drawn_0 : decode cX2_drawn 0 = .ok (.aload_n 0, 1) := by decide +kernel
theorem dX2_drawn_1 : decode cX2_drawn 1 = .ok (.getfield 92, 3) := by decide +kernel
theorem dX2_drawn_4 : decode cX2_drawn 4 = .ok (.ireturn, 1) := by decide +kernel
set_option maxRecDepth 20000 in
theorem ggX2_pot_X2_countLeft : GoodIn wsX2_pot wsX2_countLeft := goodIn_r _ [6, 1, 7, 8, 9, 10, 11, 12, 13, 14, 15, 16, 17, 18, 19, 20, 21, 22, 23, 24, 25] (by decide +kernel) (by decide +kernel)
set_option maxRecDepth 20000 in
theorem gX2_pot_X2_countLeft : GoodIn wsX2_pot (wsV RX2 130 RX2 yX2_countLeft wsX2_countLeft) := goodIn_app (goodIn_of _ (by decide +kernel)) ggX2_pot_X2_countLeft
theorem dX2_pot_0 : decode cX2_pot 0 = .ok (.iconst 0, 1) := by decide +kernel
theorem dX2_pot_1 : decode cX2_pot 1 = .ok (.istore_n 1, 1) := by decide +kernel
theorem dX2_pot_2 : decode cX2_pot 2 = .ok (.iload_n 1, 1) := by decide +kernel
theorem dX2_pot_3 : decode cX2_pot 3 = .ok (.aload_n 0, 1) := by decide +kernel
theorem dX2_pot_4 : decode cX2_pot 4 = .ok (.getfield 10, 3) := by decide +kernel
theorem dX2_pot_7 : decode cX2_pot 7 = .ok (.getfield 127, 3) := by decide +kernel
theorem dX2_pot_10 : decode cX2_pot 10 = .ok (.if_icmp .ge 19, 3) := by decide +kernel
theorem dX2_pot_13 : decode cX2_pot 13 = .ok (.aload_n 0, 1) := by decide +kernel
theorem dX2_pot_14 : decode cX2_pot 14 = .ok (.iload_n 1, 1) := by decide +kernel
theorem dX2_pot_15 : decode cX2_pot 15 = .ok (.invokevirtual 130, 3) := by decide +kernel
theorem dX2_pot_18 : decode cX2_pot 18 = .ok (.ifCond .le 5, 3) := by decide +kernel
theorem dX2_pot_21 : decode cX2_pot 21 = .ok (.iload_n 1, 1) := by decide +kernel
theorem dX2_pot_22 : decode cX2_pot 22 = .ok (.ireturn, 1) := by decide +kernel
theorem dX2_pot_23 : decode cX2_pot 23 = .ok (.iinc 1 1, 3) := by decide +kernel
theorem dX2_pot_26 : decode cX2_pot 26 = .ok (.goto (-24), 3) := by decide +kernel
theorem dX2_pot_29 : decode cX2_pot 29 = .ok (.iconst (-1), 1) := by decide +kernel
theorem dX2_pot_30 : decode cX2_pot 30 = .ok (.ireturn, 1) := by decide +kernel
set_option maxRecDepth 20000 in
theorem ggX2_left_X2_pot : GoodIn wsX2_left wsX2_pot := goodIn_r _ [5, 6, 7, 8, 9, 4, 10, 11, 12, 13, 14, 15, 16, 17, 18, 19, 20, 21, 22, 23, 24, 25, 26, 27, 28, 29] (by decide +kernel) (by decide +kernel)
set_option maxRecDepth 20000 in
theorem gX2_left_X2_pot : GoodIn wsX2_left (wsV RX2 133 RX2 yX2_pot wsX2_pot) := goodIn_app (goodIn_of _ (by decide +kernel)) ggX2_left_X2_pot
set_option maxRecDepth 20000 in
theorem ggX2_left_X2_countLeft : GoodIn wsX2_left wsX2_countLeft := goodIn_r _ [10, 6, 11, 12, 13, 14, 15, 16, 17, 18, 19, 20, 21, 22, 23, 24, 25, 26, 27, 28, 29] (by decide +kernel) (by decide +kernel)
set_option maxRecDepth 20000 in
theorem gX2_left_X2_countLeft : GoodIn wsX2_left (wsV RX2 130 RX2 yX2_countLeft wsX2_countLeft) := goodIn_app (goodIn_of _ (by decide +kernel)) ggX2_left_X2_countLeft
theorem dX2_left_0 : decode cX2_left 0 = .ok (.aload_n 0, 1) := by decide +kernel
theorem dX2_left_1 : decode cX2_left 1 = .ok (.invokevirtual 133, 3) := by decide +kernel
theorem dX2_left_4 : decode cX2_left 4 = .ok (.istore_n 1, 1) := by decide +kernel
theorem dX2_left_5 : decode cX2_left 5 = .ok (.iload_n 1, 1) := by decide +kernel
theorem dX2_left_6 : decode cX2_left 6 = .ok (.iconst (-1), 1) := by decide +kernel
theorem dX2_left_7 : decode cX2_left 7 = .ok (.if_icmp .ne 7, 3) := by decide +kernel
theorem dX2_left_10 : decode cX2_left 10 = .ok (.iconst 0, 1) := by decide +kernel
theorem dX2_left_11 : decode cX2_left 11 = .ok (.goto 8, 3) := by decide +kernel
theorem dX2_left_14 : decode cX2_left 14 = .ok (.aload_n 0, 1) := by decide +kernel
theorem dX2_left_15 : decode cX2_left 15 = .ok (.iload_n 1, 1) := by decide +kernel
theorem dX2_left_16 : decode cX2_left 16 = .ok (.invokevirtual 130, 3) := by decide +kernel
theorem dX2_left_19 : decode cX2_left 19 = .ok (.ireturn, 1) := by decide +kernel
set_option maxRecDepth 20000 in
theorem ggX2_ballAt_X2_findBall : GoodIn wsX2_ballAt wsX2_findBall := goodIn_r _ [7, 8, 9, 10, 11, 12, 6, 13, 14, 15, 16, 17, 18, 19, 20, 21, 22, 23, 24, 25, 26, 27, 28, 29, 30, 31, 32, 33, 34, 35] (by decide +kernel) (by decide +kernel)
set_option maxRecDepth 20000 in
theorem gX2_ballAt_X2_findBall : GoodIn wsX2_ballAt (wsV RX2 107 RX2 yX2_findBall wsX2_findBall) := goodIn_app (goodIn_of _ (by decide +kernel)) ggX2_ballAt_X2_findBall
theorem dX2_ballAt_0 : decode cX2_ballAt 0 = .ok (.aload_n 0, 1) := by decide +kernel
theorem dX2_ballAt_1 : decode cX2_ballAt 1 = .ok (.iload_n 1, 1) := by decide +kernel
theorem dX2_ballAt_2 : decode cX2_ballAt 2 = .ok (.invokevirtual 107, 3) := by decide +kernel
theorem dX2_ballAt_5 : decode cX2_ballAt 5 = .ok (.istore_n 2, 1) := by decide +kernel
theorem dX2_ballAt_6 : decode cX2_ballAt 6 = .ok (.iload_n 2, 1) := by decide +kernel
theorem dX2_ballAt_7 : decode cX2_ballAt 7 = .ok (.iconst (-1), 1) := by decide +kernel
theorem dX2_ballAt_8 : decode cX2_ballAt 8 = .ok (.if_icmp .ne 13, 3) := by decide +kernel
theorem dX2_ballAt_11 : decode cX2_ballAt 11 = .ok (.new 58, 3) := by decide +kernel
theorem dX2_ballAt_14 : decode cX2_ballAt 14 = .ok (.dup, 1) := by decide +kernel
theorem dX2_ballAt_15 : decode cX2_ballAt 15 = .ok (.ldc 111, 2) := by decide +kernel
theorem dX2_ballAt_17 : decode cX2_ballAt 17 = .ok (.invokespecial 62, 3) := by decide +kernel
theorem dX2_ballAt_20 : decode cX2_ballAt 20 = .ok (.athrow, 1) := by decide +kernel
theorem dX2_ballAt_21 : decode cX2_ballAt 21 = .ok (.iload_n 2, 1) := by decide +kernel
theorem dX2_ballAt_22 : decode cX2_ballAt 22 = .ok (.ireturn, 1) := by decide +kernel
set_option maxRecDepth 20000 in
theorem ggX2_groupOf_X2_requireTeam : GoodIn wsX2_groupOf wsX2_requireTeam := goodIn_ca (goodIn_r _ [6, 7, 8, 9, 10, 11, 12, 13, 14, 15, 16, 17, 18, 19, 20, 21, 22, 23, 24, 25, 26, 27, 28, 29, 30, 31, 32, 33] (by decide +kernel) (by decide +kernel)) (goodIn_sub (fun _ h => List.mem_cons_of_mem _ (List.mem_append_right _ h)) (by decide +kernel))
set_option maxRecDepth 20000 in
theorem gX2_groupOf_X2_requireTeam : GoodIn wsX2_groupOf (wsV RX2 136 RX2 yX2_requireTeam wsX2_requireTeam) := goodIn_app (goodIn_of _ (by decide +kernel)) ggX2_groupOf_X2_requireTeam
theorem dX2_groupOf_0 : decode cX2_groupOf 0 = .ok (.aload_n 0, 1) := by decide +kernel
theorem dX2_groupOf_1 : decode cX2_groupOf 1 = .ok (.iload_n 1, 1) := by decide +kernel
theorem dX2_groupOf_2 : decode cX2_groupOf 2 = .ok (.invokevirtual 136, 3) := by decide +kernel
theorem dX2_groupOf_5 : decode cX2_groupOf 5 = .ok (.aload_n 0, 1) := by decide +kernel
theorem dX2_groupOf_6 : decode cX2_groupOf 6 = .ok (.getfield 26, 3) := by decide +kernel
theorem dX2_groupOf_9 : decode cX2_groupOf 9 = .ok (.iload_n 1, 1) := by decide +kernel
theorem dX2_groupOf_10 : decode cX2_groupOf 10 = .ok (.iaload, 1) := by decide +kernel
theorem dX2_groupOf_11 : decode cX2_groupOf 11 = .ok (.ireturn, 1) := by decide +kernel
set_option maxRecDepth 20000 in
theorem ggX2_teamAt_X0_hasGroup : GoodIn wsX2_teamAt wsX0_hasGroup := goodIn_r _ [9, 10, 25, 26, 27, 28, 29, 30, 31, 32, 33] (by decide +kernel) (by decide +kernel)
set_option maxRecDepth 20000 in
theorem gX2_teamAt_X0_hasGroup : GoodIn wsX2_teamAt (wsV RX2 139 RX0 yX0_hasGroup wsX0_hasGroup) := goodIn_app (goodIn_of _ (by decide +kernel)) ggX2_teamAt_X0_hasGroup
set_option maxRecDepth 20000 in
theorem ggX2_teamAt_X0_hasPot : GoodIn wsX2_teamAt wsX0_hasPot := goodIn_r _ [14, 15, 25, 26, 27, 28, 29, 30, 31, 32, 33] (by decide +kernel) (by decide +kernel)
set_option maxRecDepth 20000 in
theorem gX2_teamAt_X0_hasPot : GoodIn wsX2_teamAt (wsV RX2 142 RX0 yX0_hasPot wsX0_hasPot) := goodIn_app (goodIn_of _ (by decide +kernel)) ggX2_teamAt_X0_hasPot
theorem dX2_teamAt_0 : decode cX2_teamAt 0 = .ok (.aload_n 0, 1) := by decide +kernel
theorem dX2_teamAt_1 : decode cX2_teamAt 1 = .ok (.getfield 10, 3) := by decide +kernel
theorem dX2_teamAt_4 : decode cX2_teamAt 4 = .ok (.iload_n 1, 1) := by decide +kernel
theorem dX2_teamAt_5 : decode cX2_teamAt 5 = .ok (.invokevirtual 139, 3) := by decide +kernel
theorem dX2_teamAt_8 : decode cX2_teamAt 8 = .ok (.ifCond .eq 14, 3) := by decide +kernel
theorem dX2_teamAt_11 : decode cX2_teamAt 11 = .ok (.aload_n 0, 1) := by decide +kernel
theorem dX2_teamAt_12 : decode cX2_teamAt 12 = .ok (.getfield 10, 3) := by decide +kernel
theorem dX2_teamAt_15 : decode cX2_teamAt 15 = .ok (.iload_n 2, 1) := by decide +kernel
theorem dX2_teamAt_16 : decode cX2_teamAt 16 = .ok (.invokevirtual 142, 3) := by decide +kernel
theorem dX2_teamAt_19 : decode cX2_teamAt 19 = .ok (.ifCond .ne 13, 3) := by decide +kernel
theorem dX2_teamAt_22 : decode cX2_teamAt 22 = .ok (.new 58, 3) := by decide +kernel
theorem dX2_teamAt_25 : decode cX2_teamAt 25 = .ok (.dup, 1) := by decide +kernel
theorem dX2_teamAt_26 : decode cX2_teamAt 26 = .ok (.ldc 145, 2) := by decide +kernel
theorem dX2_teamAt_28 : decode cX2_teamAt 28 = .ok (.invokespecial 62, 3) := by decide +kernel
theorem dX2_teamAt_31 : decode cX2_teamAt 31 = .ok (.athrow, 1) := by decide +kernel
theorem dX2_teamAt_32 : decode cX2_teamAt 32 = .ok (.iload_n 2, 1) := by decide +kernel
theorem dX2_teamAt_33 : decode cX2_teamAt 33 = .ok (.aload_n 0, 1) := by decide +kernel
theorem dX2_teamAt_34 : decode cX2_teamAt 34 = .ok (.getfield 10, 3) := by decide +kernel
theorem dX2_teamAt_37 : decode cX2_teamAt 37 = .ok (.getfield 147, 3) := by decide +kernel
theorem dX2_teamAt_40 : decode cX2_teamAt 40 = .ok (.imul, 1) := by decide +kernel
theorem dX2_teamAt_41 : decode cX2_teamAt 41 = .ok (.istore_n 3, 1) := by decide +kernel
theorem dX2_teamAt_42 : decode cX2_teamAt 42 = .ok (.iload_n 3, 1) := by decide +kernel
theorem dX2_teamAt_43 : decode cX2_teamAt 43 = .ok (.istore 4, 2) := by decide +kernel
theorem dX2_teamAt_45 : decode cX2_teamAt 45 = .ok (.iload 4, 2) := by decide +kernel
theorem dX2_teamAt_47 : decode cX2_teamAt 47 = .ok (.iload_n 3, 1) := by decide +kernel
theorem dX2_teamAt_48 : decode cX2_teamAt 48 = .ok (.aload_n 0, 1) := by decide +kernel
theorem dX2_teamAt_49 : decode cX2_teamAt 49 = .ok (.getfield 10, 3) := by decide +kernel
theorem dX2_teamAt_52 : decode cX2_teamAt 52 = .ok (.getfield 147, 3) := by decide +kernel
theorem dX2_teamAt_55 : decode cX2_teamAt 55 = .ok (.iadd, 1) := by decide +kernel
theorem dX2_teamAt_56 : decode cX2_teamAt 56 = .ok (.if_icmp .ge 23, 3) := by decide +kernel
theorem dX2_teamAt_59 : decode cX2_teamAt 59 = .ok (.aload_n 0, 1) := by decide +kernel
theorem dX2_teamAt_60 : decode cX2_teamAt 60 = .ok (.getfield 26, 3) := by decide +kernel
theorem dX2_teamAt_63 : decode cX2_teamAt 63 = .ok (.iload 4, 2) := by decide +kernel
theorem dX2_teamAt_65 : decode cX2_teamAt 65 = .ok (.iaload, 1) := by decide +kernel
theorem dX2_teamAt_66 : decode cX2_teamAt 66 = .ok (.iload_n 1, 1) := by decide +kernel
theorem dX2_teamAt_67 : decode cX2_teamAt 67 = .ok (.if_icmp .ne 6, 3) := by decide +kernel
theorem dX2_teamAt_70 : decode cX2_teamAt 70 = .ok (.iload 4, 2) := by decide +kernel
theorem dX2_teamAt_72 : decode cX2_teamAt 72 = .ok (.ireturn, 1) := by decide +kernel
theorem dX2_teamAt_73 : decode cX2_teamAt 73 = .ok (.iinc 4 1, 3) := by decide +kernel
theorem dX2_teamAt_76 : decode cX2_teamAt 76 = .ok (.goto (-31), 3) := by decide +kernel
theorem dX2_teamAt_79 : decode cX2_teamAt 79 = .ok (.iconst (-1), 1) := by decide +kernel
theorem dX2_teamAt_80 : decode cX2_teamAt 80 = .ok (.ireturn, 1) := by decide +kernel
set_option maxRecDepth 20000 in
theorem ggX2_results_X2_openResults : GoodIn wsX2_results wsX2_openResults := goodIn_r _ [5, 6, 7, 8, 9, 10, 11, 12, 13, 14, 15, 16, 17, 18, 19, 20, 21, 22, 23, 24, 25, 26, 27, 28, 29, 30, 31, 32, 33, 34, 35, 36, 37, 38, 39, 40, 41, 42, 43, 44, 45, 46, 47, 48, 49, 50, 51, 52, 53, 54, 55, 58, 59, 60, 61, 62, 63, 64, 65, 66, 56, 57, 67, 68, 69, 70, 71, 72, 73, 74, 75] (by decide +kernel) (by decide +kernel)
set_option maxRecDepth 20000 in
theorem gX2_results_X2_openResults : GoodIn wsX2_results (wsV RX2 95 RX2 yX2_openResults wsX2_openResults) := goodIn_app (goodIn_of _ (by decide +kernel)) ggX2_results_X2_openResults
theorem dX2_results_0 : decode cX2_results 0 = .ok (.aload_n 0, 1) := by decide +kernel
theorem dX2_results_1 : decode cX2_results 1 = .ok (.invokevirtual 95, 3) := by decide +kernel
theorem dX2_results_4 : decode cX2_results 4 = .ok (.getfield 99, 3) := by decide +kernel
theorem dX2_results_7 : decode cX2_results 7 = .ok (.ireturn, 1) := by decide +kernel
set_option maxRecDepth 20000 in
theorem ggX2_fits_X2_requireTeamAndGroup : GoodIn wsX2_fits wsX2_requireTeamAndGroup := goodIn_ca (goodIn_r _ [5, 6, 7, 8, 9, 10, 11, 12, 13, 14, 15, 16, 17, 18, 19, 77, 78, 79, 80, 81, 82, 83, 84, 85, 86, 87, 88, 89, 90, 91, 92, 93, 94] (by decide +kernel) (by decide +kernel)) (goodIn_sub (fun _ h => List.mem_cons_of_mem _ (List.mem_append_right _ h)) (by decide +kernel))
set_option maxRecDepth 20000 in
theorem gX2_fits_X2_requireTeamAndGroup : GoodIn wsX2_fits (wsV RX2 150 RX2 yX2_requireTeamAndGroup wsX2_requireTeamAndGroup) := goodIn_app (goodIn_of _ (by decide +kernel)) ggX2_fits_X2_requireTeamAndGroup
set_option maxRecDepth 20000 in
theorem ggX2_fits_X2_openResults : GoodIn wsX2_fits wsX2_openResults := goodIn_r _ [23, 24, 25, 8, 26, 27, 28, 29, 30, 31, 32, 33, 34, 12, 35, 36, 37, 38, 39, 14, 19, 40, 41, 42, 43, 44, 45, 46, 47, 48, 49, 50, 51, 52, 53, 54, 55, 56, 57, 58, 59, 60, 61, 62, 63, 64, 65, 66, 67, 68, 69, 77, 78, 79, 80, 81, 82, 83, 84, 85, 95, 96, 86, 87, 88, 89, 90, 91, 92, 93, 94] (by decide +kernel) (by decide +kernel)
set_option maxRecDepth 20000 in
theorem gX2_fits_X2_openResults : GoodIn wsX2_fits (wsV RX2 95 RX2 yX2_openResults wsX2_openResults) := goodIn_app (goodIn_of _ (by decide +kernel)) ggX2_fits_X2_openResults
set_option maxRecDepth 20000 in
theorem ggX2_fits_X1_countInGroup : GoodIn wsX2_fits wsX1_countInGroup := goodIn_r _ [73, 31, 44, 74, 75, 29, 76, 95, 96] (by decide +kernel) (by decide +kernel)
set_option maxRecDepth 20000 in
theorem gX2_fits_X1_countInGroup : GoodIn wsX2_fits (wsV RX2 153 RX1 yX1_countInGroup wsX1_countInGroup) := goodIn_app (goodIn_of _ (by decide +kernel)) ggX2_fits_X1_countInGroup
theorem dX2_fits_0 : decode cX2_fits 0 = .ok (.aload_n 0, 1) := by decide +kernel
theorem dX2_fits_1 : decode cX2_fits 1 = .ok (.iload_n 1, 1) := by decide +kernel
theorem dX2_fits_2 : decode cX2_fits 2 = .ok (.iload_n 2, 1) := by decide +kernel
theorem dX2_fits_3 : decode cX2_fits 3 = .ok (.invokevirtual 150, 3) := by decide +kernel
theorem dX2_fits_6 : decode cX2_fits 6 = .ok (.aload_n 0, 1) := by decide +kernel
theorem dX2_fits_7 : decode cX2_fits 7 = .ok (.invokevirtual 95, 3) := by decide +kernel
theorem dX2_fits_10 : decode cX2_fits 10 = .ok (.iload_n 1, 1) := by decide +kernel
theorem dX2_fits_11 : decode cX2_fits 11 = .ok (.iload_n 2, 1) := by decide +kernel
theorem dX2_fits_12 : decode cX2_fits 12 = .ok (.invokevirtual 153, 3) := by decide +kernel
theorem dX2_fits_15 : decode cX2_fits 15 = .ok (.ifCond .le 7, 3) := by decide +kernel
theorem dX2_fits_18 : decode cX2_fits 18 = .ok (.iconst 1, 1) := by decide +kernel
theorem dX2_fits_19 : decode cX2_fits 19 = .ok (.goto 4, 3) := by decide +kernel
theorem dX2_fits_22 : decode cX2_fits 22 = .ok (.iconst 0, 1) := by decide +kernel
theorem dX2_fits_23 : decode cX2_fits 23 = .ok (.ireturn, 1) := by decide +kernel
set_option maxRecDepth 20000 in
theorem ggX2_forced_X2_requireTeam : GoodIn wsX2_forced wsX2_requireTeam := goodIn_ca (goodIn_r _ [5, 6, 7, 8, 9, 10, 11, 12, 13, 14, 79, 80, 81, 82, 83, 84, 85, 86, 87, 88, 89, 90, 91, 92, 93, 94, 95, 96] (by decide +kernel) (by decide +kernel)) (goodIn_sub (fun _ h => List.mem_cons_of_mem _ (List.mem_append_right _ h)) (by decide +kernel))
set_option maxRecDepth 20000 in
theorem gX2_forced_X2_requireTeam : GoodIn wsX2_forced (wsV RX2 136 RX2 yX2_requireTeam wsX2_requireTeam) := goodIn_app (goodIn_of _ (by decide +kernel)) ggX2_forced_X2_requireTeam
set_option maxRecDepth 20000 in
theorem ggX2_forced_X2_openResults : GoodIn wsX2_forced wsX2_openResults := goodIn_r _ [18, 19, 20, 8, 21, 22, 23, 24, 25, 26, 27, 28, 29, 12, 30, 31, 32, 33, 34, 14, 35, 36, 37, 38, 39, 40, 41, 42, 43, 44, 45, 46, 47, 48, 49, 50, 51, 52, 53, 54, 55, 56, 57, 58, 59, 60, 61, 62, 63, 64, 65, 79, 80, 81, 82, 83, 84, 85, 86, 87, 77, 78, 88, 89, 90, 91, 92, 93, 94, 95, 96] (by decide +kernel) (by decide +kernel)
set_option maxRecDepth 20000 in
theorem gX2_forced_X2_openResults : GoodIn wsX2_forced (wsV RX2 95 RX2 yX2_openResults wsX2_openResults) := goodIn_app (goodIn_of _ (by decide +kernel)) ggX2_forced_X2_openResults
set_option maxRecDepth 20000 in
theorem ggX2_forced_X1_lowestGroup : GoodIn wsX2_forced wsX1_lowestGroup := goodIn_r _ [69, 26, 40, 70, 71, 24, 72, 77, 78] (by decide +kernel) (by decide +kernel)
set_option maxRecDepth 20000 in
theorem gX2_forced_X1_lowestGroup : GoodIn wsX2_forced (wsV RX2 157 RX1 yX1_lowestGroup wsX1_lowestGroup) := goodIn_app (goodIn_of _ (by decide +kernel)) ggX2_forced_X1_lowestGroup
set_option maxRecDepth 20000 in
theorem ggX2_forced_X1_countInGroup : GoodIn wsX2_forced wsX1_countInGroup := goodIn_r _ [76, 26, 40, 70, 71, 24, 72, 77, 78] (by decide +kernel) (by decide +kernel)
set_option maxRecDepth 20000 in
theorem gX2_forced_X1_countInGroup : GoodIn wsX2_forced (wsV RX2 153 RX1 yX1_countInGroup wsX1_countInGroup) := goodIn_app (goodIn_of _ (by decide +kernel)) ggX2_forced_X1_countInGroup
theorem dX2_forced_0 : decode cX2_forced 0 = .ok (.aload_n 0, 1) := by decide +kernel
theorem dX2_forced_1 : decode cX2_forced 1 = .ok (.iload_n 1, 1) := by decide +kernel
theorem dX2_forced_2 : decode cX2_forced 2 = .ok (.invokevirtual 136, 3) := by decide +kernel
theorem dX2_forced_5 : decode cX2_forced 5 = .ok (.aload_n 0, 1) := by decide +kernel
theorem dX2_forced_6 : decode cX2_forced 6 = .ok (.invokevirtual 95, 3) := by decide +kernel
theorem dX2_forced_9 : decode cX2_forced 9 = .ok (.astore_n 2, 1) := by decide +kernel
theorem dX2_forced_10 : decode cX2_forced 10 = .ok (.aload_n 2, 1) := by decide +kernel
theorem dX2_forced_11 : decode cX2_forced 11 = .ok (.iload_n 1, 1) := by decide +kernel
theorem dX2_forced_12 : decode cX2_forced 12 = .ok (.invokevirtual 157, 3) := by decide +kernel
theorem dX2_forced_15 : decode cX2_forced 15 = .ok (.istore_n 3, 1) := by decide +kernel
theorem dX2_forced_16 : decode cX2_forced 16 = .ok (.iload_n 3, 1) := by decide +kernel
theorem dX2_forced_17 : decode cX2_forced 17 = .ok (.iconst (-1), 1) := by decide +kernel
theorem dX2_forced_18 : decode cX2_forced 18 = .ok (.if_icmp .eq 20, 3) := by decide +kernel
theorem dX2_forced_21 : decode cX2_forced 21 = .ok (.aload_n 2, 1) := by decide +kernel
theorem dX2_forced_22 : decode cX2_forced 22 = .ok (.iload_n 1, 1) := by decide +kernel
theorem dX2_forced_23 : decode cX2_forced 23 = .ok (.iload_n 3, 1) := by decide +kernel
theorem dX2_forced_24 : decode cX2_forced 24 = .ok (.invokevirtual 153, 3) := by decide +kernel
theorem dX2_forced_27 : decode cX2_forced 27 = .ok (.aload_n 2, 1) := by decide +kernel
theorem dX2_forced_28 : decode cX2_forced 28 = .ok (.getfield 99, 3) := by decide +kernel
theorem dX2_forced_31 : decode cX2_forced 31 = .ok (.if_icmp .ne 7, 3) := by decide +kernel
theorem dX2_forced_34 : decode cX2_forced 34 = .ok (.iconst 1, 1) := by decide +kernel
theorem dX2_forced_35 : decode cX2_forced 35 = .ok (.goto 4, 3) := by decide +kernel
theorem dX2_forced_38 : decode cX2_forced 38 = .ok (.iconst 0, 1) := by decide +kernel
theorem dX2_forced_39 : decode cX2_forced 39 = .ok (.istore 4, 2) := by decide +kernel
theorem dX2_forced_41 : decode cX2_forced 41 = .ok (.iload 4, 2) := by decide +kernel
theorem dX2_forced_43 : decode cX2_forced 43 = .ok (.ifCond .eq 7, 3) := by decide +kernel
theorem dX2_forced_46 : decode cX2_forced 46 = .ok (.iload_n 3, 1) := by decide +kernel
theorem dX2_forced_47 : decode cX2_forced 47 = .ok (.goto 4, 3) := by decide +kernel
theorem dX2_forced_50 : decode cX2_forced 50 = .ok (.iconst (-1), 1) := by decide +kernel
theorem dX2_forced_51 : decode cX2_forced 51 = .ok (.ireturn, 1) := by decide +kernel
set_option maxRecDepth 20000 in
theorem ggX2_evenly_X2_requireTeamAndGroup : GoodIn wsX2_evenly wsX2_requireTeamAndGroup := goodIn_ca (goodIn_r _ [5, 6, 7, 8, 9, 10, 11, 12, 13, 14, 15, 16, 17, 18, 19, 77, 78, 79, 80, 81, 82, 83, 84, 85, 86, 87, 88, 89, 90, 91, 92, 93, 94] (by decide +kernel) (by decide +kernel)) (goodIn_sub (fun _ h => List.mem_cons_of_mem _ (List.mem_append_right _ h)) (by decide +kernel))
set_option maxRecDepth 20000 in
theorem gX2_evenly_X2_requireTeamAndGroup : GoodIn wsX2_evenly (wsV RX2 150 RX2 yX2_requireTeamAndGroup wsX2_requireTeamAndGroup) := goodIn_app (goodIn_of _ (by decide +kernel)) ggX2_evenly_X2_requireTeamAndGroup
set_option maxRecDepth 20000 in
theorem ggX2_evenly_X2_openResults : GoodIn wsX2_evenly wsX2_openResults := goodIn_r _ [23, 24, 25, 8, 26, 27, 28, 29, 30, 31, 32, 33, 34, 12, 35, 36, 37, 38, 39, 14, 19, 40, 41, 42, 43, 44, 45, 46, 47, 48, 49, 50, 51, 52, 53, 54, 55, 56, 57, 58, 59, 60, 61, 62, 63, 64, 65, 66, 67, 68, 69, 77, 78, 79, 80, 81, 82, 83, 84, 85, 95, 96, 86, 87, 88, 89, 90, 91, 92, 93, 94] (by decide +kernel) (by decide +kernel)
set_option maxRecDepth 20000 in
theorem gX2_evenly_X2_openResults : GoodIn wsX2_evenly (wsV RX2 95 RX2 yX2_openResults wsX2_openResults) := goodIn_app (goodIn_of _ (by decide +kernel)) ggX2_evenly_X2_openResults
set_option maxRecDepth 20000 in
theorem ggX2_evenly_X1_countInGroup : GoodIn wsX2_evenly wsX1_countInGroup := goodIn_r _ [73, 31, 44, 74, 75, 29, 76, 95, 96] (by decide +kernel) (by decide +kernel)
set_option maxRecDepth 20000 in
theorem gX2_evenly_X1_countInGroup : GoodIn wsX2_evenly (wsV RX2 153 RX1 yX1_countInGroup wsX1_countInGroup) := goodIn_app (goodIn_of _ (by decide +kernel)) ggX2_evenly_X1_countInGroup
theorem dX2_evenly_0 : decode cX2_evenly 0 = .ok (.aload_n 0, 1) := by decide +kernel
theorem dX2_evenly_1 : decode cX2_evenly 1 = .ok (.iload_n 1, 1) := by decide +kernel
theorem dX2_evenly_2 : decode cX2_evenly 2 = .ok (.iload_n 2, 1) := by decide +kernel
theorem dX2_evenly_3 : decode cX2_evenly 3 = .ok (.invokevirtual 150, 3) := by decide +kernel
theorem dX2_evenly_6 : decode cX2_evenly 6 = .ok (.aload_n 0, 1) := by decide +kernel
theorem dX2_evenly_7 : decode cX2_evenly 7 = .ok (.invokevirtual 95, 3) := by decide +kernel
theorem dX2_evenly_10 : decode cX2_evenly 10 = .ok (.iload_n 1, 1) := by decide +kernel
theorem dX2_evenly_11 : decode cX2_evenly 11 = .ok (.iload_n 2, 1) := by decide +kernel
theorem dX2_evenly_12 : decode cX2_evenly 12 = .ok (.invokevirtual 153, 3) := by decide +kernel
theorem dX2_evenly_15 : decode cX2_evenly 15 = .ok (.ireturn, 1) := by decide +kernel
set_option maxRecDepth 20000 in
theorem ggX2_orders_X2_countLeft : GoodIn wsX2_orders wsX2_countLeft := goodIn_r _ [6, 1, 7, 11, 12, 13, 14, 15, 16, 17, 18, 19, 20, 21, 22, 23, 24, 25, 26, 27, 28] (by decide +kernel) (by decide +kernel)
set_option maxRecDepth 20000 in
theorem gX2_orders_X2_countLeft : GoodIn wsX2_orders (wsV RX2 130 RX2 yX2_countLeft wsX2_countLeft) := goodIn_app (goodIn_of _ (by decide +kernel)) ggX2_orders_X2_countLeft
set_option maxRecDepth 20000 in
theorem ggX2_orders_X2_factorial : GoodIn wsX2_orders wsX2_factorial := goodIn_r _ [10] (by decide +kernel) (by decide +kernel)
set_option maxRecDepth 20000 in
theorem gX2_orders_X2_factorial : GoodIn wsX2_orders (va_wsS RX2 160 yX2_factorial wsX2_factorial) := goodIn_app (goodIn_of _ (by decide +kernel)) ggX2_orders_X2_factorial
theorem dX2_orders_0 : decode cX2_orders 0 = .ok (.iconst 1, 1) := by decide +kernel
theorem dX2_orders_1 : decode cX2_orders 1 = .ok (.istore_n 1, 1) := by decide +kernel
theorem dX2_orders_2 : decode cX2_orders 2 = .ok (.iconst 0, 1) := by decide +kernel
theorem dX2_orders_3 : decode cX2_orders 3 = .ok (.istore_n 2, 1) := by decide +kernel
theorem dX2_orders_4 : decode cX2_orders 4 = .ok (.iload_n 2, 1) := by decide +kernel
theorem dX2_orders_5 : decode cX2_orders 5 = .ok (.aload_n 0, 1) := by decide +kernel
theorem dX2_orders_6 : decode cX2_orders 6 = .ok (.getfield 10, 3) := by decide +kernel
theorem dX2_orders_9 : decode cX2_orders 9 = .ok (.getfield 127, 3) := by decide +kernel
theorem dX2_orders_12 : decode cX2_orders 12 = .ok (.if_icmp .ge 20, 3) := by decide +kernel
theorem dX2_orders_15 : decode cX2_orders 15 = .ok (.iload_n 1, 1) := by decide +kernel
theorem dX2_orders_16 : decode cX2_orders 16 = .ok (.aload_n 0, 1) := by decide +kernel
theorem dX2_orders_17 : decode cX2_orders 17 = .ok (.iload_n 2, 1) := by decide +kernel
theorem dX2_orders_18 : decode cX2_orders 18 = .ok (.invokevirtual 130, 3) := by decide +kernel
theorem dX2_orders_21 : decode cX2_orders 21 = .ok (.invokestatic 160, 3) := by decide +kernel
theorem dX2_orders_24 : decode cX2_orders 24 = .ok (.imul, 1) := by decide +kernel
theorem dX2_orders_25 : decode cX2_orders 25 = .ok (.istore_n 1, 1) := by decide +kernel
theorem dX2_orders_26 : decode cX2_orders 26 = .ok (.iinc 2 1, 3) := by decide +kernel
theorem dX2_orders_29 : decode cX2_orders 29 = .ok (.goto (-25), 3) := by decide +kernel
theorem dX2_orders_32 : decode cX2_orders 32 = .ok (.iload_n 1, 1) := by decide +kernel
theorem dX2_orders_33 : decode cX2_orders 33 = .ok (.ireturn, 1) := by decide +kernel
set_option maxRecDepth 20000 in
theorem ggX2_chances_X2_requireTeamAndGroup : GoodIn wsX2_chances wsX2_requireTeamAndGroup := goodIn_ca (goodIn_r _ [5, 6, 7, 8, 9, 10, 11, 12, 13, 14, 15, 16, 17, 18, 19, 136, 137, 138, 139, 140, 141, 142, 143, 144, 145, 146, 147, 148, 149, 150, 151, 152, 153] (by decide +kernel) (by decide +kernel)) (goodIn_sub (fun _ h => List.mem_cons_of_mem _ (List.mem_append_right _ h)) (by decide +kernel))
set_option maxRecDepth 20000 in
theorem gX2_chances_X2_requireTeamAndGroup : GoodIn wsX2_chances (wsV RX2 150 RX2 yX2_requireTeamAndGroup wsX2_requireTeamAndGroup) := goodIn_app (goodIn_of _ (by decide +kernel)) ggX2_chances_X2_requireTeamAndGroup
set_option maxRecDepth 20000 in
theorem ggX2_chances_X2_endResults : GoodIn wsX2_chances wsX2_endResults := goodIn_r _ [23, 24, 25, 26, 27, 28, 29, 30, 31, 32, 33, 34, 35, 4, 36, 37, 38, 8, 39, 40, 41, 12, 42, 43, 44, 45, 46, 14, 19, 47, 48, 49, 50, 51, 52, 53, 54, 55, 56, 57, 58, 59, 60, 61, 62, 63, 64, 65, 66, 67, 68, 69, 70, 71, 72, 73, 74, 75, 76, 77, 78, 79, 80, 81, 82, 83, 84, 85, 86, 87, 88, 89, 90, 91, 92, 93, 94, 95, 96, 97, 98, 99, 100, 101, 102, 103, 104, 105, 106, 107, 108, 109, 110, 111, 112, 113, 114, 115, 116, 117, 118, 119, 120, 121, 122, 123, 124, 125, 126, 127, 128, 129, 130, 131, 136, 137, 138, 139, 140, 141, 142, 143, 144, 154, 155, 145, 146, 147, 148, 149, 150, 151, 152, 153] (by decide +kernel) (by decide +kernel)
set_option maxRecDepth 20000 in
theorem gX2_chances_X2_endResults : GoodIn wsX2_chances (wsV RX2 163 RX2 yX2_endResults wsX2_endResults) := goodIn_app (goodIn_of _ (by decide +kernel)) ggX2_chances_X2_endResults
set_option maxRecDepth 20000 in
theorem ggX2_chances_X1_countInGroup : GoodIn wsX2_chances wsX1_countInGroup := goodIn_r _ [135, 32, 51, 117, 118, 30, 119, 154, 155] (by decide +kernel) (by decide +kernel)
set_option maxRecDepth 20000 in
theorem gX2_chances_X1_countInGroup : GoodIn wsX2_chances (wsV RX2 153 RX1 yX1_countInGroup wsX1_countInGroup) := goodIn_app (goodIn_of _ (by decide +kernel)) ggX2_chances_X1_countInGroup
theorem dX2_chances_0 : decode cX2_chances 0 = .ok (.aload_n 0, 1) := by decide +kernel
theorem dX2_chances_1 : decode cX2_chances 1 = .ok (.iload_n 1, 1) := by decide +kernel
theorem dX2_chances_2 : decode cX2_chances 2 = .ok (.iload_n 2, 1) := by decide +kernel
theorem dX2_chances_3 : decode cX2_chances 3 = .ok (.invokevirtual 150, 3) := by decide +kernel
theorem dX2_chances_6 : decode cX2_chances 6 = .ok (.aload_n 0, 1) := by decide +kernel
theorem dX2_chances_7 : decode cX2_chances 7 = .ok (.invokevirtual 163, 3) := by decide +kernel
theorem dX2_chances_10 : decode cX2_chances 10 = .ok (.iload_n 1, 1) := by decide +kernel
theorem dX2_chances_11 : decode cX2_chances 11 = .ok (.iload_n 2, 1) := by decide +kernel
theorem dX2_chances_12 : decode cX2_chances 12 = .ok (.invokevirtual 153, 3) := by decide +kernel
theorem dX2_chances_15 : decode cX2_chances 15 = .ok (.ireturn, 1) := by decide +kernel
set_option maxRecDepth 20000 in
theorem ggX2_pairings_X2_requireTeam : GoodIn wsX2_pairings wsX2_requireTeam := goodIn_ca (goodIn_r _ [5, 6, 7, 8, 9, 10, 11, 12, 13, 14, 132, 133, 134, 135, 136, 137, 138, 139, 140, 141, 142, 143, 144, 145, 146, 147, 148, 149] (by decide +kernel) (by decide +kernel)) (goodIn_sub (fun _ h => List.mem_cons_of_mem _ (List.mem_append_right _ h)) (by decide +kernel))
set_option maxRecDepth 20000 in
theorem gX2_pairings_X2_requireTeam : GoodIn wsX2_pairings (wsV RX2 136 RX2 yX2_requireTeam wsX2_requireTeam) := goodIn_app (goodIn_of _ (by decide +kernel)) ggX2_pairings_X2_requireTeam
set_option maxRecDepth 20000 in
theorem ggX2_pairings_X2_endResults : GoodIn wsX2_pairings wsX2_endResults := goodIn_r _ [18, 19, 20, 21, 22, 23, 24, 25, 26, 27, 28, 29, 30, 4, 31, 32, 33, 8, 34, 35, 36, 12, 37, 38, 39, 40, 41, 14, 42, 43, 44, 45, 46, 47, 48, 49, 50, 51, 52, 53, 54, 55, 56, 57, 58, 59, 60, 61, 62, 63, 64, 65, 66, 67, 68, 69, 70, 71, 72, 73, 74, 75, 76, 77, 78, 79, 80, 81, 82, 83, 84, 85, 86, 87, 88, 89, 90, 91, 92, 93, 94, 95, 96, 97, 98, 99, 100, 101, 102, 103, 104, 105, 106, 107, 108, 109, 110, 111, 112, 113, 114, 115, 116, 117, 118, 119, 120, 121, 122, 123, 124, 125, 126, 127, 132, 133, 134, 135, 136, 137, 138, 139, 140, 150, 151, 141, 142, 143, 144, 145, 146, 147, 148, 149] (by decide +kernel) (by decide +kernel)
set_option maxRecDepth 20000 in
theorem gX2_pairings_X2_endResults : GoodIn wsX2_pairings (wsV RX2 163 RX2 yX2_endResults wsX2_endResults) := goodIn_app (goodIn_of _ (by decide +kernel)) ggX2_pairings_X2_endResults
set_option maxRecDepth 20000 in
theorem ggX2_pairings_X1_countTogether : GoodIn wsX2_pairings wsX1_countTogether := goodIn_r _ [131, 27, 47, 113, 114, 25, 115, 150, 151] (by decide +kernel) (by decide +kernel)
set_option maxRecDepth 20000 in
theorem gX2_pairings_X1_countTogether : GoodIn wsX2_pairings (wsV RX2 166 RX1 yX1_countTogether wsX1_countTogether) := goodIn_app (goodIn_of _ (by decide +kernel)) ggX2_pairings_X1_countTogether
theorem dX2_pairings_0 : decode cX2_pairings 0 = .ok (.aload_n 0, 1) := by decide +kernel
theorem dX2_pairings_1 : decode cX2_pairings 1 = .ok (.iload_n 1, 1) := by decide +kernel
theorem dX2_pairings_2 : decode cX2_pairings 2 = .ok (.invokevirtual 136, 3) := by decide +kernel
theorem dX2_pairings_5 : decode cX2_pairings 5 = .ok (.aload_n 0, 1) := by decide +kernel
theorem dX2_pairings_6 : decode cX2_pairings 6 = .ok (.iload_n 2, 1) := by decide +kernel
theorem dX2_pairings_7 : decode cX2_pairings 7 = .ok (.invokevirtual 136, 3) := by decide +kernel
theorem dX2_pairings_10 : decode cX2_pairings 10 = .ok (.aload_n 0, 1) := by decide +kernel
theorem dX2_pairings_11 : decode cX2_pairings 11 = .ok (.invokevirtual 163, 3) := by decide +kernel
theorem dX2_pairings_14 : decode cX2_pairings 14 = .ok (.iload_n 1, 1) := by decide +kernel
theorem dX2_pairings_15 : decode cX2_pairings 15 = .ok (.iload_n 2, 1) := by decide +kernel
theorem dX2_pairings_16 : decode cX2_pairings 16 = .ok (.invokevirtual 166, 3) := by decide +kernel
theorem dX2_pairings_19 : decode cX2_pairings 19 = .ok (.ireturn, 1) := by decide +kernel
set_option maxRecDepth 20000 in
theorem ggX2_requireTeam_X0_hasTeam : GoodIn wsX2_requireTeam wsX0_hasTeam := goodIn_r _ [8, 9, 19, 20, 21, 22, 23, 24, 25, 26, 27] (by decide +kernel) (by decide +kernel)
set_option maxRecDepth 20000 in
theorem gX2_requireTeam_X0_hasTeam : GoodIn wsX2_requireTeam (wsV RX2 51 RX0 yX0_hasTeam wsX0_hasTeam) := goodIn_app (goodIn_of _ (by decide +kernel)) ggX2_requireTeam_X0_hasTeam
theorem dX2_requireTeam_0 : decode cX2_requireTeam 0 = .ok (.aload_n 0, 1) := by decide +kernel
theorem dX2_requireTeam_1 : decode cX2_requireTeam 1 = .ok (.getfield 10, 3) := by decide +kernel
theorem dX2_requireTeam_4 : decode cX2_requireTeam 4 = .ok (.iload_n 1, 1) := by decide +kernel
theorem dX2_requireTeam_5 : decode cX2_requireTeam 5 = .ok (.invokevirtual 51, 3) := by decide +kernel
theorem dX2_requireTeam_8 : decode cX2_requireTeam 8 = .ok (.ifCond .ne 13, 3) := by decide +kernel
theorem dX2_requireTeam_11 : decode cX2_requireTeam 11 = .ok (.new 58, 3) := by decide +kernel
theorem dX2_requireTeam_14 : decode cX2_requireTeam 14 = .ok (.dup, 1) := by decide +kernel
theorem dX2_requireTeam_15 : decode cX2_requireTeam 15 = .ok (.ldc 169, 2) := by decide +kernel
theorem dX2_requireTeam_17 : decode cX2_requireTeam 17 = .ok (.invokespecial 62, 3) := by decide +kernel
theorem dX2_requireTeam_20 : decode cX2_requireTeam 20 = .ok (.athrow, 1) := by decide +kernel
theorem dX2_requireTeam_21 : decode cX2_requireTeam 21 = .ok (.return_, 1) := by decide +kernel
set_option maxRecDepth 20000 in
theorem ggX2_requireTeamAndGroup_X0_hasTeam : GoodIn wsX2_requireTeamAndGroup wsX0_hasTeam := goodIn_r _ [8, 9, 24, 25, 26, 27, 28, 29, 30, 31, 32] (by decide +kernel) (by decide +kernel)
set_option maxRecDepth 20000 in
theorem gX2_requireTeamAndGroup_X0_hasTeam : GoodIn wsX2_requireTeamAndGroup (wsV RX2 51 RX0 yX0_hasTeam wsX0_hasTeam) := goodIn_app (goodIn_of _ (by decide +kernel)) ggX2_requireTeamAndGroup_X0_hasTeam
set_option maxRecDepth 20000 in
theorem ggX2_requireTeamAndGroup_X0_hasGroup : GoodIn wsX2_requireTeamAndGroup wsX0_hasGroup := goodIn_r _ [13, 14, 24, 25, 26, 27, 28, 29, 30, 31, 32] (by decide +kernel) (by decide +kernel)
set_option maxRecDepth 20000 in
theorem gX2_requireTeamAndGroup_X0_hasGroup : GoodIn wsX2_requireTeamAndGroup (wsV RX2 139 RX0 yX0_hasGroup wsX0_hasGroup) := goodIn_app (goodIn_of _ (by decide +kernel)) ggX2_requireTeamAndGroup_X0_hasGroup
theorem dX2_requireTeamAndGroup_0 : decode cX2_requireTeamAndGroup 0 = .ok (.aload_n 0, 1) := by decide +kernel
theorem dX2_requireTeamAndGroup_1 : decode cX2_requireTeamAndGroup 1 = .ok (.getfield 10, 3) := by decide +kernel
theorem dX2_requireTeamAndGroup_4 : decode cX2_requireTeamAndGroup 4 = .ok (.iload_n 1, 1) := by decide +kernel
theorem dX2_requireTeamAndGroup_5 : decode cX2_requireTeamAndGroup 5 = .ok (.invokevirtual 51, 3) := by decide +kernel
theorem dX2_requireTeamAndGroup_8 : decode cX2_requireTeamAndGroup 8 = .ok (.ifCond .eq 14, 3) := by decide +kernel
theorem dX2_requireTeamAndGroup_11 : decode cX2_requireTeamAndGroup 11 = .ok (.aload_n 0, 1) := by decide +kernel
theorem dX2_requireTeamAndGroup_12 : decode cX2_requireTeamAndGroup 12 = .ok (.getfield 10, 3) := by decide +kernel
theorem dX2_requireTeamAndGroup_15 : decode cX2_requireTeamAndGroup 15 = .ok (.iload_n 2, 1) := by decide +kernel
theorem dX2_requireTeamAndGroup_16 : decode cX2_requireTeamAndGroup 16 = .ok (.invokevirtual 139, 3) := by decide +kernel
theorem dX2_requireTeamAndGroup_19 : decode cX2_requireTeamAndGroup 19 = .ok (.ifCond .ne 13, 3) := by decide +kernel
theorem dX2_requireTeamAndGroup_22 : decode cX2_requireTeamAndGroup 22 = .ok (.new 58, 3) := by decide +kernel
theorem dX2_requireTeamAndGroup_25 : decode cX2_requireTeamAndGroup 25 = .ok (.dup, 1) := by decide +kernel
theorem dX2_requireTeamAndGroup_26 : decode cX2_requireTeamAndGroup 26 = .ok (.ldc 171, 2) := by decide +kernel
theorem dX2_requireTeamAndGroup_28 : decode cX2_requireTeamAndGroup 28 = .ok (.invokespecial 62, 3) := by decide +kernel
theorem dX2_requireTeamAndGroup_31 : decode cX2_requireTeamAndGroup 31 = .ok (.athrow, 1) := by decide +kernel
theorem dX2_requireTeamAndGroup_32 : decode cX2_requireTeamAndGroup 32 = .ok (.return_, 1) := by decide +kernel
set_option maxRecDepth 20000 in
theorem ggX2_requireTwoTeams_X2_requireTeam : GoodIn wsX2_requireTwoTeams wsX2_requireTeam := goodIn_ca (goodIn_r _ [7, 8, 9, 10, 11, 12, 13, 14, 15, 16, 17, 18, 19, 20, 21, 22, 23, 24, 25, 26, 27, 28, 29, 30, 31, 32, 33, 34] (by decide +kernel) (by decide +kernel)) (goodIn_sub (fun _ h => List.mem_cons_of_mem _ (List.mem_append_right _ h)) (by decide +kernel))
set_option maxRecDepth 20000 in
theorem gX2_requireTwoTeams_X2_requireTeam : GoodIn wsX2_requireTwoTeams (wsV RX2 136 RX2 yX2_requireTeam wsX2_requireTeam) := goodIn_app (goodIn_of _ (by decide +kernel)) ggX2_requireTwoTeams_X2_requireTeam
theorem dX2_requireTwoTeams_0 : decode cX2_requireTwoTeams 0 = .ok (.aload_n 0, 1) := by decide +kernel
theorem dX2_requireTwoTeams_1 : decode cX2_requireTwoTeams 1 = .ok (.iload_n 1, 1) := by decide +kernel
theorem dX2_requireTwoTeams_2 : decode cX2_requireTwoTeams 2 = .ok (.invokevirtual 136, 3) := by decide +kernel
theorem dX2_requireTwoTeams_5 : decode cX2_requireTwoTeams 5 = .ok (.aload_n 0, 1) := by decide +kernel
theorem dX2_requireTwoTeams_6 : decode cX2_requireTwoTeams 6 = .ok (.iload_n 2, 1) := by decide +kernel
theorem dX2_requireTwoTeams_7 : decode cX2_requireTwoTeams 7 = .ok (.invokevirtual 136, 3) := by decide +kernel
theorem dX2_requireTwoTeams_10 : decode cX2_requireTwoTeams 10 = .ok (.iload_n 1, 1) := by decide +kernel
theorem dX2_requireTwoTeams_11 : decode cX2_requireTwoTeams 11 = .ok (.iload_n 2, 1) := by decide +kernel
theorem dX2_requireTwoTeams_12 : decode cX2_requireTwoTeams 12 = .ok (.if_icmp .ne 13, 3) := by decide +kernel
theorem dX2_requireTwoTeams_15 : decode cX2_requireTwoTeams 15 = .ok (.new 40, 3) := by decide +kernel
theorem dX2_requireTwoTeams_18 : decode cX2_requireTwoTeams 18 = .ok (.dup, 1) := by decide +kernel
theorem dX2_requireTwoTeams_19 : decode cX2_requireTwoTeams 19 = .ok (.ldc 173, 2) := by decide +kernel
theorem dX2_requireTwoTeams_21 : decode cX2_requireTwoTeams 21 = .ok (.invokespecial 44, 3) := by decide +kernel
theorem dX2_requireTwoTeams_24 : decode cX2_requireTwoTeams 24 = .ok (.athrow, 1) := by decide +kernel
theorem dX2_requireTwoTeams_25 : decode cX2_requireTwoTeams 25 = .ok (.return_, 1) := by decide +kernel
theorem dX2_requireNothingDrawn_0 : decode cX2_requireNothingDrawn 0 = .ok (.aload_n 0, 1) := by decide +kernel
theorem dX2_requireNothingDrawn_1 : decode cX2_requireNothingDrawn 1 = .ok (.getfield 92, 3) := by decide +kernel
theorem dX2_requireNothingDrawn_4 : decode cX2_requireNothingDrawn 4 = .ok (.ifCond .le 13, 3) := by decide +kernel
theorem dX2_requireNothingDrawn_7 : decode cX2_requireNothingDrawn 7 = .ok (.new 102, 3) := by decide +kernel
theorem dX2_requireNothingDrawn_10 : decode cX2_requireNothingDrawn 10 = .ok (.dup, 1) := by decide +kernel
theorem dX2_requireNothingDrawn_11 : decode cX2_requireNothingDrawn 11 = .ok (.ldc 175, 2) := by decide +kernel
theorem dX2_requireNothingDrawn_13 : decode cX2_requireNothingDrawn 13 = .ok (.invokespecial 106, 3) := by decide +kernel
theorem dX2_requireNothingDrawn_16 : decode cX2_requireNothingDrawn 16 = .ok (.athrow, 1) := by decide +kernel
theorem dX2_requireNothingDrawn_17 : decode cX2_requireNothingDrawn 17 = .ok (.return_, 1) := by decide +kernel
set_option maxRecDepth 20000 in
theorem ggX2_startWith_X0_reset : GoodIn wsX2_startWith wsX0_reset := goodIn_r _ [8, 9, 10, 11, 12, 13, 14, 15, 16, 17, 18, 7, 19, 20, 37, 38, 39, 40, 41, 42, 43, 44, 45] (by decide +kernel) (by decide +kernel)
set_option maxRecDepth 20000 in
theorem gX2_startWith_X0_reset : GoodIn wsX2_startWith (wsV RX2 177 RX0 yX0_reset wsX0_reset) := goodIn_app (goodIn_of _ (by decide +kernel)) ggX2_startWith_X0_reset
set_option maxRecDepth 20000 in
theorem ggX2_startWith_X2_forgetResults : GoodIn wsX2_startWith wsX2_forgetResults := goodIn_r _ [25, 26, 27, 28, 29, 30, 31, 32, 33, 34, 35, 36] (by decide +kernel) (by decide +kernel)
set_option maxRecDepth 20000 in
theorem gX2_startWith_X2_forgetResults : GoodIn wsX2_startWith (wsV RX2 69 RX2 yX2_forgetResults wsX2_forgetResults) := goodIn_app (goodIn_of _ (by decide +kernel)) ggX2_startWith_X2_forgetResults
theorem dX2_startWith_0 : decode cX2_startWith 0 = .ok (.aload_n 0, 1) := by decide +kernel
theorem dX2_startWith_1 : decode cX2_startWith 1 = .ok (.getfield 10, 3) := by decide +kernel
theorem dX2_startWith_4 : decode cX2_startWith 4 = .ok (.iload_n 1, 1) := by decide +kernel
theorem dX2_startWith_5 : decode cX2_startWith 5 = .ok (.iload_n 2, 1) := by decide +kernel
theorem dX2_startWith_6 : decode cX2_startWith 6 = .ok (.invokevirtual 177, 3) := by decide +kernel
theorem dX2_startWith_9 : decode cX2_startWith 9 = .ok (.iconst 0, 1) := by decide +kernel
theorem dX2_startWith_10 : decode cX2_startWith 10 = .ok (.istore_n 3, 1) := by decide +kernel
theorem dX2_startWith_11 : decode cX2_startWith 11 = .ok (.iload_n 3, 1) := by decide +kernel
theorem dX2_startWith_12 : decode cX2_startWith 12 = .ok (.aload_n 0, 1) := by decide +kernel
theorem dX2_startWith_13 : decode cX2_startWith 13 = .ok (.getfield 26, 3) := by decide +kernel
theorem dX2_startWith_16 : decode cX2_startWith 16 = .ok (.arraylength, 1) := by decide +kernel
theorem dX2_startWith_17 : decode cX2_startWith 17 = .ok (.if_icmp .ge 16, 3) := by decide +kernel
theorem dX2_startWith_20 : decode cX2_startWith 20 = .ok (.aload_n 0, 1) := by decide +kernel
theorem dX2_startWith_21 : decode cX2_startWith 21 = .ok (.getfield 26, 3) := by decide +kernel
theorem dX2_startWith_24 : decode cX2_startWith 24 = .ok (.iload_n 3, 1) := by decide +kernel
theorem dX2_startWith_25 : decode cX2_startWith 25 = .ok (.iconst (-1), 1) := by decide +kernel
theorem dX2_startWith_26 : decode cX2_startWith 26 = .ok (.iastore, 1) := by decide +kernel
theorem dX2_startWith_27 : decode cX2_startWith 27 = .ok (.iinc 3 1, 3) := by decide +kernel
theorem dX2_startWith_30 : decode cX2_startWith 30 = .ok (.goto (-19), 3) := by decide +kernel
theorem dX2_startWith_33 : decode cX2_startWith 33 = .ok (.aload_n 0, 1) := by decide +kernel
theorem dX2_startWith_34 : decode cX2_startWith 34 = .ok (.iconst 0, 1) := by decide +kernel
theorem dX2_startWith_35 : decode cX2_startWith 35 = .ok (.putfield 92, 3) := by decide +kernel
theorem dX2_startWith_38 : decode cX2_startWith 38 = .ok (.aload_n 0, 1) := by decide +kernel
theorem dX2_startWith_39 : decode cX2_startWith 39 = .ok (.invokevirtual 69, 3) := by decide +kernel
theorem dX2_startWith_42 : decode cX2_startWith 42 = .ok (.return_, 1) := by decide +kernel
theorem dX2_countLeft_0 : decode cX2_countLeft 0 = .ok (.iload_n 1, 1) := by decide +kernel
theorem dX2_countLeft_1 : decode cX2_countLeft 1 = .ok (.aload_n 0, 1) := by decide +kernel
theorem dX2_countLeft_2 : decode cX2_countLeft 2 = .ok (.getfield 10, 3) := by decide +kernel
theorem dX2_countLeft_5 : decode cX2_countLeft 5 = .ok (.getfield 147, 3) := by decide +kernel
theorem dX2_countLeft_8 : decode cX2_countLeft 8 = .ok (.imul, 1) := by decide +kernel
theorem dX2_countLeft_9 : decode cX2_countLeft 9 = .ok (.istore_n 2, 1) := by decide +kernel
theorem dX2_countLeft_10 : decode cX2_countLeft 10 = .ok (.iconst 0, 1) := by decide +kernel
theorem dX2_countLeft_11 : decode cX2_countLeft 11 = .ok (.istore_n 3, 1) := by decide +kernel
theorem dX2_countLeft_12 : decode cX2_countLeft 12 = .ok (.iload_n 2, 1) := by decide +kernel
theorem dX2_countLeft_13 : decode cX2_countLeft 13 = .ok (.istore 4, 2) := by decide +kernel
theorem dX2_countLeft_15 : decode cX2_countLeft 15 = .ok (.iload 4, 2) := by decide +kernel
theorem dX2_countLeft_17 : decode cX2_countLeft 17 = .ok (.iload_n 2, 1) := by decide +kernel
theorem dX2_countLeft_18 : decode cX2_countLeft 18 = .ok (.aload_n 0, 1) := by decide +kernel
theorem dX2_countLeft_19 : decode cX2_countLeft 19 = .ok (.getfield 10, 3) := by decide +kernel
theorem dX2_countLeft_22 : decode cX2_countLeft 22 = .ok (.getfield 147, 3) := by decide +kernel
theorem dX2_countLeft_25 : decode cX2_countLeft 25 = .ok (.iadd, 1) := by decide +kernel
theorem dX2_countLeft_26 : decode cX2_countLeft 26 = .ok (.if_icmp .ge 23, 3) := by decide +kernel
theorem dX2_countLeft_29 : decode cX2_countLeft 29 = .ok (.aload_n 0, 1) := by decide +kernel
theorem dX2_countLeft_30 : decode cX2_countLeft 30 = .ok (.getfield 26, 3) := by decide +kernel
theorem dX2_countLeft_33 : decode cX2_countLeft 33 = .ok (.iload 4, 2) := by decide +kernel
theorem dX2_countLeft_35 : decode cX2_countLeft 35 = .ok (.iaload, 1) := by decide +kernel
theorem dX2_countLeft_36 : decode cX2_countLeft 36 = .ok (.iconst (-1), 1) := by decide +kernel
theorem dX2_countLeft_37 : decode cX2_countLeft 37 = .ok (.if_icmp .ne 6, 3) := by decide +kernel
theorem dX2_countLeft_40 : decode cX2_countLeft 40 = .ok (.iinc 3 1, 3) := by decide +kernel
theorem dX2_countLeft_43 : decode cX2_countLeft 43 = .ok (.iinc 4 1, 3) := by decide +kernel
theorem dX2_countLeft_46 : decode cX2_countLeft 46 = .ok (.goto (-31), 3) := by decide +kernel
theorem dX2_countLeft_49 : decode cX2_countLeft 49 = .ok (.iload_n 3, 1) := by decide +kernel
theorem dX2_countLeft_50 : decode cX2_countLeft 50 = .ok (.ireturn, 1) := by decide +kernel
set_option maxRecDepth 20000 in
theorem ggX2_findBall_X2_pot : GoodIn wsX2_findBall wsX2_pot := goodIn_r _ [7, 1, 8, 9, 10, 6, 11, 2, 12, 13, 14, 15, 16, 17, 18, 19, 20, 21, 22, 23, 24, 25, 26, 27, 28, 29] (by decide +kernel) (by decide +kernel)
set_option maxRecDepth 20000 in
theorem gX2_findBall_X2_pot : GoodIn wsX2_findBall (wsV RX2 133 RX2 yX2_pot wsX2_pot) := goodIn_app (goodIn_of _ (by decide +kernel)) ggX2_findBall_X2_pot
theorem dX2_findBall_0 : decode cX2_findBall 0 = .ok (.aload_n 0, 1) := by decide +kernel
theorem dX2_findBall_1 : decode cX2_findBall 1 = .ok (.invokevirtual 133, 3) := by decide +kernel
theorem dX2_findBall_4 : decode cX2_findBall 4 = .ok (.istore_n 2, 1) := by decide +kernel
theorem dX2_findBall_5 : decode cX2_findBall 5 = .ok (.iload_n 2, 1) := by decide +kernel
theorem dX2_findBall_6 : decode cX2_findBall 6 = .ok (.iconst (-1), 1) := by decide +kernel
theorem dX2_findBall_7 : decode cX2_findBall 7 = .ok (.if_icmp .eq 7, 3) := by decide +kernel
theorem dX2_findBall_10 : decode cX2_findBall 10 = .ok (.iload_n 1, 1) := by decide +kernel
theorem dX2_findBall_11 : decode cX2_findBall 11 = .ok (.ifCond .ge 5, 3) := by decide +kernel
theorem dX2_findBall_14 : decode cX2_findBall 14 = .ok (.iconst (-1), 1) := by decide +kernel
theorem dX2_findBall_15 : decode cX2_findBall 15 = .ok (.ireturn, 1) := by decide +kernel
theorem dX2_findBall_16 : decode cX2_findBall 16 = .ok (.iload_n 2, 1) := by decide +kernel
theorem dX2_findBall_17 : decode cX2_findBall 17 = .ok (.aload_n 0, 1) := by decide +kernel
theorem dX2_findBall_18 : decode cX2_findBall 18 = .ok (.getfield 10, 3) := by decide +kernel
theorem dX2_findBall_21 : decode cX2_findBall 21 = .ok (.getfield 147, 3) := by decide +kernel
theorem dX2_findBall_24 : decode cX2_findBall 24 = .ok (.imul, 1) := by decide +kernel
theorem dX2_findBall_25 : decode cX2_findBall 25 = .ok (.istore_n 3, 1) := by decide +kernel
theorem dX2_findBall_26 : decode cX2_findBall 26 = .ok (.iload_n 1, 1) := by decide +kernel
theorem dX2_findBall_27 : decode cX2_findBall 27 = .ok (.istore 4, 2) := by decide +kernel
theorem dX2_findBall_29 : decode cX2_findBall 29 = .ok (.iload_n 3, 1) := by decide +kernel
theorem dX2_findBall_30 : decode cX2_findBall 30 = .ok (.istore 5, 2) := by decide +kernel
theorem dX2_findBall_32 : decode cX2_findBall 32 = .ok (.iload 5, 2) := by decide +kernel
theorem dX2_findBall_34 : decode cX2_findBall 34 = .ok (.iload_n 3, 1) := by decide +kernel
theorem dX2_findBall_35 : decode cX2_findBall 35 = .ok (.aload_n 0, 1) := by decide +kernel
theorem dX2_findBall_36 : decode cX2_findBall 36 = .ok (.getfield 10, 3) := by decide +kernel
theorem dX2_findBall_39 : decode cX2_findBall 39 = .ok (.getfield 147, 3) := by decide +kernel
theorem dX2_findBall_42 : decode cX2_findBall 42 = .ok (.iadd, 1) := by decide +kernel
theorem dX2_findBall_43 : decode cX2_findBall 43 = .ok (.if_icmp .ge 31, 3) := by decide +kernel
theorem dX2_findBall_46 : decode cX2_findBall 46 = .ok (.aload_n 0, 1) := by decide +kernel
theorem dX2_findBall_47 : decode cX2_findBall 47 = .ok (.getfield 26, 3) := by decide +kernel
theorem dX2_findBall_50 : decode cX2_findBall 50 = .ok (.iload 5, 2) := by decide +kernel
theorem dX2_findBall_52 : decode cX2_findBall 52 = .ok (.iaload, 1) := by decide +kernel
theorem dX2_findBall_53 : decode cX2_findBall 53 = .ok (.iconst (-1), 1) := by decide +kernel
theorem dX2_findBall_54 : decode cX2_findBall 54 = .ok (.if_icmp .ne 14, 3) := by decide +kernel
theorem dX2_findBall_57 : decode cX2_findBall 57 = .ok (.iload 4, 2) := by decide +kernel
theorem dX2_findBall_59 : decode cX2_findBall 59 = .ok (.ifCond .ne 6, 3) := by decide +kernel
theorem dX2_findBall_62 : decode cX2_findBall 62 = .ok (.iload 5, 2) := by decide +kernel
theorem dX2_findBall_64 : decode cX2_findBall 64 = .ok (.ireturn, 1) := by decide +kernel
theorem dX2_findBall_65 : decode cX2_findBall 65 = .ok (.iinc 4 (-1), 3) := by decide +kernel
theorem dX2_findBall_68 : decode cX2_findBall 68 = .ok (.iinc 5 1, 3) := by decide +kernel
theorem dX2_findBall_71 : decode cX2_findBall 71 = .ok (.goto (-39), 3) := by decide +kernel
theorem dX2_findBall_74 : decode cX2_findBall 74 = .ok (.iconst (-1), 1) := by decide +kernel
theorem dX2_findBall_75 : decode cX2_findBall 75 = .ok (.ireturn, 1) := by decide +kernel
set_option maxRecDepth 20000 in
theorem ggX2_seat_X1_lowestGroup : GoodIn wsX2_seat wsX1_lowestGroup := goodIn_r _ [10, 11, 12, 13, 14, 9, 15, 29, 30] (by decide +kernel) (by decide +kernel)
set_option maxRecDepth 20000 in
theorem gX2_seat_X1_lowestGroup : GoodIn wsX2_seat (wsV RX2 157 RX1 yX1_lowestGroup wsX1_lowestGroup) := goodIn_app (goodIn_of _ (by decide +kernel)) ggX2_seat_X1_lowestGroup
set_option maxRecDepth 20000 in
theorem ggX2_seat_X1_narrow : GoodIn wsX2_seat wsX1_narrow := goodIn_r _ [19, 11, 12, 13, 14, 9, 15, 29, 30] (by decide +kernel) (by decide +kernel)
set_option maxRecDepth 20000 in
theorem gX2_seat_X1_narrow : GoodIn wsX2_seat (wsV RX2 180 RX1 yX1_narrow wsX1_narrow) := goodIn_app (goodIn_of _ (by decide +kernel)) ggX2_seat_X1_narrow
theorem dX2_seat_0 : decode cX2_seat 0 = .ok (.aload_n 0, 1) := by decide +kernel
theorem dX2_seat_1 : decode cX2_seat 1 = .ok (.getfield 19, 3) := by decide +kernel
theorem dX2_seat_4 : decode cX2_seat 4 = .ok (.iload_n 1, 1) := by decide +kernel
theorem dX2_seat_5 : decode cX2_seat 5 = .ok (.invokevirtual 157, 3) := by decide +kernel
theorem dX2_seat_8 : decode cX2_seat 8 = .ok (.istore_n 2, 1) := by decide +kernel
theorem dX2_seat_9 : decode cX2_seat 9 = .ok (.aload_n 0, 1) := by decide +kernel
theorem dX2_seat_10 : decode cX2_seat 10 = .ok (.getfield 33, 3) := by decide +kernel
theorem dX2_seat_13 : decode cX2_seat 13 = .ok (.aload_n 0, 1) := by decide +kernel
theorem dX2_seat_14 : decode cX2_seat 14 = .ok (.getfield 92, 3) := by decide +kernel
theorem dX2_seat_17 : decode cX2_seat 17 = .ok (.aload_n 0, 1) := by decide +kernel
theorem dX2_seat_18 : decode cX2_seat 18 = .ok (.getfield 19, 3) := by decide +kernel
theorem dX2_seat_21 : decode cX2_seat 21 = .ok (.getfield 99, 3) := by decide +kernel
theorem dX2_seat_24 : decode cX2_seat 24 = .ok (.iastore, 1) := by decide +kernel
theorem dX2_seat_25 : decode cX2_seat 25 = .ok (.aload_n 0, 1) := by decide +kernel
theorem dX2_seat_26 : decode cX2_seat 26 = .ok (.getfield 19, 3) := by decide +kernel
theorem dX2_seat_29 : decode cX2_seat 29 = .ok (.iload_n 1, 1) := by decide +kernel
theorem dX2_seat_30 : decode cX2_seat 30 = .ok (.iload_n 2, 1) := by decide +kernel
theorem dX2_seat_31 : decode cX2_seat 31 = .ok (.invokevirtual 180, 3) := by decide +kernel
theorem dX2_seat_34 : decode cX2_seat 34 = .ok (.aload_n 0, 1) := by decide +kernel
theorem dX2_seat_35 : decode cX2_seat 35 = .ok (.getfield 26, 3) := by decide +kernel
theorem dX2_seat_38 : decode cX2_seat 38 = .ok (.iload_n 1, 1) := by decide +kernel
theorem dX2_seat_39 : decode cX2_seat 39 = .ok (.iload_n 2, 1) := by decide +kernel
theorem dX2_seat_40 : decode cX2_seat 40 = .ok (.iastore, 1) := by decide +kernel
theorem dX2_seat_41 : decode cX2_seat 41 = .ok (.aload_n 0, 1) := by decide +kernel
theorem dX2_seat_42 : decode cX2_seat 42 = .ok (.getfield 30, 3) := by decide +kernel
theorem dX2_seat_45 : decode cX2_seat 45 = .ok (.aload_n 0, 1) := by decide +kernel
theorem dX2_seat_46 : decode cX2_seat 46 = .ok (.getfield 92, 3) := by decide +kernel
theorem dX2_seat_49 : decode cX2_seat 49 = .ok (.iload_n 1, 1) := by decide +kernel
theorem dX2_seat_50 : decode cX2_seat 50 = .ok (.iastore, 1) := by decide +kernel
theorem dX2_seat_51 : decode cX2_seat 51 = .ok (.aload_n 0, 1) := by decide +kernel
theorem dX2_seat_52 : decode cX2_seat 52 = .ok (.dup, 1) := by decide +kernel
theorem dX2_seat_53 : decode cX2_seat 53 = .ok (.getfield 92, 3) := by decide +kernel
theorem dX2_seat_56 : decode cX2_seat 56 = .ok (.iconst 1, 1) := by decide +kernel
theorem dX2_seat_57 : decode cX2_seat 57 = .ok (.iadd, 1) := by decide +kernel
theorem dX2_seat_58 : decode cX2_seat 58 = .ok (.putfield 92, 3) := by decide +kernel
theorem dX2_seat_61 : decode cX2_seat 61 = .ok (.return_, 1) := by decide +kernel
set_option maxRecDepth 20000 in
theorem ggX2_unseat_X1_widen : GoodIn wsX2_unseat wsX1_widen := goodIn_r _ [10, 11, 21, 22] (by decide +kernel) (by decide +kernel)
set_option maxRecDepth 20000 in
theorem gX2_unseat_X1_widen : GoodIn wsX2_unseat (wsV RX2 183 RX1 yX1_widen wsX1_widen) := goodIn_app (goodIn_of _ (by decide +kernel)) ggX2_unseat_X1_widen
theorem dX2_unseat_0 : decode cX2_unseat 0 = .ok (.aload_n 0, 1) := by decide +kernel
theorem dX2_unseat_1 : decode cX2_unseat 1 = .ok (.dup, 1) := by decide +kernel
theorem dX2_unseat_2 : decode cX2_unseat 2 = .ok (.getfield 92, 3) := by decide +kernel
theorem dX2_unseat_5 : decode cX2_unseat 5 = .ok (.iconst 1, 1) := by decide +kernel
theorem dX2_unseat_6 : decode cX2_unseat 6 = .ok (.isub, 1) := by decide +kernel
theorem dX2_unseat_7 : decode cX2_unseat 7 = .ok (.putfield 92, 3) := by decide +kernel
theorem dX2_unseat_10 : decode cX2_unseat 10 = .ok (.aload_n 0, 1) := by decide +kernel
theorem dX2_unseat_11 : decode cX2_unseat 11 = .ok (.getfield 30, 3) := by decide +kernel
theorem dX2_unseat_14 : decode cX2_unseat 14 = .ok (.aload_n 0, 1) := by decide +kernel
theorem dX2_unseat_15 : decode cX2_unseat 15 = .ok (.getfield 92, 3) := by decide +kernel
theorem dX2_unseat_18 : decode cX2_unseat 18 = .ok (.iaload, 1) := by decide +kernel
theorem dX2_unseat_19 : decode cX2_unseat 19 = .ok (.istore_n 1, 1) := by decide +kernel
theorem dX2_unseat_20 : decode cX2_unseat 20 = .ok (.aload_n 0, 1) := by decide +kernel
theorem dX2_unseat_21 : decode cX2_unseat 21 = .ok (.getfield 26, 3) := by decide +kernel
theorem dX2_unseat_24 : decode cX2_unseat 24 = .ok (.iload_n 1, 1) := by decide +kernel
theorem dX2_unseat_25 : decode cX2_unseat 25 = .ok (.iconst (-1), 1) := by decide +kernel
theorem dX2_unseat_26 : decode cX2_unseat 26 = .ok (.iastore, 1) := by decide +kernel
theorem dX2_unseat_27 : decode cX2_unseat 27 = .ok (.aload_n 0, 1) := by decide +kernel
theorem dX2_unseat_28 : decode cX2_unseat 28 = .ok (.getfield 19, 3) := by decide +kernel
theorem dX2_unseat_31 : decode cX2_unseat 31 = .ok (.aload_n 0, 1) := by decide +kernel
theorem dX2_unseat_32 : decode cX2_unseat 32 = .ok (.getfield 33, 3) := by decide +kernel
theorem dX2_unseat_35 : decode cX2_unseat 35 = .ok (.aload_n 0, 1) := by decide +kernel
theorem dX2_unseat_36 : decode cX2_unseat 36 = .ok (.getfield 92, 3) := by decide +kernel
theorem dX2_unseat_39 : decode cX2_unseat 39 = .ok (.iaload, 1) := by decide +kernel
theorem dX2_unseat_40 : decode cX2_unseat 40 = .ok (.invokevirtual 183, 3) := by decide +kernel
theorem dX2_unseat_43 : decode cX2_unseat 43 = .ok (.iload_n 1, 1) := by decide +kernel
theorem dX2_unseat_44 : decode cX2_unseat 44 = .ok (.ireturn, 1) := by decide +kernel
theorem dX2_factorial_0 : decode cX2_factorial 0 = .ok (.iconst 1, 1) := by decide +kernel
theorem dX2_factorial_1 : decode cX2_factorial 1 = .ok (.istore_n 1, 1) := by decide +kernel
theorem dX2_factorial_2 : decode cX2_factorial 2 = .ok (.iconst 2, 1) := by decide +kernel
theorem dX2_factorial_3 : decode cX2_factorial 3 = .ok (.istore_n 2, 1) := by decide +kernel
theorem dX2_factorial_4 : decode cX2_factorial 4 = .ok (.iload_n 2, 1) := by decide +kernel
theorem dX2_factorial_5 : decode cX2_factorial 5 = .ok (.iload_n 0, 1) := by decide +kernel
theorem dX2_factorial_6 : decode cX2_factorial 6 = .ok (.if_icmp .gt 13, 3) := by decide +kernel
theorem dX2_factorial_9 : decode cX2_factorial 9 = .ok (.iload_n 1, 1) := by decide +kernel
theorem dX2_factorial_10 : decode cX2_factorial 10 = .ok (.iload_n 2, 1) := by decide +kernel
theorem dX2_factorial_11 : decode cX2_factorial 11 = .ok (.imul, 1) := by decide +kernel
theorem dX2_factorial_12 : decode cX2_factorial 12 = .ok (.istore_n 1, 1) := by decide +kernel
theorem dX2_factorial_13 : decode cX2_factorial 13 = .ok (.iinc 2 1, 3) := by decide +kernel
theorem dX2_factorial_16 : decode cX2_factorial 16 = .ok (.goto (-12), 3) := by decide +kernel
theorem dX2_factorial_19 : decode cX2_factorial 19 = .ok (.iload_n 1, 1) := by decide +kernel
theorem dX2_factorial_20 : decode cX2_factorial 20 = .ok (.ireturn, 1) := by decide +kernel
theorem dX2_forgetResults_0 : decode cX2_forgetResults 0 = .ok (.aload_n 0, 1) := by decide +kernel
theorem dX2_forgetResults_1 : decode cX2_forgetResults 1 = .ok (.iconst 0, 1) := by decide +kernel
theorem dX2_forgetResults_2 : decode cX2_forgetResults 2 = .ok (.putfield 186, 3) := by decide +kernel
theorem dX2_forgetResults_5 : decode cX2_forgetResults 5 = .ok (.aload_n 0, 1) := by decide +kernel
theorem dX2_forgetResults_6 : decode cX2_forgetResults 6 = .ok (.iconst 0, 1) := by decide +kernel
theorem dX2_forgetResults_7 : decode cX2_forgetResults 7 = .ok (.putfield 113, 3) := by decide +kernel
theorem dX2_forgetResults_10 : decode cX2_forgetResults 10 = .ok (.return_, 1) := by decide +kernel
set_option maxRecDepth 20000 in
theorem ggX2_openResults_X1_clear : GoodIn wsX2_openResults wsX1_clear := goodIn_r _ [8, 9, 60, 61] (by decide +kernel) (by decide +kernel)
set_option maxRecDepth 20000 in
theorem gX2_openResults_X1_clear : GoodIn wsX2_openResults (wsV RX2 189 RX1 yX1_clear wsX1_clear) := goodIn_app (goodIn_of _ (by decide +kernel)) ggX2_openResults_X1_clear
set_option maxRecDepth 20000 in
theorem ggX2_openResults_X0_addLawful : GoodIn wsX2_openResults wsX0_addLawful := goodIn_r _ [14, 15, 16, 17, 13, 18, 19, 20, 21, 22, 23, 7, 24, 9, 25, 26, 27, 28, 29, 30, 31, 32, 33, 34, 35, 36, 37, 38, 39, 40, 41, 42, 43, 44, 45, 46, 47, 48, 49, 50, 62, 63, 64, 65, 66, 67, 68, 69, 70, 60, 61] (by decide +kernel) (by decide +kernel)
set_option maxRecDepth 20000 in
theorem gX2_openResults_X0_addLawful : GoodIn wsX2_openResults (wsV RX2 192 RX0 yX0_addLawful wsX0_addLawful) := goodIn_app (goodIn_of _ (by decide +kernel)) ggX2_openResults_X0_addLawful
theorem dX2_openResults_0 : decode cX2_openResults 0 = .ok (.aload_n 0, 1) := by decide +kernel
theorem dX2_openResults_1 : decode cX2_openResults 1 = .ok (.getfield 186, 3) := by decide +kernel
theorem dX2_openResults_4 : decode cX2_openResults 4 = .ok (.ifCond .ne 26, 3) := by decide +kernel
theorem dX2_openResults_7 : decode cX2_openResults 7 = .ok (.aload_n 0, 1) := by decide +kernel
theorem dX2_openResults_8 : decode cX2_openResults 8 = .ok (.getfield 19, 3) := by decide +kernel
theorem dX2_openResults_11 : decode cX2_openResults 11 = .ok (.invokevirtual 189, 3) := by decide +kernel
theorem dX2_openResults_14 : decode cX2_openResults 14 = .ok (.aload_n 0, 1) := by decide +kernel
theorem dX2_openResults_15 : decode cX2_openResults 15 = .ok (.getfield 10, 3) := by decide +kernel
theorem dX2_openResults_18 : decode cX2_openResults 18 = .ok (.aload_n 0, 1) := by decide +kernel
theorem dX2_openResults_19 : decode cX2_openResults 19 = .ok (.getfield 19, 3) := by decide +kernel
theorem dX2_openResults_22 : decode cX2_openResults 22 = .ok (.invokevirtual 192, 3) := by decide +kernel
theorem dX2_openResults_25 : decode cX2_openResults 25 = .ok (.aload_n 0, 1) := by decide +kernel
theorem dX2_openResults_26 : decode cX2_openResults 26 = .ok (.iconst 1, 1) := by decide +kernel
theorem dX2_openResults_27 : decode cX2_openResults 27 = .ok (.putfield 186, 3) := by decide +kernel
theorem dX2_openResults_30 : decode cX2_openResults 30 = .ok (.aload_n 0, 1) := by decide +kernel
theorem dX2_openResults_31 : decode cX2_openResults 31 = .ok (.getfield 19, 3) := by decide +kernel
theorem dX2_openResults_34 : decode cX2_openResults 34 = .ok (.areturn, 1) := by decide +kernel
set_option maxRecDepth 20000 in
theorem ggX2_endResults_X1_clear : GoodIn wsX2_endResults wsX1_clear := goodIn_r _ [8, 9, 123, 124] (by decide +kernel) (by decide +kernel)
set_option maxRecDepth 20000 in
theorem gX2_endResults_X1_clear : GoodIn wsX2_endResults (wsV RX2 189 RX1 yX1_clear wsX1_clear) := goodIn_app (goodIn_of _ (by decide +kernel)) ggX2_endResults_X1_clear
set_option maxRecDepth 20000 in
theorem ggX2_endResults_X2_openResults : GoodIn wsX2_endResults wsX2_openResults := goodIn_r _ [14, 15, 16, 17, 4, 5, 6, 7, 8, 9, 18, 19, 20, 21, 22, 23, 24, 25, 26, 27, 28, 29, 30, 31, 32, 33, 34, 35, 36, 37, 38, 39, 40, 41, 42, 43, 44, 45, 46, 47, 48, 49, 50, 51, 52, 53, 54, 55, 56, 57, 58, 114, 115, 116, 117, 118, 119, 120, 121, 122, 123, 124, 125, 126, 127, 128, 129, 130, 131, 132, 133] (by decide +kernel) (by decide +kernel)
set_option maxRecDepth 20000 in
theorem gX2_endResults_X2_openResults : GoodIn wsX2_endResults (wsV RX2 95 RX2 yX2_openResults wsX2_openResults) := goodIn_app (goodIn_of _ (by decide +kernel)) ggX2_endResults_X2_openResults
set_option maxRecDepth 20000 in
theorem ggX2_endResults_X2_followOrders : GoodIn wsX2_endResults wsX2_followOrders := goodIn_r _ [62, 17, 2, 16, 63, 64, 65, 7, 66, 33, 67, 30, 31, 32, 9, 68, 69, 70, 13, 71, 72, 73, 74, 75, 76, 77, 78, 79, 80, 81, 82, 83, 84, 85, 86, 87, 88, 89, 90, 91, 92, 93, 3, 94, 95, 96, 97, 98, 99, 100, 101, 102, 103, 104, 105, 59, 60, 61, 106, 107, 108, 109, 110, 111, 112, 113, 114, 115, 116, 117, 118, 119, 120, 121, 122, 123, 124, 125, 126, 127, 128, 129, 130, 131, 132, 133] (by decide +kernel) (by decide +kernel)
set_option maxRecDepth 20000 in
theorem gX2_endResults_X2_followOrders : GoodIn wsX2_endResults (wsV RX2 196 RX2 yX2_followOrders wsX2_followOrders) := goodIn_app (goodIn_of _ (by decide +kernel)) ggX2_endResults_X2_followOrders
theorem dX2_endResults_0 : decode cX2_endResults 0 = .ok (.aload_n 0, 1) := by decide +kernel
theorem dX2_endResults_1 : decode cX2_endResults 1 = .ok (.getfield 113, 3) := by decide +kernel
theorem dX2_endResults_4 : decode cX2_endResults 4 = .ok (.ifCond .ne 33, 3) := by decide +kernel
theorem dX2_endResults_7 : decode cX2_endResults 7 = .ok (.aload_n 0, 1) := by decide +kernel
theorem dX2_endResults_8 : decode cX2_endResults 8 = .ok (.getfield 23, 3) := by decide +kernel
theorem dX2_endResults_11 : decode cX2_endResults 11 = .ok (.invokevirtual 189, 3) := by decide +kernel
theorem dX2_endResults_14 : decode cX2_endResults 14 = .ok (.aload_n 0, 1) := by decide +kernel
theorem dX2_endResults_15 : decode cX2_endResults 15 = .ok (.invokevirtual 95, 3) := by decide +kernel
theorem dX2_endResults_18 : decode cX2_endResults 18 = .ok (.getfield 99, 3) := by decide +kernel
theorem dX2_endResults_21 : decode cX2_endResults 21 = .ok (.ifCond .le 11, 3) := by decide +kernel
theorem dX2_endResults_24 : decode cX2_endResults 24 = .ok (.aload_n 0, 1) := by decide +kernel
theorem dX2_endResults_25 : decode cX2_endResults 25 = .ok (.aload_n 0, 1) := by decide +kernel
theorem dX2_endResults_26 : decode cX2_endResults 26 = .ok (.getfield 92, 3) := by decide +kernel
theorem dX2_endResults_29 : decode cX2_endResults 29 = .ok (.invokevirtual 196, 3) := by decide +kernel
theorem dX2_endResults_32 : decode cX2_endResults 32 = .ok (.aload_n 0, 1) := by decide +kernel
theorem dX2_endResults_33 : decode cX2_endResults 33 = .ok (.iconst 1, 1) := by decide +kernel
theorem dX2_endResults_34 : decode cX2_endResults 34 = .ok (.putfield 113, 3) := by decide +kernel
theorem dX2_endResults_37 : decode cX2_endResults 37 = .ok (.aload_n 0, 1) := by decide +kernel
theorem dX2_endResults_38 : decode cX2_endResults 38 = .ok (.getfield 23, 3) := by decide +kernel
theorem dX2_endResults_41 : decode cX2_endResults 41 = .ok (.areturn, 1) := by decide +kernel
set_option maxRecDepth 20000 in
theorem ggX2_followOrders_X1_first : GoodIn wsX2_followOrders wsX1_first := goodIn_r _ [8, 9, 75, 76] (by decide +kernel) (by decide +kernel)
set_option maxRecDepth 20000 in
theorem gX2_followOrders_X1_first : GoodIn wsX2_followOrders (wsV RX2 199 RX1 yX1_first wsX1_first) := goodIn_app (goodIn_of _ (by decide +kernel)) ggX2_followOrders_X1_first
set_option maxRecDepth 20000 in
theorem ggX2_followOrders_X1_add : GoodIn wsX2_followOrders wsX1_add := goodIn_r _ [13, 14, 9, 75, 76] (by decide +kernel) (by decide +kernel)
set_option maxRecDepth 20000 in
theorem gX2_followOrders_X1_add : GoodIn wsX2_followOrders (wsV RX2 202 RX1 yX1_add wsX1_add) := goodIn_app (goodIn_of _ (by decide +kernel)) ggX2_followOrders_X1_add
set_option maxRecDepth 20000 in
theorem ggX2_followOrders_X2_left : GoodIn wsX2_followOrders wsX2_left := goodIn_r _ [19, 20, 21, 22, 18, 23, 1, 24, 25, 26, 27, 28, 66, 67, 68, 69, 70, 71, 72, 73, 74, 77, 78, 79, 80, 81, 82, 83, 84, 85] (by decide +kernel) (by decide +kernel)
set_option maxRecDepth 20000 in
theorem gX2_followOrders_X2_left : GoodIn wsX2_followOrders (wsV RX2 205 RX2 yX2_left wsX2_left) := goodIn_app (goodIn_of _ (by decide +kernel)) ggX2_followOrders_X2_left
set_option maxRecDepth 20000 in
theorem ggX2_followOrders_X2_findBall : GoodIn wsX2_followOrders wsX2_findBall := goodIn_r _ [32, 1, 28, 20, 21, 22, 18, 23, 24, 25, 26, 27, 66, 67, 68, 69, 70, 71, 72, 73, 74, 77, 78, 79, 80, 81, 82, 83, 84, 85] (by decide +kernel) (by decide +kernel)
set_option maxRecDepth 20000 in
theorem gX2_followOrders_X2_findBall : GoodIn wsX2_followOrders (wsV RX2 107 RX2 yX2_findBall wsX2_findBall) := goodIn_app (goodIn_of _ (by decide +kernel)) ggX2_followOrders_X2_findBall
set_option maxRecDepth 20000 in
theorem ggX2_followOrders_X2_followBall : GoodIn wsX2_followOrders wsX2_followBall := goodIn_r _ [36, 37, 38, 39, 18, 40, 3, 41, 42, 28, 43, 44, 45, 46, 7, 47, 14, 9, 48, 49, 50, 51, 52, 53, 54, 55, 56, 57, 58, 59, 60, 61, 62, 63, 64, 65, 0, 1, 2, 4, 5, 6, 8, 10, 11, 12, 13, 15, 16, 17, 19, 20, 21, 22, 23, 24, 25, 26, 27, 29, 30, 31, 32, 33, 34, 35, 66, 67, 68, 69, 70, 71, 72, 73, 74, 75, 76, 77, 78, 79, 80, 81, 82, 83, 84, 85] (by decide +kernel) (by decide +kernel)
set_option maxRecDepth 20000 in
theorem gX2_followOrders_X2_followBall : GoodIn wsX2_followOrders (wsV RX2 208 RX2 yX2_followBall wsX2_followBall) := goodIn_app (goodIn_of _ (by decide +kernel)) ggX2_followOrders_X2_followBall
theorem dX2_followOrders_0 : decode cX2_followOrders 0 = .ok (.iload_n 1, 1) := by decide +kernel
theorem dX2_followOrders_1 : decode cX2_followOrders 1 = .ok (.aload_n 0, 1) := by decide +kernel
theorem dX2_followOrders_2 : decode cX2_followOrders 2 = .ok (.getfield 10, 3) := by decide +kernel
theorem dX2_followOrders_5 : decode cX2_followOrders 5 = .ok (.getfield 47, 3) := by decide +kernel
theorem dX2_followOrders_8 : decode cX2_followOrders 8 = .ok (.if_icmp .lt 18, 3) := by decide +kernel
theorem dX2_followOrders_11 : decode cX2_followOrders 11 = .ok (.aload_n 0, 1) := by decide +kernel
theorem dX2_followOrders_12 : decode cX2_followOrders 12 = .ok (.getfield 23, 3) := by decide +kernel
theorem dX2_followOrders_15 : decode cX2_followOrders 15 = .ok (.aload_n 0, 1) := by decide +kernel
theorem dX2_followOrders_16 : decode cX2_followOrders 16 = .ok (.getfield 19, 3) := by decide +kernel
theorem dX2_followOrders_19 : decode cX2_followOrders 19 = .ok (.invokevirtual 199, 3) := by decide +kernel
theorem dX2_followOrders_22 : decode cX2_followOrders 22 = .ok (.invokevirtual 202, 3) := by decide +kernel
theorem dX2_followOrders_25 : decode cX2_followOrders 25 = .ok (.return_, 1) := by decide +kernel
theorem dX2_followOrders_26 : decode cX2_followOrders 26 = .ok (.aload_n 0, 1) := by decide +kernel
theorem dX2_followOrders_27 : decode cX2_followOrders 27 = .ok (.invokevirtual 205, 3) := by decide +kernel
theorem dX2_followOrders_30 : decode cX2_followOrders 30 = .ok (.istore_n 2, 1) := by decide +kernel
theorem dX2_followOrders_31 : decode cX2_followOrders 31 = .ok (.iconst 0, 1) := by decide +kernel
theorem dX2_followOrders_32 : decode cX2_followOrders 32 = .ok (.istore_n 3, 1) := by decide +kernel
theorem dX2_followOrders_33 : decode cX2_followOrders 33 = .ok (.iload_n 3, 1) := by decide +kernel
theorem dX2_followOrders_34 : decode cX2_followOrders 34 = .ok (.iload_n 2, 1) := by decide +kernel
theorem dX2_followOrders_35 : decode cX2_followOrders 35 = .ok (.if_icmp .ge 19, 3) := by decide +kernel
theorem dX2_followOrders_38 : decode cX2_followOrders 38 = .ok (.aload_n 0, 1) := by decide +kernel
theorem dX2_followOrders_39 : decode cX2_followOrders 39 = .ok (.aload_n 0, 1) := by decide +kernel
theorem dX2_followOrders_40 : decode cX2_followOrders 40 = .ok (.iload_n 3, 1) := by decide +kernel
theorem dX2_followOrders_41 : decode cX2_followOrders 41 = .ok (.invokevirtual 107, 3) := by decide +kernel
theorem dX2_followOrders_44 : decode cX2_followOrders 44 = .ok (.iload_n 1, 1) := by decide +kernel
theorem dX2_followOrders_45 : decode cX2_followOrders 45 = .ok (.invokevirtual 208, 3) := by decide +kernel
theorem dX2_followOrders_48 : decode cX2_followOrders 48 = .ok (.iinc 3 1, 3) := by decide +kernel
theorem dX2_followOrders_51 : decode cX2_followOrders 51 = .ok (.goto (-18), 3) := by decide +kernel
theorem dX2_followOrders_54 : decode cX2_followOrders 54 = .ok (.return_, 1) := by decide +kernel
set_option maxRecDepth 20000 in
theorem ggX2_followBall_X2_seat : GoodIn wsX2_followBall wsX2_seat := goodIn_r _ [5, 6, 7, 8, 9, 10, 11, 12, 13, 14, 15, 16, 17, 18, 19, 20, 21, 22, 23, 24, 66, 67, 68, 69, 70, 71, 72, 73, 74, 75, 76] (by decide +kernel) (by decide +kernel)
set_option maxRecDepth 20000 in
theorem gX2_followBall_X2_seat : GoodIn wsX2_followBall (wsV RX2 117 RX2 yX2_seat wsX2_seat) := goodIn_app (goodIn_of _ (by decide +kernel)) ggX2_followBall_X2_seat
set_option maxRecDepth 20000 in
theorem ggX2_followBall_X2_followOrders : GoodIn wsX2_followBall wsX2_followOrders := goodIn_r _ [36, 37, 38, 6, 39, 40, 41, 14, 42, 17, 43, 44, 45, 46, 16, 47, 48, 49, 4, 50, 51, 52, 53, 54, 55, 56, 57, 58, 9, 59, 60, 61, 62, 63, 64, 65, 0, 1, 2, 3, 5, 7, 8, 10, 11, 12, 13, 15, 18, 19, 20, 21, 22, 23, 24, 25, 26, 27, 28, 29, 30, 31, 32, 33, 34, 35, 66, 67, 68, 69, 70, 71, 72, 73, 74, 75, 76, 77, 78, 79, 80, 81, 82, 83, 84, 85] (by decide +kernel) (by decide +kernel)
set_option maxRecDepth 20000 in
theorem gX2_followBall_X2_followOrders : GoodIn wsX2_followBall (wsV RX2 196 RX2 yX2_followOrders wsX2_followOrders) := goodIn_app (goodIn_of _ (by decide +kernel)) ggX2_followBall_X2_followOrders
set_option maxRecDepth 20000 in
theorem ggX2_followBall_X2_unseat : GoodIn wsX2_followBall wsX2_unseat := goodIn_r _ [31, 8, 10, 9, 6, 7, 32, 33, 34, 14, 35, 16, 66, 67, 68, 69, 70, 71, 72, 73, 74, 75, 76] (by decide +kernel) (by decide +kernel)
set_option maxRecDepth 20000 in
theorem gX2_followBall_X2_unseat : GoodIn wsX2_followBall (wsV RX2 123 RX2 yX2_unseat wsX2_unseat) := goodIn_app (goodIn_of _ (by decide +kernel)) ggX2_followBall_X2_unseat
theorem dX2_followBall_0 : decode cX2_followBall 0 = .ok (.iload_n 1, 1) := by decide +kernel
theorem dX2_followBall_1 : decode cX2_followBall 1 = .ok (.iconst (-1), 1) := by decide +kernel
theorem dX2_followBall_2 : decode cX2_followBall 2 = .ok (.if_icmp .eq 20, 3) := by decide +kernel
theorem dX2_followBall_5 : decode cX2_followBall 5 = .ok (.aload_n 0, 1) := by decide +kernel
theorem dX2_followBall_6 : decode cX2_followBall 6 = .ok (.iload_n 1, 1) := by decide +kernel
theorem dX2_followBall_7 : decode cX2_followBall 7 = .ok (.invokevirtual 117, 3) := by decide +kernel
theorem dX2_followBall_10 : decode cX2_followBall 10 = .ok (.aload_n 0, 1) := by decide +kernel
theorem dX2_followBall_11 : decode cX2_followBall 11 = .ok (.iload_n 2, 1) := by decide +kernel
theorem dX2_followBall_12 : decode cX2_followBall 12 = .ok (.iconst 1, 1) := by decide +kernel
theorem dX2_followBall_13 : decode cX2_followBall 13 = .ok (.iadd, 1) := by decide +kernel
theorem dX2_followBall_14 : decode cX2_followBall 14 = .ok (.invokevirtual 196, 3) := by decide +kernel
theorem dX2_followBall_17 : decode cX2_followBall 17 = .ok (.aload_n 0, 1) := by decide +kernel
theorem dX2_followBall_18 : decode cX2_followBall 18 = .ok (.invokevirtual 123, 3) := by decide +kernel
theorem dX2_followBall_21 : decode cX2_followBall 21 = .ok (.pop, 1) := by decide +kernel
theorem dX2_followBall_22 : decode cX2_followBall 22 = .ok (.return_, 1) := by decide +kernel
