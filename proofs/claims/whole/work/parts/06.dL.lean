theorem dL_lay_0 : decode cL_lay 0 = .ok (.aload_n 3, 1) := by decide +kernel
theorem dL_lay_1 : decode cL_lay 1 = .ok (.iconst 0, 1) := by decide +kernel
theorem dL_lay_2 : decode cL_lay 2 = .ok (.aload_n 0, 1) := by decide +kernel
theorem dL_lay_3 : decode cL_lay 3 = .ok (.iload_n 1, 1) := by decide +kernel
theorem dL_lay_4 : decode cL_lay 4 = .ok (.iload_n 2, 1) := by decide +kernel
theorem dL_lay_5 : decode cL_lay 5 = .ok (.invokevirtual 7, 3) := by decide +kernel
theorem dL_lay_8 : decode cL_lay 8 = .ok (.i2l, 1) := by decide +kernel
theorem dL_lay_9 : decode cL_lay 9 = .ok (.lastore, 1) := by decide +kernel
theorem dL_lay_10 : decode cL_lay 10 = .ok (.goto 7, 3) := by decide +kernel
theorem dL_lay_13 : decode cL_lay 13 = .ok (.astore 4, 2) := by decide +kernel
theorem dL_lay_15 : decode cL_lay 15 = .ok (.iconst 1, 1) := by decide +kernel
theorem dL_lay_16 : decode cL_lay 16 = .ok (.ireturn, 1) := by decide +kernel
theorem dL_lay_17 : decode cL_lay 17 = .ok (.iconst 0, 1) := by decide +kernel
theorem dL_lay_18 : decode cL_lay 18 = .ok (.ireturn, 1) := by decide +kernel
set_option maxRecDepth 20000 in
theorem ggL_setRegion_X2_setRegion : GoodIn wsL_setRegion wsX2_setRegion := goodIn_ca (goodIn_ca (goodIn_r _ [7, 8, 9, 10, 11, 12, 13, 14, 15, 16, 17, 18, 19, 20, 21, 22, 23, 6, 24, 25, 26, 27, 28, 29, 30, 31, 32, 33, 34, 35, 36, 37, 38, 39, 40, 41, 42, 43, 44, 45, 46, 47, 48, 49, 50, 51] (by decide +kernel) (by decide +kernel)) (goodIn_sub (fun _ h => List.mem_cons_of_mem _ (List.mem_append_left _ (List.mem_append_right _ h))) (by decide +kernel))) (goodIn_sub (fun _ h => List.mem_cons_of_mem _ (List.mem_append_right _ h)) (by decide +kernel))
set_option maxRecDepth 20000 in
theorem gL_setRegion_X2_setRegion : GoodIn wsL_setRegion (wsV RL 15 RX2 yX2_setRegion wsX2_setRegion) := goodIn_app (goodIn_of _ (by decide +kernel)) ggL_setRegion_X2_setRegion
theorem dL_setRegion_0 : decode cL_setRegion 0 = .ok (.aload_n 3, 1) := by decide +kernel
theorem dL_setRegion_1 : decode cL_setRegion 1 = .ok (.iconst 0, 1) := by decide +kernel
theorem dL_setRegion_2 : decode cL_setRegion 2 = .ok (.aload_n 0, 1) := by decide +kernel
theorem dL_setRegion_3 : decode cL_setRegion 3 = .ok (.iload_n 1, 1) := by decide +kernel
theorem dL_setRegion_4 : decode cL_setRegion 4 = .ok (.iload_n 2, 1) := by decide +kernel
theorem dL_setRegion_5 : decode cL_setRegion 5 = .ok (.invokevirtual 15, 3) := by decide +kernel
theorem dL_setRegion_8 : decode cL_setRegion 8 = .ok (.i2l, 1) := by decide +kernel
theorem dL_setRegion_9 : decode cL_setRegion 9 = .ok (.lastore, 1) := by decide +kernel
theorem dL_setRegion_10 : decode cL_setRegion 10 = .ok (.goto 11, 3) := by decide +kernel
theorem dL_setRegion_13 : decode cL_setRegion 13 = .ok (.astore 4, 2) := by decide +kernel
theorem dL_setRegion_15 : decode cL_setRegion 15 = .ok (.iconst 1, 1) := by decide +kernel
theorem dL_setRegion_16 : decode cL_setRegion 16 = .ok (.ireturn, 1) := by decide +kernel
theorem dL_setRegion_17 : decode cL_setRegion 17 = .ok (.astore 4, 2) := by decide +kernel
theorem dL_setRegion_19 : decode cL_setRegion 19 = .ok (.iconst 2, 1) := by decide +kernel
theorem dL_setRegion_20 : decode cL_setRegion 20 = .ok (.ireturn, 1) := by decide +kernel
theorem dL_setRegion_21 : decode cL_setRegion 21 = .ok (.iconst 0, 1) := by decide +kernel
theorem dL_setRegion_22 : decode cL_setRegion 22 = .ok (.ireturn, 1) := by decide +kernel
set_option maxRecDepth 20000 in
theorem ggL_setBound_X2_setBound : GoodIn wsL_setBound wsX2_setBound := goodIn_ca (goodIn_ca (goodIn_ca (goodIn_r _ [8, 9, 10, 11, 12, 13, 14, 15, 16, 17, 18, 19, 20, 21, 7, 22, 23, 24, 25, 26, 27, 28, 29, 30, 31, 32, 33, 34, 35, 36, 37, 38, 39, 40, 41, 42, 43, 44, 45, 46, 47, 48, 49] (by decide +kernel) (by decide +kernel)) (goodIn_sub (fun _ h => List.mem_cons_of_mem _ (List.mem_append_left _ (List.mem_append_left _ (List.mem_append_right _ h)))) (by decide +kernel))) (goodIn_sub (fun _ h => List.mem_cons_of_mem _ (List.mem_append_left _ (List.mem_append_right _ h))) (by decide +kernel))) (goodIn_sub (fun _ h => List.mem_cons_of_mem _ (List.mem_append_right _ h)) (by decide +kernel))
set_option maxRecDepth 20000 in
theorem gL_setBound_X2_setBound : GoodIn wsL_setBound (wsV RL 22 RX2 yX2_setBound wsX2_setBound) := goodIn_app (goodIn_of _ (by decide +kernel)) ggL_setBound_X2_setBound
theorem dL_setBound_0 : decode cL_setBound 0 = .ok (.aload_n 3, 1) := by decide +kernel
theorem dL_setBound_1 : decode cL_setBound 1 = .ok (.iconst 0, 1) := by decide +kernel
theorem dL_setBound_2 : decode cL_setBound 2 = .ok (.aload_n 0, 1) := by decide +kernel
theorem dL_setBound_3 : decode cL_setBound 3 = .ok (.iload_n 1, 1) := by decide +kernel
theorem dL_setBound_4 : decode cL_setBound 4 = .ok (.iload_n 2, 1) := by decide +kernel
theorem dL_setBound_5 : decode cL_setBound 5 = .ok (.invokevirtual 22, 3) := by decide +kernel
theorem dL_setBound_8 : decode cL_setBound 8 = .ok (.i2l, 1) := by decide +kernel
theorem dL_setBound_9 : decode cL_setBound 9 = .ok (.lastore, 1) := by decide +kernel
theorem dL_setBound_10 : decode cL_setBound 10 = .ok (.goto 15, 3) := by decide +kernel
theorem dL_setBound_13 : decode cL_setBound 13 = .ok (.astore 4, 2) := by decide +kernel
theorem dL_setBound_15 : decode cL_setBound 15 = .ok (.iconst 1, 1) := by decide +kernel
theorem dL_setBound_16 : decode cL_setBound 16 = .ok (.ireturn, 1) := by decide +kernel
theorem dL_setBound_17 : decode cL_setBound 17 = .ok (.astore 4, 2) := by decide +kernel
theorem dL_setBound_19 : decode cL_setBound 19 = .ok (.iconst 2, 1) := by decide +kernel
theorem dL_setBound_20 : decode cL_setBound 20 = .ok (.ireturn, 1) := by decide +kernel
theorem dL_setBound_21 : decode cL_setBound 21 = .ok (.astore 4, 2) := by decide +kernel
theorem dL_setBound_23 : decode cL_setBound 23 = .ok (.iconst 3, 1) := by decide +kernel
theorem dL_setBound_24 : decode cL_setBound 24 = .ok (.ireturn, 1) := by decide +kernel
theorem dL_setBound_25 : decode cL_setBound 25 = .ok (.iconst 0, 1) := by decide +kernel
theorem dL_setBound_26 : decode cL_setBound 26 = .ok (.ireturn, 1) := by decide +kernel
set_option maxRecDepth 20000 in
theorem ggL_setApart_X2_setApart : GoodIn wsL_setApart wsX2_setApart := goodIn_ca (goodIn_ca (goodIn_ca (goodIn_r _ [8, 9, 10, 11, 12, 7, 13, 14, 15, 16, 17, 18, 19, 20, 21, 22, 23, 24, 25, 26, 27, 28, 29, 30, 31, 32, 33, 34, 35, 36, 37, 38, 39, 40, 41, 42, 43, 44, 45, 46, 47, 48, 49, 50, 51, 52, 53, 54, 55, 56, 57, 58, 59, 60, 61] (by decide +kernel) (by decide +kernel)) (goodIn_sub (fun _ h => List.mem_cons_of_mem _ (List.mem_append_left _ (List.mem_append_left _ (List.mem_append_right _ h)))) (by decide +kernel))) (goodIn_sub (fun _ h => List.mem_cons_of_mem _ (List.mem_append_left _ (List.mem_append_right _ h))) (by decide +kernel))) (goodIn_sub (fun _ h => List.mem_cons_of_mem _ (List.mem_append_right _ h)) (by decide +kernel))
set_option maxRecDepth 20000 in
theorem gL_setApart_X2_setApart : GoodIn wsL_setApart (wsV RL 25 RX2 yX2_setApart wsX2_setApart) := goodIn_app (goodIn_of _ (by decide +kernel)) ggL_setApart_X2_setApart
theorem dL_setApart_0 : decode cL_setApart 0 = .ok (.aload 4, 2) := by decide +kernel
theorem dL_setApart_2 : decode cL_setApart 2 = .ok (.iconst 0, 1) := by decide +kernel
theorem dL_setApart_3 : decode cL_setApart 3 = .ok (.aload_n 0, 1) := by decide +kernel
theorem dL_setApart_4 : decode cL_setApart 4 = .ok (.iload_n 1, 1) := by decide +kernel
theorem dL_setApart_5 : decode cL_setApart 5 = .ok (.iload_n 2, 1) := by decide +kernel
theorem dL_setApart_6 : decode cL_setApart 6 = .ok (.iload_n 3, 1) := by decide +kernel
theorem dL_setApart_7 : decode cL_setApart 7 = .ok (.invokevirtual 25, 3) := by decide +kernel
theorem dL_setApart_10 : decode cL_setApart 10 = .ok (.ifCond .eq 7, 3) := by decide +kernel
theorem dL_setApart_13 : decode cL_setApart 13 = .ok (.lconst 1, 1) := by decide +kernel
theorem dL_setApart_14 : decode cL_setApart 14 = .ok (.goto 4, 3) := by decide +kernel
theorem dL_setApart_17 : decode cL_setApart 17 = .ok (.lconst 0, 1) := by decide +kernel
theorem dL_setApart_18 : decode cL_setApart 18 = .ok (.lastore, 1) := by decide +kernel
theorem dL_setApart_19 : decode cL_setApart 19 = .ok (.goto 15, 3) := by decide +kernel
theorem dL_setApart_22 : decode cL_setApart 22 = .ok (.astore 5, 2) := by decide +kernel
theorem dL_setApart_24 : decode cL_setApart 24 = .ok (.iconst 1, 1) := by decide +kernel
theorem dL_setApart_25 : decode cL_setApart 25 = .ok (.ireturn, 1) := by decide +kernel
theorem dL_setApart_26 : decode cL_setApart 26 = .ok (.astore 5, 2) := by decide +kernel
theorem dL_setApart_28 : decode cL_setApart 28 = .ok (.iconst 2, 1) := by decide +kernel
theorem dL_setApart_29 : decode cL_setApart 29 = .ok (.ireturn, 1) := by decide +kernel
theorem dL_setApart_30 : decode cL_setApart 30 = .ok (.astore 5, 2) := by decide +kernel
theorem dL_setApart_32 : decode cL_setApart 32 = .ok (.iconst 3, 1) := by decide +kernel
theorem dL_setApart_33 : decode cL_setApart 33 = .ok (.ireturn, 1) := by decide +kernel
theorem dL_setApart_34 : decode cL_setApart 34 = .ok (.iconst 0, 1) := by decide +kernel
theorem dL_setApart_35 : decode cL_setApart 35 = .ok (.ireturn, 1) := by decide +kernel
set_option maxRecDepth 20000 in
theorem ggL_setOtherDays_X2_setOtherDays : GoodIn wsL_setOtherDays wsX2_setOtherDays := goodIn_ca (goodIn_ca (goodIn_ca (goodIn_r _ [8, 9, 10, 11, 12, 7, 13, 14, 15, 16, 17, 18, 19, 20, 21, 22, 23, 24, 25, 26, 27, 28, 29, 30, 31, 32, 33, 34, 35, 36, 37, 38, 39, 40, 41, 42, 43, 44, 45, 46, 47, 48, 49, 50, 51, 52, 53, 54, 55, 56, 57, 58, 59, 60, 61] (by decide +kernel) (by decide +kernel)) (goodIn_sub (fun _ h => List.mem_cons_of_mem _ (List.mem_append_left _ (List.mem_append_left _ (List.mem_append_right _ h)))) (by decide +kernel))) (goodIn_sub (fun _ h => List.mem_cons_of_mem _ (List.mem_append_left _ (List.mem_append_right _ h))) (by decide +kernel))) (goodIn_sub (fun _ h => List.mem_cons_of_mem _ (List.mem_append_right _ h)) (by decide +kernel))
set_option maxRecDepth 20000 in
theorem gL_setOtherDays_X2_setOtherDays : GoodIn wsL_setOtherDays (wsV RL 29 RX2 yX2_setOtherDays wsX2_setOtherDays) := goodIn_app (goodIn_of _ (by decide +kernel)) ggL_setOtherDays_X2_setOtherDays
theorem dL_setOtherDays_0 : decode cL_setOtherDays 0 = .ok (.aload 4, 2) := by decide +kernel
theorem dL_setOtherDays_2 : decode cL_setOtherDays 2 = .ok (.iconst 0, 1) := by decide +kernel
theorem dL_setOtherDays_3 : decode cL_setOtherDays 3 = .ok (.aload_n 0, 1) := by decide +kernel
theorem dL_setOtherDays_4 : decode cL_setOtherDays 4 = .ok (.iload_n 1, 1) := by decide +kernel
theorem dL_setOtherDays_5 : decode cL_setOtherDays 5 = .ok (.iload_n 2, 1) := by decide +kernel
theorem dL_setOtherDays_6 : decode cL_setOtherDays 6 = .ok (.iload_n 3, 1) := by decide +kernel
theorem dL_setOtherDays_7 : decode cL_setOtherDays 7 = .ok (.invokevirtual 29, 3) := by decide +kernel
theorem dL_setOtherDays_10 : decode cL_setOtherDays 10 = .ok (.ifCond .eq 7, 3) := by decide +kernel
theorem dL_setOtherDays_13 : decode cL_setOtherDays 13 = .ok (.lconst 1, 1) := by decide +kernel
theorem dL_setOtherDays_14 : decode cL_setOtherDays 14 = .ok (.goto 4, 3) := by decide +kernel
theorem dL_setOtherDays_17 : decode cL_setOtherDays 17 = .ok (.lconst 0, 1) := by decide +kernel
theorem dL_setOtherDays_18 : decode cL_setOtherDays 18 = .ok (.lastore, 1) := by decide +kernel
theorem dL_setOtherDays_19 : decode cL_setOtherDays 19 = .ok (.goto 15, 3) := by decide +kernel
theorem dL_setOtherDays_22 : decode cL_setOtherDays 22 = .ok (.astore 5, 2) := by decide +kernel
theorem dL_setOtherDays_24 : decode cL_setOtherDays 24 = .ok (.iconst 1, 1) := by decide +kernel
theorem dL_setOtherDays_25 : decode cL_setOtherDays 25 = .ok (.ireturn, 1) := by decide +kernel
theorem dL_setOtherDays_26 : decode cL_setOtherDays 26 = .ok (.astore 5, 2) := by decide +kernel
theorem dL_setOtherDays_28 : decode cL_setOtherDays 28 = .ok (.iconst 2, 1) := by decide +kernel
theorem dL_setOtherDays_29 : decode cL_setOtherDays 29 = .ok (.ireturn, 1) := by decide +kernel
theorem dL_setOtherDays_30 : decode cL_setOtherDays 30 = .ok (.astore 5, 2) := by decide +kernel
theorem dL_setOtherDays_32 : decode cL_setOtherDays 32 = .ok (.iconst 3, 1) := by decide +kernel
theorem dL_setOtherDays_33 : decode cL_setOtherDays 33 = .ok (.ireturn, 1) := by decide +kernel
theorem dL_setOtherDays_34 : decode cL_setOtherDays 34 = .ok (.iconst 0, 1) := by decide +kernel
theorem dL_setOtherDays_35 : decode cL_setOtherDays 35 = .ok (.ireturn, 1) := by decide +kernel
set_option maxRecDepth 20000 in
theorem ggL_draw_X2_draw : GoodIn wsL_draw wsX2_draw := goodIn_ca (goodIn_ca (goodIn_r _ [7, 8, 9, 10, 11, 12, 13, 14, 15, 16, 17, 18, 6, 19, 20, 21, 22, 23, 24, 25, 26, 27, 28, 29, 30, 31, 32, 33, 34, 35, 36, 37, 38, 39, 40, 41, 42, 43, 44, 45, 46, 47, 48, 49, 50, 51, 52, 53, 54, 55, 56, 57, 58, 59, 60, 61, 62, 63, 64, 65, 66, 67, 68, 69, 70, 71, 72, 73, 74, 75, 76, 77, 78, 79, 80, 81, 82, 83, 84, 85, 86, 87, 88, 89, 90, 91, 92, 93, 94, 95, 96, 97, 98, 99, 100, 101, 102, 103, 104, 105, 106, 107, 108, 109, 110, 111, 112, 113, 114, 115, 116, 117] (by decide +kernel) (by decide +kernel)) (goodIn_sub (fun _ h => List.mem_cons_of_mem _ (List.mem_append_left _ (List.mem_append_right _ h))) (by decide +kernel))) (goodIn_sub (fun _ h => List.mem_cons_of_mem _ (List.mem_append_right _ h)) (by decide +kernel))
set_option maxRecDepth 20000 in
theorem gL_draw_X2_draw : GoodIn wsL_draw (wsV RL 32 RX2 yX2_draw wsX2_draw) := goodIn_app (goodIn_of _ (by decide +kernel)) ggL_draw_X2_draw
theorem dL_draw_0 : decode cL_draw 0 = .ok (.aload_n 2, 1) := by decide +kernel
theorem dL_draw_1 : decode cL_draw 1 = .ok (.iconst 0, 1) := by decide +kernel
theorem dL_draw_2 : decode cL_draw 2 = .ok (.aload_n 0, 1) := by decide +kernel
theorem dL_draw_3 : decode cL_draw 3 = .ok (.iload_n 1, 1) := by decide +kernel
theorem dL_draw_4 : decode cL_draw 4 = .ok (.invokevirtual 32, 3) := by decide +kernel
theorem dL_draw_7 : decode cL_draw 7 = .ok (.i2l, 1) := by decide +kernel
theorem dL_draw_8 : decode cL_draw 8 = .ok (.lastore, 1) := by decide +kernel
theorem dL_draw_9 : decode cL_draw 9 = .ok (.goto 9, 3) := by decide +kernel
theorem dL_draw_12 : decode cL_draw 12 = .ok (.astore_n 3, 1) := by decide +kernel
theorem dL_draw_13 : decode cL_draw 13 = .ok (.iconst 1, 1) := by decide +kernel
theorem dL_draw_14 : decode cL_draw 14 = .ok (.ireturn, 1) := by decide +kernel
theorem dL_draw_15 : decode cL_draw 15 = .ok (.astore_n 3, 1) := by decide +kernel
theorem dL_draw_16 : decode cL_draw 16 = .ok (.iconst 2, 1) := by decide +kernel
theorem dL_draw_17 : decode cL_draw 17 = .ok (.ireturn, 1) := by decide +kernel
theorem dL_draw_18 : decode cL_draw 18 = .ok (.iconst 0, 1) := by decide +kernel
theorem dL_draw_19 : decode cL_draw 19 = .ok (.ireturn, 1) := by decide +kernel
set_option maxRecDepth 20000 in
theorem ggL_undo_X2_undo : GoodIn wsL_undo wsX2_undo := goodIn_ca (goodIn_r _ [6, 7, 8, 9, 10, 11, 12, 13, 5, 14, 15, 16, 17, 18, 19, 20, 21, 22, 23, 24, 25, 26, 27, 28, 29, 30, 31, 32, 33, 34, 35] (by decide +kernel) (by decide +kernel)) (goodIn_sub (fun _ h => List.mem_cons_of_mem _ (List.mem_append_right _ h)) (by decide +kernel))
set_option maxRecDepth 20000 in
theorem gL_undo_X2_undo : GoodIn wsL_undo (wsV RL 36 RX2 yX2_undo wsX2_undo) := goodIn_app (goodIn_of _ (by decide +kernel)) ggL_undo_X2_undo
theorem dL_undo_0 : decode cL_undo 0 = .ok (.aload_n 1, 1) := by decide +kernel
theorem dL_undo_1 : decode cL_undo 1 = .ok (.iconst 0, 1) := by decide +kernel
theorem dL_undo_2 : decode cL_undo 2 = .ok (.aload_n 0, 1) := by decide +kernel
theorem dL_undo_3 : decode cL_undo 3 = .ok (.invokevirtual 36, 3) := by decide +kernel
theorem dL_undo_6 : decode cL_undo 6 = .ok (.i2l, 1) := by decide +kernel
theorem dL_undo_7 : decode cL_undo 7 = .ok (.lastore, 1) := by decide +kernel
theorem dL_undo_8 : decode cL_undo 8 = .ok (.goto 6, 3) := by decide +kernel
theorem dL_undo_11 : decode cL_undo 11 = .ok (.astore_n 2, 1) := by decide +kernel
theorem dL_undo_12 : decode cL_undo 12 = .ok (.iconst 1, 1) := by decide +kernel
theorem dL_undo_13 : decode cL_undo 13 = .ok (.ireturn, 1) := by decide +kernel
theorem dL_undo_14 : decode cL_undo 14 = .ok (.iconst 0, 1) := by decide +kernel
theorem dL_undo_15 : decode cL_undo 15 = .ok (.ireturn, 1) := by decide +kernel
set_option maxRecDepth 20000 in
theorem ggL_ballAt_X2_ballAt : GoodIn wsL_ballAt wsX2_ballAt := goodIn_ca (goodIn_r _ [6, 7, 8, 9, 10, 11, 5, 12, 13, 14, 15, 16, 17, 18, 19, 20, 21, 22, 23, 24, 25, 26, 27, 28, 29, 30, 31, 32, 33, 34, 35, 36, 37, 38, 39, 40] (by decide +kernel) (by decide +kernel)) (goodIn_sub (fun _ h => List.mem_cons_of_mem _ (List.mem_append_right _ h)) (by decide +kernel))
set_option maxRecDepth 20000 in
theorem gL_ballAt_X2_ballAt : GoodIn wsL_ballAt (wsV RL 40 RX2 yX2_ballAt wsX2_ballAt) := goodIn_app (goodIn_of _ (by decide +kernel)) ggL_ballAt_X2_ballAt
theorem dL_ballAt_0 : decode cL_ballAt 0 = .ok (.aload_n 2, 1) := by decide +kernel
theorem dL_ballAt_1 : decode cL_ballAt 1 = .ok (.iconst 0, 1) := by decide +kernel
theorem dL_ballAt_2 : decode cL_ballAt 2 = .ok (.aload_n 0, 1) := by decide +kernel
theorem dL_ballAt_3 : decode cL_ballAt 3 = .ok (.iload_n 1, 1) := by decide +kernel
theorem dL_ballAt_4 : decode cL_ballAt 4 = .ok (.invokevirtual 40, 3) := by decide +kernel
theorem dL_ballAt_7 : decode cL_ballAt 7 = .ok (.i2l, 1) := by decide +kernel
theorem dL_ballAt_8 : decode cL_ballAt 8 = .ok (.lastore, 1) := by decide +kernel
theorem dL_ballAt_9 : decode cL_ballAt 9 = .ok (.goto 6, 3) := by decide +kernel
theorem dL_ballAt_12 : decode cL_ballAt 12 = .ok (.astore_n 3, 1) := by decide +kernel
theorem dL_ballAt_13 : decode cL_ballAt 13 = .ok (.iconst 1, 1) := by decide +kernel
theorem dL_ballAt_14 : decode cL_ballAt 14 = .ok (.ireturn, 1) := by decide +kernel
theorem dL_ballAt_15 : decode cL_ballAt 15 = .ok (.iconst 0, 1) := by decide +kernel
theorem dL_ballAt_16 : decode cL_ballAt 16 = .ok (.ireturn, 1) := by decide +kernel
set_option maxRecDepth 20000 in
theorem ggL_groupOf_X2_groupOf : GoodIn wsL_groupOf wsX2_groupOf := goodIn_ca (goodIn_r _ [6, 7, 8, 9, 10, 5, 11, 12, 13, 14, 15, 16, 17, 18, 19, 20, 21, 22, 23, 24, 25, 26, 27, 28, 29, 30, 31, 32, 33, 34, 35, 36, 37, 38] (by decide +kernel) (by decide +kernel)) (goodIn_sub (fun _ h => List.mem_cons_of_mem _ (List.mem_append_right _ h)) (by decide +kernel))
set_option maxRecDepth 20000 in
theorem gL_groupOf_X2_groupOf : GoodIn wsL_groupOf (wsV RL 43 RX2 yX2_groupOf wsX2_groupOf) := goodIn_app (goodIn_of _ (by decide +kernel)) ggL_groupOf_X2_groupOf
theorem dL_groupOf_0 : decode cL_groupOf 0 = .ok (.aload_n 2, 1) := by decide +kernel
theorem dL_groupOf_1 : decode cL_groupOf 1 = .ok (.iconst 0, 1) := by decide +kernel
theorem dL_groupOf_2 : decode cL_groupOf 2 = .ok (.aload_n 0, 1) := by decide +kernel
theorem dL_groupOf_3 : decode cL_groupOf 3 = .ok (.iload_n 1, 1) := by decide +kernel
theorem dL_groupOf_4 : decode cL_groupOf 4 = .ok (.invokevirtual 43, 3) := by decide +kernel
theorem dL_groupOf_7 : decode cL_groupOf 7 = .ok (.i2l, 1) := by decide +kernel
theorem dL_groupOf_8 : decode cL_groupOf 8 = .ok (.lastore, 1) := by decide +kernel
theorem dL_groupOf_9 : decode cL_groupOf 9 = .ok (.goto 6, 3) := by decide +kernel
theorem dL_groupOf_12 : decode cL_groupOf 12 = .ok (.astore_n 3, 1) := by decide +kernel
theorem dL_groupOf_13 : decode cL_groupOf 13 = .ok (.iconst 1, 1) := by decide +kernel
theorem dL_groupOf_14 : decode cL_groupOf 14 = .ok (.ireturn, 1) := by decide +kernel
theorem dL_groupOf_15 : decode cL_groupOf 15 = .ok (.iconst 0, 1) := by decide +kernel
theorem dL_groupOf_16 : decode cL_groupOf 16 = .ok (.ireturn, 1) := by decide +kernel
set_option maxRecDepth 20000 in
theorem ggL_teamAt_X2_teamAt : GoodIn wsL_teamAt wsX2_teamAt := goodIn_ca (goodIn_r _ [6, 7, 8, 9, 10, 11, 12, 13, 14, 15, 16, 17, 18, 19, 20, 21, 22, 23, 24, 25, 26, 27, 28, 29, 30, 31, 32, 33, 34, 35, 36, 37, 38, 39] (by decide +kernel) (by decide +kernel)) (goodIn_sub (fun _ h => List.mem_cons_of_mem _ (List.mem_append_right _ h)) (by decide +kernel))
set_option maxRecDepth 20000 in
theorem gL_teamAt_X2_teamAt : GoodIn wsL_teamAt (wsV RL 46 RX2 yX2_teamAt wsX2_teamAt) := goodIn_app (goodIn_of _ (by decide +kernel)) ggL_teamAt_X2_teamAt
theorem dL_teamAt_0 : decode cL_teamAt 0 = .ok (.aload_n 3, 1) := by decide +kernel
theorem dL_teamAt_1 : decode cL_teamAt 1 = .ok (.iconst 0, 1) := by decide +kernel
theorem dL_teamAt_2 : decode cL_teamAt 2 = .ok (.aload_n 0, 1) := by decide +kernel
theorem dL_teamAt_3 : decode cL_teamAt 3 = .ok (.iload_n 1, 1) := by decide +kernel
theorem dL_teamAt_4 : decode cL_teamAt 4 = .ok (.iload_n 2, 1) := by decide +kernel
theorem dL_teamAt_5 : decode cL_teamAt 5 = .ok (.invokevirtual 46, 3) := by decide +kernel
theorem dL_teamAt_8 : decode cL_teamAt 8 = .ok (.i2l, 1) := by decide +kernel
theorem dL_teamAt_9 : decode cL_teamAt 9 = .ok (.lastore, 1) := by decide +kernel
theorem dL_teamAt_10 : decode cL_teamAt 10 = .ok (.goto 7, 3) := by decide +kernel
theorem dL_teamAt_13 : decode cL_teamAt 13 = .ok (.astore 4, 2) := by decide +kernel
theorem dL_teamAt_15 : decode cL_teamAt 15 = .ok (.iconst 1, 1) := by decide +kernel
theorem dL_teamAt_16 : decode cL_teamAt 16 = .ok (.ireturn, 1) := by decide +kernel
theorem dL_teamAt_17 : decode cL_teamAt 17 = .ok (.iconst 0, 1) := by decide +kernel
theorem dL_teamAt_18 : decode cL_teamAt 18 = .ok (.ireturn, 1) := by decide +kernel
set_option maxRecDepth 20000 in
theorem ggL_fits_X2_fits : GoodIn wsL_fits wsX2_fits := goodIn_ca (goodIn_r _ [6, 7, 8, 9, 5, 10, 11, 12, 13, 14, 15, 16, 17, 18, 19, 20, 21, 22, 23, 24, 25, 26, 27, 28, 29, 30, 31, 32, 33, 34, 35, 36, 37, 38, 39, 40, 41, 42, 43, 44, 45, 46, 47, 48, 49, 50, 51, 52, 53, 54, 55, 56, 57, 58, 59, 60, 61, 62, 63, 64, 65, 66, 67, 68, 69, 70, 71, 72, 73, 74, 75, 76, 77, 78, 79, 80, 81, 82, 83, 84, 85, 86, 87, 88, 89, 90, 91, 92, 93, 94, 95, 96, 97, 98, 99, 100, 101] (by decide +kernel) (by decide +kernel)) (goodIn_sub (fun _ h => List.mem_cons_of_mem _ (List.mem_append_right _ h)) (by decide +kernel))
set_option maxRecDepth 20000 in
theorem gL_fits_X2_fits : GoodIn wsL_fits (wsV RL 49 RX2 yX2_fits wsX2_fits) := goodIn_app (goodIn_of _ (by decide +kernel)) ggL_fits_X2_fits
theorem dL_fits_0 : decode cL_fits 0 = .ok (.aload_n 3, 1) := by decide +kernel
theorem dL_fits_1 : decode cL_fits 1 = .ok (.iconst 0, 1) := by decide +kernel
theorem dL_fits_2 : decode cL_fits 2 = .ok (.aload_n 0, 1) := by decide +kernel
theorem dL_fits_3 : decode cL_fits 3 = .ok (.iload_n 1, 1) := by decide +kernel
theorem dL_fits_4 : decode cL_fits 4 = .ok (.iload_n 2, 1) := by decide +kernel
theorem dL_fits_5 : decode cL_fits 5 = .ok (.invokevirtual 49, 3) := by decide +kernel
theorem dL_fits_8 : decode cL_fits 8 = .ok (.ifCond .eq 7, 3) := by decide +kernel
theorem dL_fits_11 : decode cL_fits 11 = .ok (.lconst 1, 1) := by decide +kernel
theorem dL_fits_12 : decode cL_fits 12 = .ok (.goto 4, 3) := by decide +kernel
theorem dL_fits_15 : decode cL_fits 15 = .ok (.lconst 0, 1) := by decide +kernel
theorem dL_fits_16 : decode cL_fits 16 = .ok (.lastore, 1) := by decide +kernel
theorem dL_fits_17 : decode cL_fits 17 = .ok (.goto 7, 3) := by decide +kernel
theorem dL_fits_20 : decode cL_fits 20 = .ok (.astore 4, 2) := by decide +kernel
theorem dL_fits_22 : decode cL_fits 22 = .ok (.iconst 1, 1) := by decide +kernel
theorem dL_fits_23 : decode cL_fits 23 = .ok (.ireturn, 1) := by decide +kernel
theorem dL_fits_24 : decode cL_fits 24 = .ok (.iconst 0, 1) := by decide +kernel
theorem dL_fits_25 : decode cL_fits 25 = .ok (.ireturn, 1) := by decide +kernel
set_option maxRecDepth 20000 in
theorem ggL_forced_X2_forced : GoodIn wsL_forced wsX2_forced := goodIn_ca (goodIn_r _ [6, 7, 8, 9, 5, 10, 11, 12, 13, 14, 15, 16, 17, 18, 19, 20, 21, 22, 23, 24, 25, 26, 27, 28, 29, 30, 31, 32, 33, 34, 35, 36, 37, 38, 39, 40, 41, 42, 43, 44, 45, 46, 47, 48, 49, 50, 51, 52, 53, 54, 55, 56, 57, 58, 59, 60, 61, 62, 63, 64, 65, 66, 67, 68, 69, 70, 71, 72, 73, 74, 75, 76, 77, 78, 79, 80, 81, 82, 83, 84, 85, 86, 87, 88, 89, 90, 91, 92, 93, 94, 95, 96, 97, 98, 99, 100, 101] (by decide +kernel) (by decide +kernel)) (goodIn_sub (fun _ h => List.mem_cons_of_mem _ (List.mem_append_right _ h)) (by decide +kernel))
set_option maxRecDepth 20000 in
theorem gL_forced_X2_forced : GoodIn wsL_forced (wsV RL 53 RX2 yX2_forced wsX2_forced) := goodIn_app (goodIn_of _ (by decide +kernel)) ggL_forced_X2_forced
theorem dL_forced_0 : decode cL_forced 0 = .ok (.aload_n 2, 1) := by decide +kernel
theorem dL_forced_1 : decode cL_forced 1 = .ok (.iconst 0, 1) := by decide +kernel
theorem dL_forced_2 : decode cL_forced 2 = .ok (.aload_n 0, 1) := by decide +kernel
theorem dL_forced_3 : decode cL_forced 3 = .ok (.iload_n 1, 1) := by decide +kernel
theorem dL_forced_4 : decode cL_forced 4 = .ok (.invokevirtual 53, 3) := by decide +kernel
theorem dL_forced_7 : decode cL_forced 7 = .ok (.i2l, 1) := by decide +kernel
theorem dL_forced_8 : decode cL_forced 8 = .ok (.lastore, 1) := by decide +kernel
theorem dL_forced_9 : decode cL_forced 9 = .ok (.goto 6, 3) := by decide +kernel
theorem dL_forced_12 : decode cL_forced 12 = .ok (.astore_n 3, 1) := by decide +kernel
theorem dL_forced_13 : decode cL_forced 13 = .ok (.iconst 1, 1) := by decide +kernel
theorem dL_forced_14 : decode cL_forced 14 = .ok (.ireturn, 1) := by decide +kernel
theorem dL_forced_15 : decode cL_forced 15 = .ok (.iconst 0, 1) := by decide +kernel
theorem dL_forced_16 : decode cL_forced 16 = .ok (.ireturn, 1) := by decide +kernel
set_option maxRecDepth 20000 in
theorem ggL_evenly_X2_evenly : GoodIn wsL_evenly wsX2_evenly := goodIn_ca (goodIn_r _ [6, 7, 8, 9, 5, 10, 11, 12, 13, 14, 15, 16, 17, 18, 19, 20, 21, 22, 23, 24, 25, 26, 27, 28, 29, 30, 31, 32, 33, 34, 35, 36, 37, 38, 39, 40, 41, 42, 43, 44, 45, 46, 47, 48, 49, 50, 51, 52, 53, 54, 55, 56, 57, 58, 59, 60, 61, 62, 63, 64, 65, 66, 67, 68, 69, 70, 71, 72, 73, 74, 75, 76, 77, 78, 79, 80, 81, 82, 83, 84, 85, 86, 87, 88, 89, 90, 91, 92, 93, 94, 95, 96, 97, 98, 99, 100, 101] (by decide +kernel) (by decide +kernel)) (goodIn_sub (fun _ h => List.mem_cons_of_mem _ (List.mem_append_right _ h)) (by decide +kernel))
set_option maxRecDepth 20000 in
theorem gL_evenly_X2_evenly : GoodIn wsL_evenly (wsV RL 56 RX2 yX2_evenly wsX2_evenly) := goodIn_app (goodIn_of _ (by decide +kernel)) ggL_evenly_X2_evenly
theorem dL_evenly_0 : decode cL_evenly 0 = .ok (.aload_n 3, 1) := by decide +kernel
theorem dL_evenly_1 : decode cL_evenly 1 = .ok (.iconst 0, 1) := by decide +kernel
theorem dL_evenly_2 : decode cL_evenly 2 = .ok (.aload_n 0, 1) := by decide +kernel
theorem dL_evenly_3 : decode cL_evenly 3 = .ok (.iload_n 1, 1) := by decide +kernel
theorem dL_evenly_4 : decode cL_evenly 4 = .ok (.iload_n 2, 1) := by decide +kernel
theorem dL_evenly_5 : decode cL_evenly 5 = .ok (.invokevirtual 56, 3) := by decide +kernel
theorem dL_evenly_8 : decode cL_evenly 8 = .ok (.i2l, 1) := by decide +kernel
theorem dL_evenly_9 : decode cL_evenly 9 = .ok (.lastore, 1) := by decide +kernel
theorem dL_evenly_10 : decode cL_evenly 10 = .ok (.goto 7, 3) := by decide +kernel
theorem dL_evenly_13 : decode cL_evenly 13 = .ok (.astore 4, 2) := by decide +kernel
theorem dL_evenly_15 : decode cL_evenly 15 = .ok (.iconst 1, 1) := by decide +kernel
theorem dL_evenly_16 : decode cL_evenly 16 = .ok (.ireturn, 1) := by decide +kernel
theorem dL_evenly_17 : decode cL_evenly 17 = .ok (.iconst 0, 1) := by decide +kernel
theorem dL_evenly_18 : decode cL_evenly 18 = .ok (.ireturn, 1) := by decide +kernel
set_option maxRecDepth 20000 in
theorem ggL_chances_X2_chances : GoodIn wsL_chances wsX2_chances := goodIn_ca (goodIn_r _ [6, 7, 8, 9, 5, 10, 11, 12, 13, 14, 15, 16, 17, 18, 19, 20, 21, 22, 23, 24, 25, 26, 27, 28, 29, 30, 31, 32, 33, 34, 35, 36, 37, 38, 39, 40, 41, 42, 43, 44, 45, 46, 47, 48, 49, 50, 51, 52, 53, 54, 55, 56, 57, 58, 59, 60, 61, 62, 63, 64, 65, 66, 67, 68, 69, 70, 71, 72, 73, 74, 75, 76, 77, 78, 79, 80, 81, 82, 83, 84, 85, 86, 87, 88, 89, 90, 91, 92, 93, 94, 95, 96, 97, 98, 99, 100, 101, 102, 103, 104, 105, 106, 107, 108, 109, 110, 111, 112, 113, 114, 115, 116, 117, 118, 119, 120, 121, 122, 123, 124, 125, 126, 127, 128, 129, 130, 131, 132, 133, 134, 135, 136, 137, 138, 139, 140, 141, 142, 143, 144, 145, 146, 147, 148, 149, 150, 151, 152, 153, 154, 155, 156, 157, 158, 159, 160] (by decide +kernel) (by decide +kernel)) (goodIn_sub (fun _ h => List.mem_cons_of_mem _ (List.mem_append_right _ h)) (by decide +kernel))
set_option maxRecDepth 20000 in
theorem gL_chances_X2_chances : GoodIn wsL_chances (wsV RL 59 RX2 yX2_chances wsX2_chances) := goodIn_app (goodIn_of _ (by decide +kernel)) ggL_chances_X2_chances
theorem dL_chances_0 : decode cL_chances 0 = .ok (.aload_n 3, 1) := by decide +kernel
theorem dL_chances_1 : decode cL_chances 1 = .ok (.iconst 0, 1) := by decide +kernel
theorem dL_chances_2 : decode cL_chances 2 = .ok (.aload_n 0, 1) := by decide +kernel
theorem dL_chances_3 : decode cL_chances 3 = .ok (.iload_n 1, 1) := by decide +kernel
theorem dL_chances_4 : decode cL_chances 4 = .ok (.iload_n 2, 1) := by decide +kernel
theorem dL_chances_5 : decode cL_chances 5 = .ok (.invokevirtual 59, 3) := by decide +kernel
theorem dL_chances_8 : decode cL_chances 8 = .ok (.i2l, 1) := by decide +kernel
theorem dL_chances_9 : decode cL_chances 9 = .ok (.lastore, 1) := by decide +kernel
theorem dL_chances_10 : decode cL_chances 10 = .ok (.goto 7, 3) := by decide +kernel
theorem dL_chances_13 : decode cL_chances 13 = .ok (.astore 4, 2) := by decide +kernel
theorem dL_chances_15 : decode cL_chances 15 = .ok (.iconst 1, 1) := by decide +kernel
theorem dL_chances_16 : decode cL_chances 16 = .ok (.ireturn, 1) := by decide +kernel
theorem dL_chances_17 : decode cL_chances 17 = .ok (.iconst 0, 1) := by decide +kernel
theorem dL_chances_18 : decode cL_chances 18 = .ok (.ireturn, 1) := by decide +kernel
set_option maxRecDepth 20000 in
theorem ggL_pairings_X2_pairings : GoodIn wsL_pairings wsX2_pairings := goodIn_ca (goodIn_r _ [6, 7, 8, 9, 5, 10, 11, 12, 13, 14, 15, 16, 17, 18, 19, 20, 21, 22, 23, 24, 25, 26, 27, 28, 29, 30, 31, 32, 33, 34, 35, 36, 37, 38, 39, 40, 41, 42, 43, 44, 45, 46, 47, 48, 49, 50, 51, 52, 53, 54, 55, 56, 57, 58, 59, 60, 61, 62, 63, 64, 65, 66, 67, 68, 69, 70, 71, 72, 73, 74, 75, 76, 77, 78, 79, 80, 81, 82, 83, 84, 85, 86, 87, 88, 89, 90, 91, 92, 93, 94, 95, 96, 97, 98, 99, 100, 101, 102, 103, 104, 105, 106, 107, 108, 109, 110, 111, 112, 113, 114, 115, 116, 117, 118, 119, 120, 121, 122, 123, 124, 125, 126, 127, 128, 129, 130, 131, 132, 133, 134, 135, 136, 137, 138, 139, 140, 141, 142, 143, 144, 145, 146, 147, 148, 149, 150, 151, 152, 153, 154, 155, 156] (by decide +kernel) (by decide +kernel)) (goodIn_sub (fun _ h => List.mem_cons_of_mem _ (List.mem_append_right _ h)) (by decide +kernel))
set_option maxRecDepth 20000 in
theorem gL_pairings_X2_pairings : GoodIn wsL_pairings (wsV RL 62 RX2 yX2_pairings wsX2_pairings) := goodIn_app (goodIn_of _ (by decide +kernel)) ggL_pairings_X2_pairings
theorem dL_pairings_0 : decode cL_pairings 0 = .ok (.aload_n 3, 1) := by decide +kernel
theorem dL_pairings_1 : decode cL_pairings 1 = .ok (.iconst 0, 1) := by decide +kernel
theorem dL_pairings_2 : decode cL_pairings 2 = .ok (.aload_n 0, 1) := by decide +kernel
theorem dL_pairings_3 : decode cL_pairings 3 = .ok (.iload_n 1, 1) := by decide +kernel
theorem dL_pairings_4 : decode cL_pairings 4 = .ok (.iload_n 2, 1) := by decide +kernel
theorem dL_pairings_5 : decode cL_pairings 5 = .ok (.invokevirtual 62, 3) := by decide +kernel
theorem dL_pairings_8 : decode cL_pairings 8 = .ok (.i2l, 1) := by decide +kernel
theorem dL_pairings_9 : decode cL_pairings 9 = .ok (.lastore, 1) := by decide +kernel
theorem dL_pairings_10 : decode cL_pairings 10 = .ok (.goto 7, 3) := by decide +kernel
theorem dL_pairings_13 : decode cL_pairings 13 = .ok (.astore 4, 2) := by decide +kernel
theorem dL_pairings_15 : decode cL_pairings 15 = .ok (.iconst 1, 1) := by decide +kernel
theorem dL_pairings_16 : decode cL_pairings 16 = .ok (.ireturn, 1) := by decide +kernel
theorem dL_pairings_17 : decode cL_pairings 17 = .ok (.iconst 0, 1) := by decide +kernel
theorem dL_pairings_18 : decode cL_pairings 18 = .ok (.ireturn, 1) := by decide +kernel
set_option maxRecDepth 20000 in
theorem ggL_law_X2_init : GoodIn wsL_law wsX2_init := goodIn_r _ [9, 10, 11, 12, 13, 14, 15, 16, 17, 18, 19, 20, 21, 22, 23, 24, 25, 26, 27, 28, 29, 30, 31, 32, 33, 34, 35, 36, 37, 38, 39, 40, 41, 2, 42, 43, 44, 45, 46, 47, 48, 49, 50, 51, 52, 53, 54, 55, 56, 57, 58, 59, 60, 539, 540, 541, 542, 543, 544, 545, 546, 547, 513, 514, 515, 516, 517, 518, 519, 520, 521, 548, 549] (by decide +kernel) (by decide +kernel)
set_option maxRecDepth 20000 in
theorem gL_law_X2_init : GoodIn wsL_law (wsX2_init) := ggL_law_X2_init
set_option maxRecDepth 20000 in
theorem ggL_law_X3_init : GoodIn wsL_law wsX3_init := goodIn_r _ [63, 64, 11, 12, 22, 65, 66, 67, 68, 69, 70, 71, 72, 73, 74, 75, 76, 77, 78, 79, 80, 5, 81, 82, 83, 84, 522, 523, 524, 525, 526, 527, 528, 529, 530, 531, 532, 533, 534, 535, 536, 537, 538] (by decide +kernel) (by decide +kernel)
set_option maxRecDepth 20000 in
theorem gL_law_X3_init : GoodIn wsL_law (wsX3_init) := ggL_law_X3_init
set_option maxRecDepth 20000 in
theorem ggL_law_L_lay : GoodIn wsL_law wsL_lay := goodIn_ca (goodIn_r _ [88, 89, 90, 91, 92, 2, 93, 94, 95, 16, 39, 40, 41, 42, 23, 43, 44, 45, 46, 15, 47, 48, 49, 50, 30, 29, 31, 32, 51, 52, 53, 54, 33, 55, 56, 57, 58, 59, 60, 513, 514, 515, 516, 517, 518, 519, 520, 521, 539, 540, 541, 542, 543, 544, 545, 546, 547] (by decide +kernel) (by decide +kernel)) (goodIn_sub (fun _ h => List.mem_append_left _ (List.mem_append_left _ (List.mem_append_right _ h))) (by decide +kernel))
set_option maxRecDepth 20000 in
theorem gL_law_L_lay : GoodIn wsL_law (va_wsS RL 69 yL_lay wsL_lay) := goodIn_app (goodIn_of _ (by decide +kernel)) ggL_law_L_lay
set_option maxRecDepth 20000 in
theorem ggL_law_X3_lay : GoodIn wsL_law wsX3_lay := goodIn_r _ [99, 100, 101, 102, 5, 103, 78, 79, 80, 81, 82, 83, 84, 65, 71, 66, 68, 69, 104, 105, 106, 107, 522, 523, 524, 525, 526, 527, 528, 529, 530, 531, 532, 533, 534, 535, 536, 537, 538] (by decide +kernel) (by decide +kernel)
set_option maxRecDepth 20000 in
theorem gL_law_X3_lay : GoodIn wsL_law (wsV RL 74 RX3 yX3_lay wsX3_lay) := goodIn_app (goodIn_of _ (by decide +kernel)) ggL_law_X3_lay
set_option maxRecDepth 20000 in
theorem ggL_law_X3_thrown : GoodIn wsL_law wsX3_thrown := goodIn_r _ [111, 100, 522, 523, 524, 525, 526, 527, 528, 529, 530, 531, 532, 533, 534, 535, 536, 537, 538] (by decide +kernel) (by decide +kernel)
set_option maxRecDepth 20000 in
theorem gL_law_X3_thrown : GoodIn wsL_law (wsV RL 75 RX3 yX3_thrown wsX3_thrown) := goodIn_app (goodIn_of _ (by decide +kernel)) ggL_law_X3_thrown
set_option maxRecDepth 20000 in
theorem ggL_law_L_setRegion : GoodIn wsL_law wsL_setRegion := goodIn_ca (goodIn_ca (goodIn_r _ [114, 115, 116, 117, 118, 119, 2, 120, 121, 122, 16, 123, 124, 125, 15, 126, 50, 127, 128, 129, 130, 131, 132, 133, 134, 135, 136, 43, 55, 56, 57, 58, 59, 60, 513, 514, 515, 516, 517, 518, 519, 520, 521, 539, 540, 541, 542, 543, 544, 545, 546, 547] (by decide +kernel) (by decide +kernel)) (goodIn_sub (fun _ h => List.mem_append_left _ (List.mem_append_right _ h)) (by decide +kernel))) (goodIn_sub (fun _ h => List.mem_append_right _ h) (by decide +kernel))
set_option maxRecDepth 20000 in
theorem gL_law_L_setRegion : GoodIn wsL_law (va_wsS RL 78 yL_setRegion wsL_setRegion) := goodIn_app (goodIn_of _ (by decide +kernel)) ggL_law_L_setRegion
set_option maxRecDepth 20000 in
theorem ggL_law_X3_setRegion : GoodIn wsL_law wsX3_setRegion := goodIn_r _ [140, 84, 100, 65, 141, 142, 143, 5, 144, 104, 105, 106, 107, 82, 83, 101, 102, 103, 522, 523, 524, 525, 526, 527, 528, 529, 530, 531, 532, 533, 534, 535, 536, 537, 538] (by decide +kernel) (by decide +kernel)
set_option maxRecDepth 20000 in
theorem gL_law_X3_setRegion : GoodIn wsL_law (wsV RL 80 RX3 yX3_setRegion wsX3_setRegion) := goodIn_app (goodIn_of _ (by decide +kernel)) ggL_law_X3_setRegion
set_option maxRecDepth 20000 in
theorem ggL_law_L_setBound : GoodIn wsL_law wsL_setBound := goodIn_ca (goodIn_ca (goodIn_ca (goodIn_r _ [147, 115, 89, 116, 148, 149, 150, 2, 151, 121, 122, 94, 95, 16, 127, 128, 129, 15, 130, 131, 132, 133, 134, 135, 136, 43, 55, 56, 57, 58, 59, 60, 513, 514, 515, 516, 517, 518, 519, 520, 521, 539, 540, 541, 542, 543, 544, 545, 546, 547] (by decide +kernel) (by decide +kernel)) (goodIn_sub (fun _ h => List.mem_append_left _ (List.mem_append_right _ h)) (by decide +kernel))) (goodIn_sub (fun _ h => List.mem_append_left _ (List.mem_append_left _ (List.mem_append_right _ h))) (by decide +kernel))) (goodIn_sub (fun _ h => List.mem_append_right _ h) (by decide +kernel))
set_option maxRecDepth 20000 in
theorem gL_law_L_setBound : GoodIn wsL_law (va_wsS RL 81 yL_setBound wsL_setBound) := goodIn_app (goodIn_of _ (by decide +kernel)) ggL_law_L_setBound
set_option maxRecDepth 20000 in
theorem ggL_law_X3_setBound : GoodIn wsL_law wsX3_setBound := goodIn_r _ [155, 84, 100, 66, 101, 102, 5, 103, 522, 523, 524, 525, 526, 527, 528, 529, 530, 531, 532, 533, 534, 535, 536, 537, 538] (by decide +kernel) (by decide +kernel)
set_option maxRecDepth 20000 in
theorem gL_law_X3_setBound : GoodIn wsL_law (wsV RL 83 RX3 yX3_setBound wsX3_setBound) := goodIn_app (goodIn_of _ (by decide +kernel)) ggL_law_X3_setBound
set_option maxRecDepth 20000 in
theorem ggL_law_L_setApart : GoodIn wsL_law wsL_setApart := goodIn_ca (goodIn_ca (goodIn_ca (goodIn_r _ [158, 115, 89, 116, 159, 160, 161, 2, 162, 16, 163, 164, 165, 166, 94, 95, 167, 168, 169, 170, 121, 122, 123, 124, 125, 15, 126, 50, 131, 132, 133, 134, 135, 136, 43, 55, 56, 57, 58, 59, 60, 171, 172, 173, 513, 514, 515, 516, 517, 518, 519, 520, 521, 539, 540, 541, 542, 543, 544, 545, 546, 547] (by decide +kernel) (by decide +kernel)) (goodIn_sub (fun _ h => List.mem_append_left _ (List.mem_append_left _ (List.mem_append_right _ h))) (by decide +kernel))) (goodIn_sub (fun _ h => List.mem_append_left _ (List.mem_append_right _ h)) (by decide +kernel))) (goodIn_sub (fun _ h => List.mem_append_right _ h) (by decide +kernel))
set_option maxRecDepth 20000 in
theorem gL_law_L_setApart : GoodIn wsL_law (va_wsS RL 84 yL_setApart wsL_setApart) := goodIn_app (goodIn_of _ (by decide +kernel)) ggL_law_L_setApart
set_option maxRecDepth 20000 in
theorem ggL_law_X3_setApart : GoodIn wsL_law wsX3_setApart := goodIn_r _ [177, 68, 178, 179, 180, 5, 181, 84, 100, 141, 142, 143, 144, 104, 105, 106, 107, 82, 83, 101, 102, 103, 522, 523, 524, 525, 526, 527, 528, 529, 530, 531, 532, 533, 534, 535, 536, 537, 538] (by decide +kernel) (by decide +kernel)
set_option maxRecDepth 20000 in
theorem gL_law_X3_setApart : GoodIn wsL_law (wsV RL 87 RX3 yX3_setApart wsX3_setApart) := goodIn_app (goodIn_of _ (by decide +kernel)) ggL_law_X3_setApart
set_option maxRecDepth 20000 in
theorem ggL_law_L_setOtherDays : GoodIn wsL_law wsL_setOtherDays := goodIn_ca (goodIn_ca (goodIn_ca (goodIn_r _ [184, 115, 89, 116, 185, 186, 187, 2, 188, 16, 163, 164, 165, 166, 94, 95, 167, 168, 169, 170, 121, 122, 123, 124, 125, 15, 126, 50, 131, 132, 133, 134, 135, 136, 43, 55, 56, 57, 58, 59, 60, 171, 172, 173, 513, 514, 515, 516, 517, 518, 519, 520, 521, 539, 540, 541, 542, 543, 544, 545, 546, 547] (by decide +kernel) (by decide +kernel)) (goodIn_sub (fun _ h => List.mem_append_left _ (List.mem_append_left _ (List.mem_append_right _ h))) (by decide +kernel))) (goodIn_sub (fun _ h => List.mem_append_left _ (List.mem_append_right _ h)) (by decide +kernel))) (goodIn_sub (fun _ h => List.mem_append_right _ h) (by decide +kernel))
set_option maxRecDepth 20000 in
theorem gL_law_L_setOtherDays : GoodIn wsL_law (va_wsS RL 88 yL_setOtherDays wsL_setOtherDays) := goodIn_app (goodIn_of _ (by decide +kernel)) ggL_law_L_setOtherDays
set_option maxRecDepth 20000 in
theorem ggL_law_X3_setOtherDays : GoodIn wsL_law wsX3_setOtherDays := goodIn_r _ [192, 69, 178, 179, 180, 5, 181, 84, 100, 141, 142, 143, 144, 104, 105, 106, 107, 82, 83, 101, 102, 103, 522, 523, 524, 525, 526, 527, 528, 529, 530, 531, 532, 533, 534, 535, 536, 537, 538] (by decide +kernel) (by decide +kernel)
set_option maxRecDepth 20000 in
theorem gL_law_X3_setOtherDays : GoodIn wsL_law (wsV RL 90 RX3 yX3_setOtherDays wsX3_setOtherDays) := goodIn_app (goodIn_of _ (by decide +kernel)) ggL_law_X3_setOtherDays
set_option maxRecDepth 20000 in
theorem ggL_law_L_draw : GoodIn wsL_law wsL_draw := goodIn_ca (goodIn_ca (goodIn_r _ [195, 116, 115, 196, 197, 198, 2, 199, 135, 136, 121, 122, 43, 16, 60, 23, 200, 201, 202, 203, 59, 20, 204, 205, 206, 19, 207, 208, 209, 210, 211, 15, 212, 213, 214, 215, 216, 50, 48, 217, 218, 219, 220, 38, 221, 222, 223, 224, 34, 225, 226, 227, 228, 33, 31, 32, 29, 30, 229, 230, 231, 232, 233, 234, 235, 236, 237, 238, 239, 240, 241, 242, 243, 244, 245, 246, 247, 248, 249, 250, 251, 252, 253, 254, 255, 25, 24, 256, 257, 258, 259, 260, 261, 262, 263, 264, 265, 266, 513, 514, 515, 516, 517, 518, 519, 520, 521, 539, 540, 541, 542, 543, 544, 545, 546, 547, 548, 549] (by decide +kernel) (by decide +kernel)) (goodIn_sub (fun _ h => List.mem_append_right _ h) (by decide +kernel))) (goodIn_sub (fun _ h => List.mem_append_left _ (List.mem_append_right _ h)) (by decide +kernel))
set_option maxRecDepth 20000 in
theorem gL_law_L_draw : GoodIn wsL_law (va_wsS RL 91 yL_draw wsL_draw) := goodIn_app (goodIn_of _ (by decide +kernel)) ggL_law_L_draw
set_option maxRecDepth 20000 in
theorem ggL_law_X3_draw : GoodIn wsL_law wsX3_draw := goodIn_r _ [270, 84, 271, 100, 71, 70, 272, 273, 274, 5, 275, 82, 83, 72, 73, 276, 277, 278, 279, 280, 281, 282, 74, 283, 284, 285, 286, 65, 68, 69, 66, 104, 105, 106, 107, 287, 288, 289, 290, 101, 102, 103, 291, 292, 293, 294, 295, 296, 297, 298, 299, 300, 301, 302, 303, 304, 305, 306, 522, 523, 524, 525, 526, 527, 528, 529, 530, 531, 532, 533, 534, 535, 536, 537, 538] (by decide +kernel) (by decide +kernel)
set_option maxRecDepth 20000 in
theorem gL_law_X3_draw : GoodIn wsL_law (wsV RL 94 RX3 yX3_draw wsX3_draw) := goodIn_app (goodIn_of _ (by decide +kernel)) ggL_law_X3_draw
set_option maxRecDepth 20000 in
theorem ggL_law_L_undo : GoodIn wsL_law wsL_undo := goodIn_ca (goodIn_r _ [309, 116, 310, 311, 312, 2, 313, 135, 136, 43, 60, 314, 315, 316, 317, 24, 23, 20, 25, 318, 319, 320, 19, 321, 208, 513, 514, 515, 516, 517, 518, 519, 520, 521, 548, 549] (by decide +kernel) (by decide +kernel)) (goodIn_sub (fun _ h => List.mem_append_right _ h) (by decide +kernel))
set_option maxRecDepth 20000 in
theorem gL_law_L_undo : GoodIn wsL_law (va_wsS RL 95 yL_undo wsL_undo) := goodIn_app (goodIn_of _ (by decide +kernel)) ggL_law_L_undo
set_option maxRecDepth 20000 in
theorem ggL_law_X3_undo : GoodIn wsL_law wsX3_undo := goodIn_r _ [325, 84, 100, 71, 70, 522, 523, 524, 525, 526, 527, 528, 529, 530, 531, 532, 533, 534, 535, 536, 537, 538] (by decide +kernel) (by decide +kernel)
set_option maxRecDepth 20000 in
theorem gL_law_X3_undo : GoodIn wsL_law (wsV RL 98 RX3 yX3_undo wsX3_undo) := goodIn_app (goodIn_of _ (by decide +kernel)) ggL_law_X3_undo
set_option maxRecDepth 20000 in
theorem ggL_law_X2_drawn : GoodIn wsL_law wsX2_drawn := goodIn_r _ [329, 43, 513, 514, 515, 516, 517, 518, 519, 520, 521] (by decide +kernel) (by decide +kernel)
set_option maxRecDepth 20000 in
theorem gL_law_X2_drawn : GoodIn wsL_law (wsV RL 99 RX2 yX2_drawn wsX2_drawn) := goodIn_app (goodIn_of _ (by decide +kernel)) ggL_law_X2_drawn
set_option maxRecDepth 20000 in
theorem ggL_law_X3_drawn : GoodIn wsL_law wsX3_drawn := goodIn_r _ [333, 100, 84, 522, 523, 524, 525, 526, 527, 528, 529, 530, 531, 532, 533, 534, 535, 536, 537, 538] (by decide +kernel) (by decide +kernel)
set_option maxRecDepth 20000 in
theorem gL_law_X3_drawn : GoodIn wsL_law (wsV RL 102 RX3 yX3_drawn wsX3_drawn) := goodIn_app (goodIn_of _ (by decide +kernel)) ggL_law_X3_drawn
set_option maxRecDepth 20000 in
theorem ggL_law_X2_pot : GoodIn wsL_law wsX2_pot := goodIn_r _ [247, 16, 248, 249, 250, 2, 251, 23, 513, 514, 515, 516, 517, 518, 519, 520, 521, 539, 540, 541, 542, 543, 544, 545, 546, 547] (by decide +kernel) (by decide +kernel)
set_option maxRecDepth 20000 in
theorem gL_law_X2_pot : GoodIn wsL_law (wsV RL 103 RX2 yX2_pot wsX2_pot) := goodIn_app (goodIn_of _ (by decide +kernel)) ggL_law_X2_pot
set_option maxRecDepth 20000 in
theorem ggL_law_X3_pot : GoodIn wsL_law wsX3_pot := goodIn_r _ [338, 100, 291, 292, 293, 5, 294, 84, 82, 104, 105, 106, 107, 83, 522, 523, 524, 525, 526, 527, 528, 529, 530, 531, 532, 533, 534, 535, 536, 537, 538] (by decide +kernel) (by decide +kernel)
set_option maxRecDepth 20000 in
theorem gL_law_X3_pot : GoodIn wsL_law (wsV RL 106 RX3 yX3_pot wsX3_pot) := goodIn_app (goodIn_of _ (by decide +kernel)) ggL_law_X3_pot
set_option maxRecDepth 20000 in
theorem ggL_law_X2_left : GoodIn wsL_law wsX2_left := goodIn_r _ [342, 244, 245, 246, 2, 247, 16, 248, 249, 250, 251, 23, 513, 514, 515, 516, 517, 518, 519, 520, 521, 539, 540, 541, 542, 543, 544, 545, 546, 547] (by decide +kernel) (by decide +kernel)
set_option maxRecDepth 20000 in
theorem gL_law_X2_left : GoodIn wsL_law (wsV RL 107 RX2 yX2_left wsX2_left) := goodIn_app (goodIn_of _ (by decide +kernel)) ggL_law_X2_left
set_option maxRecDepth 20000 in
theorem ggL_law_X3_left : GoodIn wsL_law wsX3_left := goodIn_r _ [346, 100, 287, 288, 289, 5, 290, 84, 82, 104, 105, 106, 107, 83, 522, 523, 524, 525, 526, 527, 528, 529, 530, 531, 532, 533, 534, 535, 536, 537, 538] (by decide +kernel) (by decide +kernel)
set_option maxRecDepth 20000 in
theorem gL_law_X3_left : GoodIn wsL_law (wsV RL 110 RX3 yX3_left wsX3_left) := goodIn_app (goodIn_of _ (by decide +kernel)) ggL_law_X3_left
set_option maxRecDepth 20000 in
theorem ggL_law_L_ballAt : GoodIn wsL_law wsL_ballAt := goodIn_ca (goodIn_r _ [349, 115, 350, 351, 352, 2, 353, 121, 122, 240, 241, 242, 243, 16, 23, 244, 245, 246, 247, 248, 249, 250, 251, 513, 514, 515, 516, 517, 518, 519, 520, 521, 539, 540, 541, 542, 543, 544, 545, 546, 547] (by decide +kernel) (by decide +kernel)) (goodIn_sub (fun _ h => List.mem_append_left _ (List.mem_append_right _ h)) (by decide +kernel))
set_option maxRecDepth 20000 in
theorem gL_law_L_ballAt : GoodIn wsL_law (va_wsS RL 111 yL_ballAt wsL_ballAt) := goodIn_app (goodIn_of _ (by decide +kernel)) ggL_law_L_ballAt
set_option maxRecDepth 20000 in
theorem ggL_law_X3_ballAt : GoodIn wsL_law wsX3_ballAt := goodIn_r _ [357, 100, 287, 288, 289, 5, 290, 84, 82, 104, 105, 106, 107, 83, 101, 102, 103, 291, 292, 293, 294, 295, 296, 297, 298, 71, 522, 523, 524, 525, 526, 527, 528, 529, 530, 531, 532, 533, 534, 535, 536, 537, 538] (by decide +kernel) (by decide +kernel)
set_option maxRecDepth 20000 in
theorem gL_law_X3_ballAt : GoodIn wsL_law (wsV RL 113 RX3 yX3_ballAt wsX3_ballAt) := goodIn_app (goodIn_of _ (by decide +kernel)) ggL_law_X3_ballAt
set_option maxRecDepth 20000 in
theorem ggL_law_L_groupOf : GoodIn wsL_law wsL_groupOf := goodIn_ca (goodIn_r _ [360, 115, 361, 362, 363, 2, 364, 23, 167, 168, 169, 170, 121, 122, 16, 123, 124, 125, 15, 126, 50, 513, 514, 515, 516, 517, 518, 519, 520, 521, 539, 540, 541, 542, 543, 544, 545, 546, 547] (by decide +kernel) (by decide +kernel)) (goodIn_sub (fun _ h => List.mem_append_left _ (List.mem_append_right _ h)) (by decide +kernel))
set_option maxRecDepth 20000 in
theorem gL_law_L_groupOf : GoodIn wsL_law (va_wsS RL 114 yL_groupOf wsL_groupOf) := goodIn_app (goodIn_of _ (by decide +kernel)) ggL_law_L_groupOf
set_option maxRecDepth 20000 in
theorem ggL_law_X3_groupOf : GoodIn wsL_law wsX3_groupOf := goodIn_r _ [368, 100, 71, 141, 142, 143, 5, 144, 104, 105, 106, 107, 82, 83, 101, 102, 103, 522, 523, 524, 525, 526, 527, 528, 529, 530, 531, 532, 533, 534, 535, 536, 537, 538] (by decide +kernel) (by decide +kernel)
set_option maxRecDepth 20000 in
theorem gL_law_X3_groupOf : GoodIn wsL_law (wsV RL 116 RX3 yX3_groupOf wsX3_groupOf) := goodIn_app (goodIn_of _ (by decide +kernel)) ggL_law_X3_groupOf
set_option maxRecDepth 20000 in
theorem ggL_law_L_teamAt : GoodIn wsL_law wsL_teamAt := goodIn_ca (goodIn_r _ [371, 115, 372, 373, 374, 2, 375, 121, 122, 16, 23, 376, 377, 378, 15, 379, 48, 380, 381, 382, 383, 49, 513, 514, 515, 516, 517, 518, 519, 520, 521, 539, 540, 541, 542, 543, 544, 545, 546, 547] (by decide +kernel) (by decide +kernel)) (goodIn_sub (fun _ h => List.mem_append_left _ (List.mem_append_right _ h)) (by decide +kernel))
set_option maxRecDepth 20000 in
theorem gL_law_L_teamAt : GoodIn wsL_law (va_wsS RL 117 yL_teamAt wsL_teamAt) := goodIn_app (goodIn_of _ (by decide +kernel)) ggL_law_L_teamAt
set_option maxRecDepth 20000 in
theorem ggL_law_X3_teamAt : GoodIn wsL_law wsX3_teamAt := goodIn_r _ [387, 83, 100, 82, 71, 388, 389, 390, 5, 391, 101, 102, 103, 522, 523, 524, 525, 526, 527, 528, 529, 530, 531, 532, 533, 534, 535, 536, 537, 538] (by decide +kernel) (by decide +kernel)
set_option maxRecDepth 20000 in
theorem gL_law_X3_teamAt : GoodIn wsL_law (wsV RL 119 RX3 yX3_teamAt wsX3_teamAt) := goodIn_app (goodIn_of _ (by decide +kernel)) ggL_law_X3_teamAt
set_option maxRecDepth 20000 in
theorem ggL_law_X2_results : GoodIn wsL_law wsX2_results := goodIn_r _ [395, 200, 201, 202, 2, 203, 59, 20, 16, 204, 205, 206, 19, 207, 208, 209, 210, 211, 15, 212, 213, 214, 215, 216, 50, 48, 217, 218, 219, 220, 38, 221, 222, 223, 224, 34, 225, 226, 227, 228, 33, 31, 32, 29, 30, 229, 230, 231, 232, 233, 234, 235, 236, 237, 238, 239, 548, 549, 513, 514, 515, 516, 517, 518, 519, 520, 521, 539, 540, 541, 542, 543, 544, 545, 546, 547] (by decide +kernel) (by decide +kernel)
set_option maxRecDepth 20000 in
theorem gL_law_X2_results : GoodIn wsL_law (wsV RL 120 RX2 yX2_results wsX2_results) := goodIn_app (goodIn_of _ (by decide +kernel)) ggL_law_X2_results
set_option maxRecDepth 20000 in
theorem ggL_law_X3_results : GoodIn wsL_law wsX3_results := goodIn_r _ [399, 100, 271, 272, 273, 274, 5, 275, 82, 83, 72, 73, 276, 277, 278, 279, 280, 281, 282, 74, 283, 284, 285, 286, 65, 68, 69, 66, 71, 104, 105, 106, 107, 522, 523, 524, 525, 526, 527, 528, 529, 530, 531, 532, 533, 534, 535, 536, 537, 538] (by decide +kernel) (by decide +kernel)
set_option maxRecDepth 20000 in
theorem gL_law_X3_results : GoodIn wsL_law (wsV RL 123 RX3 yX3_results wsX3_results) := goodIn_app (goodIn_of _ (by decide +kernel)) ggL_law_X3_results
set_option maxRecDepth 20000 in
theorem ggL_law_L_fits : GoodIn wsL_law wsL_fits := goodIn_ca (goodIn_r _ [402, 115, 403, 404, 405, 2, 406, 407, 408, 409, 410, 121, 122, 16, 123, 124, 125, 15, 126, 50, 376, 377, 378, 379, 48, 200, 201, 202, 203, 59, 20, 204, 205, 206, 19, 207, 208, 209, 210, 211, 212, 213, 214, 215, 216, 217, 218, 219, 220, 38, 221, 222, 223, 224, 34, 225, 226, 227, 228, 33, 31, 32, 29, 30, 229, 230, 231, 232, 233, 234, 235, 236, 237, 238, 239, 411, 412, 413, 414, 260, 261, 262, 513, 514, 515, 516, 517, 518, 519, 520, 521, 539, 540, 541, 542, 543, 544, 545, 546, 547, 548, 549] (by decide +kernel) (by decide +kernel)) (goodIn_sub (fun _ h => List.mem_append_left _ (List.mem_append_right _ h)) (by decide +kernel))
set_option maxRecDepth 20000 in
theorem gL_law_L_fits : GoodIn wsL_law (va_wsS RL 124 yL_fits wsL_fits) := goodIn_app (goodIn_of _ (by decide +kernel)) ggL_law_L_fits
set_option maxRecDepth 20000 in
theorem ggL_law_X3_fits : GoodIn wsL_law wsX3_fits := goodIn_r _ [418, 419, 420, 421, 5, 422, 423, 424, 425, 426, 100, 141, 142, 143, 144, 104, 105, 106, 107, 82, 83, 101, 102, 103, 388, 389, 390, 391, 272, 273, 274, 275, 271, 72, 73, 276, 277, 278, 279, 280, 281, 282, 74, 283, 284, 285, 286, 65, 68, 69, 66, 71, 303, 304, 305, 306, 522, 523, 524, 525, 526, 527, 528, 529, 530, 531, 532, 533, 534, 535, 536, 537, 538] (by decide +kernel) (by decide +kernel)
set_option maxRecDepth 20000 in
theorem gL_law_X3_fits : GoodIn wsL_law (wsV RL 126 RX3 yX3_fits wsX3_fits) := goodIn_app (goodIn_of _ (by decide +kernel)) ggL_law_X3_fits
set_option maxRecDepth 20000 in
theorem ggL_law_L_forced : GoodIn wsL_law wsL_forced := goodIn_ca (goodIn_r _ [429, 115, 430, 431, 432, 2, 433, 167, 168, 169, 170, 121, 122, 16, 123, 124, 125, 15, 126, 50, 200, 201, 202, 203, 59, 20, 204, 205, 206, 19, 207, 208, 209, 210, 211, 212, 213, 214, 215, 216, 48, 217, 218, 219, 220, 38, 221, 222, 223, 224, 34, 225, 226, 227, 228, 33, 31, 32, 29, 30, 229, 230, 231, 232, 233, 234, 235, 236, 237, 238, 239, 256, 257, 258, 259, 260, 261, 262, 411, 412, 413, 414, 548, 549, 513, 514, 515, 516, 517, 518, 519, 520, 521, 539, 540, 541, 542, 543, 544, 545, 546, 547] (by decide +kernel) (by decide +kernel)) (goodIn_sub (fun _ h => List.mem_append_left _ (List.mem_append_right _ h)) (by decide +kernel))
set_option maxRecDepth 20000 in
theorem gL_law_L_forced : GoodIn wsL_law (va_wsS RL 127 yL_forced wsL_forced) := goodIn_app (goodIn_of _ (by decide +kernel)) ggL_law_L_forced
set_option maxRecDepth 20000 in
theorem ggL_law_X3_forced : GoodIn wsL_law wsX3_forced := goodIn_r _ [437, 100, 271, 141, 142, 143, 5, 144, 104, 105, 106, 107, 82, 83, 101, 102, 103, 272, 273, 274, 275, 72, 73, 276, 277, 278, 279, 280, 281, 282, 74, 283, 284, 285, 286, 65, 68, 69, 66, 71, 299, 300, 301, 302, 303, 304, 305, 306, 522, 523, 524, 525, 526, 527, 528, 529, 530, 531, 532, 533, 534, 535, 536, 537, 538] (by decide +kernel) (by decide +kernel)
set_option maxRecDepth 20000 in
theorem gL_law_X3_forced : GoodIn wsL_law (wsV RL 129 RX3 yX3_forced wsX3_forced) := goodIn_app (goodIn_of _ (by decide +kernel)) ggL_law_X3_forced
set_option maxRecDepth 20000 in
theorem ggL_law_L_evenly : GoodIn wsL_law wsL_evenly := goodIn_ca (goodIn_r _ [440, 115, 441, 442, 443, 2, 444, 407, 408, 409, 410, 121, 122, 16, 123, 124, 125, 15, 126, 50, 376, 377, 378, 379, 48, 200, 201, 202, 203, 59, 20, 204, 205, 206, 19, 207, 208, 209, 210, 211, 212, 213, 214, 215, 216, 217, 218, 219, 220, 38, 221, 222, 223, 224, 34, 225, 226, 227, 228, 33, 31, 32, 29, 30, 229, 230, 231, 232, 233, 234, 235, 236, 237, 238, 239, 411, 412, 413, 414, 260, 261, 262, 513, 514, 515, 516, 517, 518, 519, 520, 521, 539, 540, 541, 542, 543, 544, 545, 546, 547, 548, 549] (by decide +kernel) (by decide +kernel)) (goodIn_sub (fun _ h => List.mem_append_left _ (List.mem_append_right _ h)) (by decide +kernel))
set_option maxRecDepth 20000 in
theorem gL_law_L_evenly : GoodIn wsL_law (va_wsS RL 130 yL_evenly wsL_evenly) := goodIn_app (goodIn_of _ (by decide +kernel)) ggL_law_L_evenly
set_option maxRecDepth 20000 in
theorem ggL_law_X3_evenly : GoodIn wsL_law wsX3_evenly := goodIn_r _ [422, 423, 424, 425, 5, 426, 100, 141, 142, 143, 144, 104, 105, 106, 107, 82, 83, 101, 102, 103, 388, 389, 390, 391, 272, 273, 274, 275, 271, 72, 73, 276, 277, 278, 279, 280, 281, 282, 74, 283, 284, 285, 286, 65, 68, 69, 66, 71, 303, 304, 305, 306, 522, 523, 524, 525, 526, 527, 528, 529, 530, 531, 532, 533, 534, 535, 536, 537, 538] (by decide +kernel) (by decide +kernel)
set_option maxRecDepth 20000 in
theorem gL_law_X3_evenly : GoodIn wsL_law (wsV RL 132 RX3 yX3_evenly wsX3_evenly) := goodIn_app (goodIn_of _ (by decide +kernel)) ggL_law_X3_evenly
set_option maxRecDepth 20000 in
theorem ggL_law_X2_orders : GoodIn wsL_law wsX2_orders := goodIn_r _ [449, 16, 248, 249, 250, 2, 251, 23, 450, 451, 452, 513, 514, 515, 516, 517, 518, 519, 520, 521, 539, 540, 541, 542, 543, 544, 545, 546, 547] (by decide +kernel) (by decide +kernel)
set_option maxRecDepth 20000 in
theorem gL_law_X2_orders : GoodIn wsL_law (wsV RL 133 RX2 yX2_orders wsX2_orders) := goodIn_app (goodIn_of _ (by decide +kernel)) ggL_law_X2_orders
set_option maxRecDepth 20000 in
theorem ggL_law_X3_orders : GoodIn wsL_law wsX3_orders := goodIn_r _ [456, 100, 457, 458, 459, 5, 460, 83, 82, 71, 276, 277, 278, 522, 523, 524, 525, 526, 527, 528, 529, 530, 531, 532, 533, 534, 535, 536, 537, 538] (by decide +kernel) (by decide +kernel)
set_option maxRecDepth 20000 in
theorem gL_law_X3_orders : GoodIn wsL_law (wsV RL 136 RX3 yX3_orders wsX3_orders) := goodIn_app (goodIn_of _ (by decide +kernel)) ggL_law_X3_orders
set_option maxRecDepth 20000 in
theorem ggL_law_L_chances : GoodIn wsL_law wsL_chances := goodIn_ca (goodIn_r _ [463, 115, 464, 465, 466, 2, 467, 407, 408, 409, 410, 121, 122, 16, 123, 124, 125, 15, 126, 50, 376, 377, 378, 379, 48, 468, 469, 470, 471, 60, 21, 43, 204, 205, 206, 19, 207, 208, 200, 201, 202, 203, 59, 20, 209, 210, 211, 212, 213, 214, 215, 216, 217, 218, 219, 220, 38, 221, 222, 223, 224, 34, 225, 226, 227, 228, 33, 31, 32, 29, 30, 229, 230, 231, 232, 233, 234, 235, 236, 237, 238, 239, 472, 473, 474, 475, 476, 477, 478, 479, 480, 481, 340, 341, 342, 244, 245, 246, 247, 248, 249, 250, 251, 23, 240, 241, 242, 243, 482, 483, 484, 485, 252, 253, 254, 255, 25, 24, 256, 257, 258, 259, 260, 261, 262, 263, 264, 265, 266, 314, 315, 316, 317, 318, 319, 320, 321, 411, 412, 413, 414, 513, 514, 515, 516, 517, 518, 519, 520, 521, 539, 540, 541, 542, 543, 544, 545, 546, 547, 548, 549] (by decide +kernel) (by decide +kernel)) (goodIn_sub (fun _ h => List.mem_append_left _ (List.mem_append_right _ h)) (by decide +kernel))
set_option maxRecDepth 20000 in
theorem gL_law_L_chances : GoodIn wsL_law (va_wsS RL 137 yL_chances wsL_chances) := goodIn_app (goodIn_of _ (by decide +kernel)) ggL_law_L_chances
set_option maxRecDepth 20000 in
theorem ggL_law_X3_chances : GoodIn wsL_law wsX3_chances := goodIn_r _ [489, 271, 76, 423, 424, 425, 5, 426, 100, 141, 142, 143, 144, 104, 105, 106, 107, 82, 83, 101, 102, 103, 388, 389, 390, 391, 272, 273, 274, 275, 72, 73, 276, 277, 278, 279, 280, 281, 282, 74, 283, 284, 285, 286, 65, 68, 69, 66, 71, 457, 458, 459, 460, 490, 491, 492, 493, 75, 77, 494, 495, 496, 497, 522, 523, 524, 525, 526, 527, 528, 529, 530, 531, 532, 533, 534, 535, 536, 537, 538] (by decide +kernel) (by decide +kernel)
set_option maxRecDepth 20000 in
theorem gL_law_X3_chances : GoodIn wsL_law (wsV RL 139 RX3 yX3_chances wsX3_chances) := goodIn_app (goodIn_of _ (by decide +kernel)) ggL_law_X3_chances
set_option maxRecDepth 20000 in
theorem ggL_law_L_pairings : GoodIn wsL_law wsL_pairings := goodIn_ca (goodIn_r _ [500, 115, 501, 502, 503, 2, 504, 167, 168, 169, 170, 121, 122, 16, 123, 124, 125, 15, 126, 50, 468, 469, 470, 471, 60, 21, 43, 204, 205, 206, 19, 207, 208, 200, 201, 202, 203, 59, 20, 209, 210, 211, 212, 213, 214, 215, 216, 48, 217, 218, 219, 220, 38, 221, 222, 223, 224, 34, 225, 226, 227, 228, 33, 31, 32, 29, 30, 229, 230, 231, 232, 233, 234, 235, 236, 237, 238, 239, 472, 473, 474, 475, 476, 477, 478, 479, 480, 481, 340, 341, 342, 244, 245, 246, 247, 248, 249, 250, 251, 23, 240, 241, 242, 243, 482, 483, 484, 485, 252, 253, 254, 255, 25, 24, 256, 257, 258, 259, 260, 261, 262, 263, 264, 265, 266, 314, 315, 316, 317, 318, 319, 320, 321, 505, 506, 507, 508, 513, 514, 515, 516, 517, 518, 519, 520, 521, 539, 540, 541, 542, 543, 544, 545, 546, 547, 548, 549] (by decide +kernel) (by decide +kernel)) (goodIn_sub (fun _ h => List.mem_append_left _ (List.mem_append_right _ h)) (by decide +kernel))
set_option maxRecDepth 20000 in
theorem gL_law_L_pairings : GoodIn wsL_law (va_wsS RL 140 yL_pairings wsL_pairings) := goodIn_app (goodIn_of _ (by decide +kernel)) ggL_law_L_pairings
set_option maxRecDepth 20000 in
theorem ggL_law_X3_pairings : GoodIn wsL_law wsX3_pairings := goodIn_r _ [512, 100, 271, 76, 141, 142, 143, 5, 144, 104, 105, 106, 107, 82, 83, 101, 102, 103, 272, 273, 274, 275, 72, 73, 276, 277, 278, 279, 280, 281, 282, 74, 283, 284, 285, 286, 65, 68, 69, 66, 71, 457, 458, 459, 460, 490, 491, 492, 493, 75, 77, 494, 495, 496, 497, 522, 523, 524, 525, 526, 527, 528, 529, 530, 531, 532, 533, 534, 535, 536, 537, 538] (by decide +kernel) (by decide +kernel)
set_option maxRecDepth 20000 in
theorem gL_law_X3_pairings : GoodIn wsL_law (wsV RL 142 RX3 yX3_pairings wsX3_pairings) := goodIn_app (goodIn_of _ (by decide +kernel)) ggL_law_X3_pairings
