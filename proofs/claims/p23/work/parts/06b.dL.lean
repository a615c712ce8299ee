set_option maxRecDepth 20000 in
theorem ggL_isDraw_L_lays : GoodIn wsL_isDraw wsL_lays := goodIn_r _ [6, 7, 8, 5, 9] (by decide +kernel) (by decide +kernel)
set_option maxRecDepth 20000 in
theorem gL_isDraw_L_lays : GoodIn wsL_isDraw (va_wsS RL 41 yL_lays wsL_lays) := goodIn_app (goodIn_of _ (by decide +kernel)) ggL_isDraw_L_lays
set_option maxRecDepth 20000 in
theorem ggL_isDraw_L_count : GoodIn wsL_isDraw wsL_count := goodIn_r _ [12, 13, 14, 5, 15] (by decide +kernel) (by decide +kernel)
set_option maxRecDepth 20000 in
theorem gL_isDraw_L_count : GoodIn wsL_isDraw (va_wsS RL 21 yL_count wsL_count) := goodIn_app (goodIn_of _ (by decide +kernel)) ggL_isDraw_L_count
set_option maxRecDepth 20000 in
theorem ggL_isDraw_X2_drawn : GoodIn wsL_isDraw wsX2_drawn := goodIn_r _ [20, 21, 234, 235, 236, 237, 238, 239, 240, 241, 242] (by decide +kernel) (by decide +kernel)
set_option maxRecDepth 20000 in
theorem gL_isDraw_X2_drawn : GoodIn wsL_isDraw (wsV RL 78 RX2 yX2_drawn wsX2_drawn) := goodIn_app (goodIn_of _ (by decide +kernel)) ggL_isDraw_X2_drawn
set_option maxRecDepth 20000 in
theorem ggL_isDraw_X2_pot : GoodIn wsL_isDraw wsX2_pot := goodIn_r _ [25, 26, 27, 28, 29, 19, 30, 31, 234, 235, 236, 237, 238, 239, 240, 241, 242, 243, 244, 245, 246, 247, 248, 249, 250, 251] (by decide +kernel) (by decide +kernel)
set_option maxRecDepth 20000 in
theorem gL_isDraw_X2_pot : GoodIn wsL_isDraw (wsV RL 81 RX2 yX2_pot wsX2_pot) := goodIn_app (goodIn_of _ (by decide +kernel)) ggL_isDraw_X2_pot
set_option maxRecDepth 20000 in
theorem ggL_isDraw_X2_left : GoodIn wsL_isDraw wsX2_left := goodIn_r _ [35, 36, 23, 24, 19, 25, 26, 27, 28, 29, 30, 31, 234, 235, 236, 237, 238, 239, 240, 241, 242, 243, 244, 245, 246, 247, 248, 249, 250, 251] (by decide +kernel) (by decide +kernel)
set_option maxRecDepth 20000 in
theorem gL_isDraw_X2_left : GoodIn wsL_isDraw (wsV RL 84 RX2 yX2_left wsX2_left) := goodIn_app (goodIn_of _ (by decide +kernel)) ggL_isDraw_X2_left
set_option maxRecDepth 20000 in
theorem ggL_isDraw_L_left : GoodIn wsL_isDraw wsL_left := goodIn_r _ [39] (by decide +kernel) (by decide +kernel)
set_option maxRecDepth 20000 in
theorem gL_isDraw_L_left : GoodIn wsL_isDraw (va_wsS RL 33 yL_left wsL_left) := goodIn_app (goodIn_of _ (by decide +kernel)) ggL_isDraw_L_left
set_option maxRecDepth 20000 in
theorem ggL_isDraw_X2_results : GoodIn wsL_isDraw wsX2_results := goodIn_r _ [43, 44, 45, 46, 19, 47, 48, 49, 26, 50, 51, 52, 53, 54, 55, 56, 57, 58, 59, 60, 61, 62, 63, 64, 65, 66, 67, 68, 69, 70, 71, 72, 73, 74, 75, 76, 77, 78, 79, 80, 81, 82, 83, 84, 85, 86, 87, 88, 89, 90, 91, 92, 93, 94, 95, 96, 252, 253, 234, 235, 236, 237, 238, 239, 240, 241, 242, 243, 244, 245, 246, 247, 248, 249, 250, 251] (by decide +kernel) (by decide +kernel)
set_option maxRecDepth 20000 in
theorem gL_isDraw_X2_results : GoodIn wsL_isDraw (wsV RL 86 RX2 yX2_results wsX2_results) := goodIn_app (goodIn_of _ (by decide +kernel)) ggL_isDraw_X2_results
set_option maxRecDepth 20000 in
theorem ggL_isDraw_X2_orders : GoodIn wsL_isDraw wsX2_orders := goodIn_r _ [100, 26, 27, 28, 29, 19, 30, 31, 101, 102, 103, 234, 235, 236, 237, 238, 239, 240, 241, 242, 243, 244, 245, 246, 247, 248, 249, 250, 251] (by decide +kernel) (by decide +kernel)
set_option maxRecDepth 20000 in
theorem gL_isDraw_X2_orders : GoodIn wsL_isDraw (wsV RL 89 RX2 yX2_orders wsX2_orders) := goodIn_app (goodIn_of _ (by decide +kernel)) ggL_isDraw_X2_orders
set_option maxRecDepth 20000 in
theorem ggL_isDraw_L_all : GoodIn wsL_isDraw wsL_all := goodIn_r _ [106, 37, 38, 5, 39, 107, 108, 109] (by decide +kernel) (by decide +kernel)
set_option maxRecDepth 20000 in
theorem gL_isDraw_L_all : GoodIn wsL_isDraw (va_wsS RL 91 yL_all wsL_all) := goodIn_app (goodIn_of _ (by decide +kernel)) ggL_isDraw_L_all
set_option maxRecDepth 20000 in
theorem ggL_isDraw_L_withTeam : GoodIn wsL_isDraw wsL_withTeam := goodIn_r _ [112, 10, 11, 5, 12, 13, 14, 15] (by decide +kernel) (by decide +kernel)
set_option maxRecDepth 20000 in
theorem gL_isDraw_L_withTeam : GoodIn wsL_isDraw (va_wsS RL 25 yL_withTeam wsL_withTeam) := goodIn_app (goodIn_of _ (by decide +kernel)) ggL_isDraw_L_withTeam
set_option maxRecDepth 20000 in
theorem ggL_isDraw_X2_fits : GoodIn wsL_isDraw wsX2_fits := goodIn_ca (goodIn_r _ [116, 117, 118, 119, 19, 120, 121, 122, 26, 123, 124, 125, 59, 126, 65, 127, 128, 129, 130, 66, 44, 45, 46, 47, 48, 49, 50, 51, 52, 53, 54, 55, 56, 57, 58, 60, 61, 62, 63, 64, 67, 68, 69, 70, 71, 72, 73, 74, 75, 76, 77, 78, 79, 80, 81, 82, 83, 84, 85, 86, 87, 88, 89, 90, 91, 92, 93, 94, 95, 96, 131, 132, 133, 134, 135, 136, 137, 234, 235, 236, 237, 238, 239, 240, 241, 242, 243, 244, 245, 246, 247, 248, 249, 250, 251, 252, 253] (by decide +kernel) (by decide +kernel)) (goodIn_sub (fun _ h => List.mem_cons_of_mem _ (List.mem_append_right _ h)) (by decide +kernel))
set_option maxRecDepth 20000 in
theorem gL_isDraw_X2_fits : GoodIn wsL_isDraw (wsV RL 95 RX2 yX2_fits wsX2_fits) := goodIn_app (goodIn_of _ (by decide +kernel)) ggL_isDraw_X2_fits
set_option maxRecDepth 20000 in
theorem ggL_isDraw_X2_evenly : GoodIn wsL_isDraw wsX2_evenly := goodIn_ca (goodIn_r _ [141, 117, 118, 119, 19, 120, 121, 122, 26, 123, 124, 125, 59, 126, 65, 127, 128, 129, 130, 66, 44, 45, 46, 47, 48, 49, 50, 51, 52, 53, 54, 55, 56, 57, 58, 60, 61, 62, 63, 64, 67, 68, 69, 70, 71, 72, 73, 74, 75, 76, 77, 78, 79, 80, 81, 82, 83, 84, 85, 86, 87, 88, 89, 90, 91, 92, 93, 94, 95, 96, 131, 132, 133, 134, 135, 136, 137, 234, 235, 236, 237, 238, 239, 240, 241, 242, 243, 244, 245, 246, 247, 248, 249, 250, 251, 252, 253] (by decide +kernel) (by decide +kernel)) (goodIn_sub (fun _ h => List.mem_cons_of_mem _ (List.mem_append_right _ h)) (by decide +kernel))
set_option maxRecDepth 20000 in
theorem gL_isDraw_X2_evenly : GoodIn wsL_isDraw (wsV RL 99 RX2 yX2_evenly wsX2_evenly) := goodIn_app (goodIn_of _ (by decide +kernel)) ggL_isDraw_X2_evenly
set_option maxRecDepth 20000 in
theorem ggL_isDraw_X2_teamAt : GoodIn wsL_isDraw wsX2_teamAt := goodIn_ca (goodIn_r _ [145, 121, 122, 26, 31, 127, 128, 129, 59, 130, 66, 146, 147, 148, 149, 150, 234, 235, 236, 237, 238, 239, 240, 241, 242, 243, 244, 245, 246, 247, 248, 249, 250, 251] (by decide +kernel) (by decide +kernel)) (goodIn_sub (fun _ h => List.mem_cons_of_mem _ (List.mem_append_right _ h)) (by decide +kernel))
set_option maxRecDepth 20000 in
theorem gL_isDraw_X2_teamAt : GoodIn wsL_isDraw (wsV RL 102 RX2 yX2_teamAt wsX2_teamAt) := goodIn_app (goodIn_of _ (by decide +kernel)) ggL_isDraw_X2_teamAt
set_option maxRecDepth 20000 in
theorem ggL_isDraw_X2_forced : GoodIn wsL_isDraw wsX2_forced := goodIn_ca (goodIn_r _ [154, 155, 156, 157, 19, 158, 121, 122, 26, 123, 124, 125, 59, 126, 65, 44, 45, 46, 47, 48, 49, 50, 51, 52, 53, 54, 55, 56, 57, 58, 60, 61, 62, 63, 64, 66, 67, 68, 69, 70, 71, 72, 73, 74, 75, 76, 77, 78, 79, 80, 81, 82, 83, 84, 85, 86, 87, 88, 89, 90, 91, 92, 93, 94, 95, 96, 159, 160, 161, 162, 135, 136, 137, 131, 132, 133, 134, 252, 253, 234, 235, 236, 237, 238, 239, 240, 241, 242, 243, 244, 245, 246, 247, 248, 249, 250, 251] (by decide +kernel) (by decide +kernel)) (goodIn_sub (fun _ h => List.mem_cons_of_mem _ (List.mem_append_right _ h)) (by decide +kernel))
set_option maxRecDepth 20000 in
theorem gL_isDraw_X2_forced : GoodIn wsL_isDraw (wsV RL 105 RX2 yX2_forced wsX2_forced) := goodIn_app (goodIn_of _ (by decide +kernel)) ggL_isDraw_X2_forced
set_option maxRecDepth 20000 in
theorem ggL_isDraw_X2_groupOf : GoodIn wsL_isDraw wsX2_groupOf := goodIn_ca (goodIn_r _ [166, 31, 155, 156, 157, 19, 158, 121, 122, 26, 123, 124, 125, 59, 126, 65, 234, 235, 236, 237, 238, 239, 240, 241, 242, 243, 244, 245, 246, 247, 248, 249, 250, 251] (by decide +kernel) (by decide +kernel)) (goodIn_sub (fun _ h => List.mem_cons_of_mem _ (List.mem_append_right _ h)) (by decide +kernel))
set_option maxRecDepth 20000 in
theorem gL_isDraw_X2_groupOf : GoodIn wsL_isDraw (wsV RL 108 RX2 yX2_groupOf wsX2_groupOf) := goodIn_app (goodIn_of _ (by decide +kernel)) ggL_isDraw_X2_groupOf
set_option maxRecDepth 20000 in
theorem ggL_isDraw_X2_ballAt : GoodIn wsL_isDraw wsX2_ballAt := goodIn_ca (goodIn_r _ [170, 121, 122, 171, 172, 173, 19, 174, 26, 31, 36, 23, 24, 25, 27, 28, 29, 30, 234, 235, 236, 237, 238, 239, 240, 241, 242, 243, 244, 245, 246, 247, 248, 249, 250, 251] (by decide +kernel) (by decide +kernel)) (goodIn_sub (fun _ h => List.mem_cons_of_mem _ (List.mem_append_right _ h)) (by decide +kernel))
set_option maxRecDepth 20000 in
theorem gL_isDraw_X2_ballAt : GoodIn wsL_isDraw (wsV RL 111 RX2 yX2_ballAt wsX2_ballAt) := goodIn_app (goodIn_of _ (by decide +kernel)) ggL_isDraw_X2_ballAt
set_option maxRecDepth 20000 in
theorem ggL_isDraw_L_follows : GoodIn wsL_isDraw wsL_follows := goodIn_r _ [177, 1, 3, 4, 5, 6, 7, 8, 9, 37, 38, 39, 107, 108, 109, 178, 179, 180, 181, 182, 183, 110, 111, 112, 10, 11, 12, 13, 14, 15] (by decide +kernel) (by decide +kernel)
set_option maxRecDepth 20000 in
theorem gL_isDraw_L_follows : GoodIn wsL_isDraw (va_wsS RL 114 yL_follows wsL_follows) := goodIn_app (goodIn_of _ (by decide +kernel)) ggL_isDraw_L_follows
set_option maxRecDepth 20000 in
theorem ggL_isDraw_X2_chances : GoodIn wsL_isDraw wsX2_chances := goodIn_ca (goodIn_r _ [187, 117, 118, 119, 19, 120, 121, 122, 26, 123, 124, 125, 59, 126, 65, 127, 128, 129, 130, 66, 188, 189, 190, 191, 192, 193, 21, 50, 51, 52, 53, 54, 55, 44, 45, 46, 47, 48, 49, 56, 57, 58, 60, 61, 62, 63, 64, 67, 68, 69, 70, 71, 72, 73, 74, 75, 76, 77, 78, 79, 80, 81, 82, 83, 84, 85, 86, 87, 88, 89, 90, 91, 92, 93, 94, 95, 96, 194, 195, 196, 197, 198, 199, 200, 201, 202, 203, 33, 34, 35, 36, 23, 24, 25, 27, 28, 29, 30, 31, 171, 172, 173, 174, 204, 205, 206, 207, 208, 209, 210, 211, 212, 213, 159, 160, 161, 162, 135, 136, 137, 214, 215, 216, 217, 218, 219, 220, 221, 222, 223, 224, 225, 131, 132, 133, 134, 234, 235, 236, 237, 238, 239, 240, 241, 242, 243, 244, 245, 246, 247, 248, 249, 250, 251, 252, 253] (by decide +kernel) (by decide +kernel)) (goodIn_sub (fun _ h => List.mem_cons_of_mem _ (List.mem_append_right _ h)) (by decide +kernel))
set_option maxRecDepth 20000 in
theorem gL_isDraw_X2_chances : GoodIn wsL_isDraw (wsV RL 118 RX2 yX2_chances wsX2_chances) := goodIn_app (goodIn_of _ (by decide +kernel)) ggL_isDraw_X2_chances
set_option maxRecDepth 20000 in
theorem ggL_isDraw_X2_pairings : GoodIn wsL_isDraw wsX2_pairings := goodIn_ca (goodIn_r _ [229, 155, 156, 157, 19, 158, 121, 122, 26, 123, 124, 125, 59, 126, 65, 188, 189, 190, 191, 192, 193, 21, 50, 51, 52, 53, 54, 55, 44, 45, 46, 47, 48, 49, 56, 57, 58, 60, 61, 62, 63, 64, 66, 67, 68, 69, 70, 71, 72, 73, 74, 75, 76, 77, 78, 79, 80, 81, 82, 83, 84, 85, 86, 87, 88, 89, 90, 91, 92, 93, 94, 95, 96, 194, 195, 196, 197, 198, 199, 200, 201, 202, 203, 33, 34, 35, 36, 23, 24, 25, 27, 28, 29, 30, 31, 171, 172, 173, 174, 204, 205, 206, 207, 208, 209, 210, 211, 212, 213, 159, 160, 161, 162, 135, 136, 137, 214, 215, 216, 217, 218, 219, 220, 221, 222, 223, 224, 225, 230, 231, 232, 233, 234, 235, 236, 237, 238, 239, 240, 241, 242, 243, 244, 245, 246, 247, 248, 249, 250, 251, 252, 253] (by decide +kernel) (by decide +kernel)) (goodIn_sub (fun _ h => List.mem_cons_of_mem _ (List.mem_append_right _ h)) (by decide +kernel))
set_option maxRecDepth 20000 in
theorem gL_isDraw_X2_pairings : GoodIn wsL_isDraw (wsV RL 121 RX2 yX2_pairings wsX2_pairings) := goodIn_app (goodIn_of _ (by decide +kernel)) ggL_isDraw_X2_pairings
theorem dL_isDraw_0 : decode cL_isDraw 0 = .ok (.iconst 3, 1) := by decide +kernel
theorem dL_isDraw_1 : decode cL_isDraw 1 = .ok (.newarray .long, 2) := by decide +kernel
theorem dL_isDraw_3 : decode cL_isDraw 3 = .ok (.astore 6, 2) := by decide +kernel
theorem dL_isDraw_5 : decode cL_isDraw 5 = .ok (.aload_n 1, 1) := by decide +kernel
theorem dL_isDraw_6 : decode cL_isDraw 6 = .ok (.aload_n 2, 1) := by decide +kernel
theorem dL_isDraw_7 : decode cL_isDraw 7 = .ok (.aload 4, 2) := by decide +kernel
theorem dL_isDraw_9 : decode cL_isDraw 9 = .ok (.aload 6, 2) := by decide +kernel
theorem dL_isDraw_11 : decode cL_isDraw 11 = .ok (.invokestatic 41, 3) := by decide +kernel
theorem dL_isDraw_14 : decode cL_isDraw 14 = .ok (.aload_n 1, 1) := by decide +kernel
theorem dL_isDraw_15 : decode cL_isDraw 15 = .ok (.iconst 0, 1) := by decide +kernel
theorem dL_isDraw_16 : decode cL_isDraw 16 = .ok (.iaload, 1) := by decide +kernel
theorem dL_isDraw_17 : decode cL_isDraw 17 = .ok (.aload_n 1, 1) := by decide +kernel
theorem dL_isDraw_18 : decode cL_isDraw 18 = .ok (.iconst 1, 1) := by decide +kernel
theorem dL_isDraw_19 : decode cL_isDraw 19 = .ok (.iaload, 1) := by decide +kernel
theorem dL_isDraw_20 : decode cL_isDraw 20 = .ok (.imul, 1) := by decide +kernel
theorem dL_isDraw_21 : decode cL_isDraw 21 = .ok (.istore 7, 2) := by decide +kernel
theorem dL_isDraw_23 : decode cL_isDraw 23 = .ok (.aload_n 1, 1) := by decide +kernel
theorem dL_isDraw_24 : decode cL_isDraw 24 = .ok (.aload_n 3, 1) := by decide +kernel
theorem dL_isDraw_25 : decode cL_isDraw 25 = .ok (.aload 6, 2) := by decide +kernel
theorem dL_isDraw_27 : decode cL_isDraw 27 = .ok (.iconst 0, 1) := by decide +kernel
theorem dL_isDraw_28 : decode cL_isDraw 28 = .ok (.laload, 1) := by decide +kernel
theorem dL_isDraw_29 : decode cL_isDraw 29 = .ok (.aload 6, 2) := by decide +kernel
theorem dL_isDraw_31 : decode cL_isDraw 31 = .ok (.iconst 1, 1) := by decide +kernel
theorem dL_isDraw_32 : decode cL_isDraw 32 = .ok (.laload, 1) := by decide +kernel
theorem dL_isDraw_33 : decode cL_isDraw 33 = .ok (.aload 6, 2) := by decide +kernel
theorem dL_isDraw_35 : decode cL_isDraw 35 = .ok (.iconst 2, 1) := by decide +kernel
theorem dL_isDraw_36 : decode cL_isDraw 36 = .ok (.laload, 1) := by decide +kernel
theorem dL_isDraw_37 : decode cL_isDraw 37 = .ok (.invokestatic 21, 3) := by decide +kernel
theorem dL_isDraw_40 : decode cL_isDraw 40 = .ok (.istore 8, 2) := by decide +kernel
theorem dL_isDraw_42 : decode cL_isDraw 42 = .ok (.aload_n 1, 1) := by decide +kernel
theorem dL_isDraw_43 : decode cL_isDraw 43 = .ok (.iconst 2, 1) := by decide +kernel
theorem dL_isDraw_44 : decode cL_isDraw 44 = .ok (.iaload, 1) := by decide +kernel
theorem dL_isDraw_45 : decode cL_isDraw 45 = .ok (.iload 7, 2) := by decide +kernel
theorem dL_isDraw_47 : decode cL_isDraw 47 = .ok (.if_icmp .ne 7, 3) := by decide +kernel
theorem dL_isDraw_50 : decode cL_isDraw 50 = .ok (.iconst (-1), 1) := by decide +kernel
theorem dL_isDraw_51 : decode cL_isDraw 51 = .ok (.goto 10, 3) := by decide +kernel
theorem dL_isDraw_54 : decode cL_isDraw 54 = .ok (.aload_n 1, 1) := by decide +kernel
theorem dL_isDraw_55 : decode cL_isDraw 55 = .ok (.iconst 2, 1) := by decide +kernel
theorem dL_isDraw_56 : decode cL_isDraw 56 = .ok (.iaload, 1) := by decide +kernel
theorem dL_isDraw_57 : decode cL_isDraw 57 = .ok (.aload_n 1, 1) := by decide +kernel
theorem dL_isDraw_58 : decode cL_isDraw 58 = .ok (.iconst 0, 1) := by decide +kernel
theorem dL_isDraw_59 : decode cL_isDraw 59 = .ok (.iaload, 1) := by decide +kernel
theorem dL_isDraw_60 : decode cL_isDraw 60 = .ok (.idiv, 1) := by decide +kernel
theorem dL_isDraw_61 : decode cL_isDraw 61 = .ok (.istore 9, 2) := by decide +kernel
theorem dL_isDraw_63 : decode cL_isDraw 63 = .ok (.aload_n 0, 1) := by decide +kernel
theorem dL_isDraw_64 : decode cL_isDraw 64 = .ok (.invokevirtual 78, 3) := by decide +kernel
theorem dL_isDraw_67 : decode cL_isDraw 67 = .ok (.aload_n 1, 1) := by decide +kernel
theorem dL_isDraw_68 : decode cL_isDraw 68 = .ok (.iconst 2, 1) := by decide +kernel
theorem dL_isDraw_69 : decode cL_isDraw 69 = .ok (.iaload, 1) := by decide +kernel
theorem dL_isDraw_70 : decode cL_isDraw 70 = .ok (.if_icmp .ne 60, 3) := by decide +kernel
theorem dL_isDraw_73 : decode cL_isDraw 73 = .ok (.aload_n 0, 1) := by decide +kernel
theorem dL_isDraw_74 : decode cL_isDraw 74 = .ok (.invokevirtual 81, 3) := by decide +kernel
theorem dL_isDraw_77 : decode cL_isDraw 77 = .ok (.iload 9, 2) := by decide +kernel
theorem dL_isDraw_79 : decode cL_isDraw 79 = .ok (.if_icmp .ne 51, 3) := by decide +kernel
theorem dL_isDraw_82 : decode cL_isDraw 82 = .ok (.aload_n 0, 1) := by decide +kernel
theorem dL_isDraw_83 : decode cL_isDraw 83 = .ok (.invokevirtual 84, 3) := by decide +kernel
theorem dL_isDraw_86 : decode cL_isDraw 86 = .ok (.iload 9, 2) := by decide +kernel
theorem dL_isDraw_88 : decode cL_isDraw 88 = .ok (.ifCond .ge 7, 3) := by decide +kernel
theorem dL_isDraw_91 : decode cL_isDraw 91 = .ok (.iconst 0, 1) := by decide +kernel
theorem dL_isDraw_92 : decode cL_isDraw 92 = .ok (.goto 10, 3) := by decide +kernel
theorem dL_isDraw_95 : decode cL_isDraw 95 = .ok (.aload_n 1, 1) := by decide +kernel
theorem dL_isDraw_96 : decode cL_isDraw 96 = .ok (.aload_n 2, 1) := by decide +kernel
theorem dL_isDraw_97 : decode cL_isDraw 97 = .ok (.iload 9, 2) := by decide +kernel
theorem dL_isDraw_99 : decode cL_isDraw 99 = .ok (.invokestatic 33, 3) := by decide +kernel
theorem dL_isDraw_102 : decode cL_isDraw 102 = .ok (.if_icmp .ne 28, 3) := by decide +kernel
theorem dL_isDraw_105 : decode cL_isDraw 105 = .ok (.aload_n 0, 1) := by decide +kernel
theorem dL_isDraw_106 : decode cL_isDraw 106 = .ok (.invokevirtual 86, 3) := by decide +kernel
theorem dL_isDraw_109 : decode cL_isDraw 109 = .ok (.iload 8, 2) := by decide +kernel
theorem dL_isDraw_111 : decode cL_isDraw 111 = .ok (.if_icmp .ne 19, 3) := by decide +kernel
theorem dL_isDraw_114 : decode cL_isDraw 114 = .ok (.aload_n 0, 1) := by decide +kernel
theorem dL_isDraw_115 : decode cL_isDraw 115 = .ok (.invokevirtual 89, 3) := by decide +kernel
theorem dL_isDraw_118 : decode cL_isDraw 118 = .ok (.aload_n 1, 1) := by decide +kernel
theorem dL_isDraw_119 : decode cL_isDraw 119 = .ok (.aload_n 2, 1) := by decide +kernel
theorem dL_isDraw_120 : decode cL_isDraw 120 = .ok (.invokestatic 91, 3) := by decide +kernel
theorem dL_isDraw_123 : decode cL_isDraw 123 = .ok (.if_icmp .ne 7, 3) := by decide +kernel
theorem dL_isDraw_126 : decode cL_isDraw 126 = .ok (.iconst 1, 1) := by decide +kernel
theorem dL_isDraw_127 : decode cL_isDraw 127 = .ok (.goto 4, 3) := by decide +kernel
theorem dL_isDraw_130 : decode cL_isDraw 130 = .ok (.iconst 0, 1) := by decide +kernel
theorem dL_isDraw_131 : decode cL_isDraw 131 = .ok (.istore 10, 2) := by decide +kernel
theorem dL_isDraw_133 : decode cL_isDraw 133 = .ok (.iconst 0, 1) := by decide +kernel
theorem dL_isDraw_134 : decode cL_isDraw 134 = .ok (.istore 11, 2) := by decide +kernel
theorem dL_isDraw_136 : decode cL_isDraw 136 = .ok (.iconst 0, 1) := by decide +kernel
theorem dL_isDraw_137 : decode cL_isDraw 137 = .ok (.istore 12, 2) := by decide +kernel
theorem dL_isDraw_139 : decode cL_isDraw 139 = .ok (.iload 12, 2) := by decide +kernel
theorem dL_isDraw_141 : decode cL_isDraw 141 = .ok (.iload 7, 2) := by decide +kernel
theorem dL_isDraw_143 : decode cL_isDraw 143 = .ok (.if_icmp .ge 222, 3) := by decide +kernel
theorem dL_isDraw_146 : decode cL_isDraw 146 = .ok (.iload 10, 2) := by decide +kernel
theorem dL_isDraw_148 : decode cL_isDraw 148 = .ok (.ifCond .eq 217, 3) := by decide +kernel
theorem dL_isDraw_151 : decode cL_isDraw 151 = .ok (.iconst (-1), 1) := by decide +kernel
theorem dL_isDraw_152 : decode cL_isDraw 152 = .ok (.istore 13, 2) := by decide +kernel
theorem dL_isDraw_154 : decode cL_isDraw 154 = .ok (.iconst 0, 1) := by decide +kernel
theorem dL_isDraw_155 : decode cL_isDraw 155 = .ok (.istore 14, 2) := by decide +kernel
theorem dL_isDraw_157 : decode cL_isDraw 157 = .ok (.iload 14, 2) := by decide +kernel
theorem dL_isDraw_159 : decode cL_isDraw 159 = .ok (.aload_n 1, 1) := by decide +kernel
theorem dL_isDraw_160 : decode cL_isDraw 160 = .ok (.iconst 0, 1) := by decide +kernel
theorem dL_isDraw_161 : decode cL_isDraw 161 = .ok (.iaload, 1) := by decide +kernel
theorem dL_isDraw_162 : decode cL_isDraw 162 = .ok (.if_icmp .ge 117, 3) := by decide +kernel
theorem dL_isDraw_165 : decode cL_isDraw 165 = .ok (.iload 10, 2) := by decide +kernel
theorem dL_isDraw_167 : decode cL_isDraw 167 = .ok (.ifCond .eq 112, 3) := by decide +kernel
theorem dL_isDraw_170 : decode cL_isDraw 170 = .ok (.aload_n 1, 1) := by decide +kernel
theorem dL_isDraw_171 : decode cL_isDraw 171 = .ok (.aload_n 3, 1) := by decide +kernel
theorem dL_isDraw_172 : decode cL_isDraw 172 = .ok (.aload 4, 2) := by decide +kernel
theorem dL_isDraw_174 : decode cL_isDraw 174 = .ok (.aload 6, 2) := by decide +kernel
theorem dL_isDraw_176 : decode cL_isDraw 176 = .ok (.iload 12, 2) := by decide +kernel
theorem dL_isDraw_178 : decode cL_isDraw 178 = .ok (.iload 14, 2) := by decide +kernel
theorem dL_isDraw_180 : decode cL_isDraw 180 = .ok (.invokestatic 25, 3) := by decide +kernel
theorem dL_isDraw_183 : decode cL_isDraw 183 = .ok (.istore 15, 2) := by decide +kernel
theorem dL_isDraw_185 : decode cL_isDraw 185 = .ok (.iload 15, 2) := by decide +kernel
theorem dL_isDraw_187 : decode cL_isDraw 187 = .ok (.iload 8, 2) := by decide +kernel
theorem dL_isDraw_189 : decode cL_isDraw 189 = .ok (.if_icmp .ne 13, 3) := by decide +kernel
theorem dL_isDraw_192 : decode cL_isDraw 192 = .ok (.iload 8, 2) := by decide +kernel
theorem dL_isDraw_194 : decode cL_isDraw 194 = .ok (.ifCond .le 8, 3) := by decide +kernel
theorem dL_isDraw_197 : decode cL_isDraw 197 = .ok (.iload 14, 2) := by decide +kernel
theorem dL_isDraw_199 : decode cL_isDraw 199 = .ok (.goto 5, 3) := by decide +kernel
theorem dL_isDraw_202 : decode cL_isDraw 202 = .ok (.iload 13, 2) := by decide +kernel
theorem dL_isDraw_204 : decode cL_isDraw 204 = .ok (.istore 13, 2) := by decide +kernel
theorem dL_isDraw_206 : decode cL_isDraw 206 = .ok (.aload_n 0, 1) := by decide +kernel
theorem dL_isDraw_207 : decode cL_isDraw 207 = .ok (.iload 12, 2) := by decide +kernel
theorem dL_isDraw_209 : decode cL_isDraw 209 = .ok (.iload 14, 2) := by decide +kernel
theorem dL_isDraw_211 : decode cL_isDraw 211 = .ok (.invokevirtual 95, 3) := by decide +kernel
theorem dL_isDraw_214 : decode cL_isDraw 214 = .ok (.iload 15, 2) := by decide +kernel
theorem dL_isDraw_216 : decode cL_isDraw 216 = .ok (.ifCond .le 7, 3) := by decide +kernel
theorem dL_isDraw_219 : decode cL_isDraw 219 = .ok (.iconst 1, 1) := by decide +kernel
theorem dL_isDraw_220 : decode cL_isDraw 220 = .ok (.goto 4, 3) := by decide +kernel
theorem dL_isDraw_223 : decode cL_isDraw 223 = .ok (.iconst 0, 1) := by decide +kernel
theorem dL_isDraw_224 : decode cL_isDraw 224 = .ok (.if_icmp .ne 46, 3) := by decide +kernel
theorem dL_isDraw_227 : decode cL_isDraw 227 = .ok (.aload_n 0, 1) := by decide +kernel
theorem dL_isDraw_228 : decode cL_isDraw 228 = .ok (.iload 12, 2) := by decide +kernel
theorem dL_isDraw_230 : decode cL_isDraw 230 = .ok (.iload 14, 2) := by decide +kernel
theorem dL_isDraw_232 : decode cL_isDraw 232 = .ok (.invokevirtual 99, 3) := by decide +kernel
theorem dL_isDraw_235 : decode cL_isDraw 235 = .ok (.iload 15, 2) := by decide +kernel
theorem dL_isDraw_237 : decode cL_isDraw 237 = .ok (.if_icmp .ne 33, 3) := by decide +kernel
theorem dL_isDraw_240 : decode cL_isDraw 240 = .ok (.aload_n 2, 1) := by decide +kernel
theorem dL_isDraw_241 : decode cL_isDraw 241 = .ok (.iload 12, 2) := by decide +kernel
theorem dL_isDraw_243 : decode cL_isDraw 243 = .ok (.iaload, 1) := by decide +kernel
theorem dL_isDraw_244 : decode cL_isDraw 244 = .ok (.iload 14, 2) := by decide +kernel
theorem dL_isDraw_246 : decode cL_isDraw 246 = .ok (.if_icmp .ne 20, 3) := by decide +kernel
theorem dL_isDraw_249 : decode cL_isDraw 249 = .ok (.aload_n 0, 1) := by decide +kernel
theorem dL_isDraw_250 : decode cL_isDraw 250 = .ok (.iload 14, 2) := by decide +kernel
theorem dL_isDraw_252 : decode cL_isDraw 252 = .ok (.iload 12, 2) := by decide +kernel
theorem dL_isDraw_254 : decode cL_isDraw 254 = .ok (.aload_n 1, 1) := by decide +kernel
theorem dL_isDraw_255 : decode cL_isDraw 255 = .ok (.iconst 0, 1) := by decide +kernel
theorem dL_isDraw_256 : decode cL_isDraw 256 = .ok (.iaload, 1) := by decide +kernel
theorem dL_isDraw_257 : decode cL_isDraw 257 = .ok (.idiv, 1) := by decide +kernel
theorem dL_isDraw_258 : decode cL_isDraw 258 = .ok (.invokevirtual 102, 3) := by decide +kernel
theorem dL_isDraw_261 : decode cL_isDraw 261 = .ok (.iload 12, 2) := by decide +kernel
theorem dL_isDraw_263 : decode cL_isDraw 263 = .ok (.if_icmp .ne 7, 3) := by decide +kernel
theorem dL_isDraw_266 : decode cL_isDraw 266 = .ok (.iconst 1, 1) := by decide +kernel
theorem dL_isDraw_267 : decode cL_isDraw 267 = .ok (.goto 4, 3) := by decide +kernel
theorem dL_isDraw_270 : decode cL_isDraw 270 = .ok (.iconst 0, 1) := by decide +kernel
theorem dL_isDraw_271 : decode cL_isDraw 271 = .ok (.istore 10, 2) := by decide +kernel
theorem dL_isDraw_273 : decode cL_isDraw 273 = .ok (.iinc 14 1, 3) := by decide +kernel
theorem dL_isDraw_276 : decode cL_isDraw 276 = .ok (.goto (-119), 3) := by decide +kernel
theorem dL_isDraw_279 : decode cL_isDraw 279 = .ok (.iload 10, 2) := by decide +kernel
theorem dL_isDraw_281 : decode cL_isDraw 281 = .ok (.ifCond .eq 31, 3) := by decide +kernel
theorem dL_isDraw_284 : decode cL_isDraw 284 = .ok (.aload_n 0, 1) := by decide +kernel
theorem dL_isDraw_285 : decode cL_isDraw 285 = .ok (.iload 12, 2) := by decide +kernel
theorem dL_isDraw_287 : decode cL_isDraw 287 = .ok (.invokevirtual 105, 3) := by decide +kernel
theorem dL_isDraw_290 : decode cL_isDraw 290 = .ok (.iload 13, 2) := by decide +kernel
theorem dL_isDraw_292 : decode cL_isDraw 292 = .ok (.if_icmp .ne 20, 3) := by decide +kernel
theorem dL_isDraw_295 : decode cL_isDraw 295 = .ok (.aload_n 0, 1) := by decide +kernel
theorem dL_isDraw_296 : decode cL_isDraw 296 = .ok (.iload 12, 2) := by decide +kernel
theorem dL_isDraw_298 : decode cL_isDraw 298 = .ok (.invokevirtual 108, 3) := by decide +kernel
theorem dL_isDraw_301 : decode cL_isDraw 301 = .ok (.aload_n 2, 1) := by decide +kernel
theorem dL_isDraw_302 : decode cL_isDraw 302 = .ok (.iload 12, 2) := by decide +kernel
theorem dL_isDraw_304 : decode cL_isDraw 304 = .ok (.iaload, 1) := by decide +kernel
theorem dL_isDraw_305 : decode cL_isDraw 305 = .ok (.if_icmp .ne 7, 3) := by decide +kernel
theorem dL_isDraw_308 : decode cL_isDraw 308 = .ok (.iconst 1, 1) := by decide +kernel
theorem dL_isDraw_309 : decode cL_isDraw 309 = .ok (.goto 4, 3) := by decide +kernel
theorem dL_isDraw_312 : decode cL_isDraw 312 = .ok (.iconst 0, 1) := by decide +kernel
theorem dL_isDraw_313 : decode cL_isDraw 313 = .ok (.istore 10, 2) := by decide +kernel
theorem dL_isDraw_315 : decode cL_isDraw 315 = .ok (.iload 10, 2) := by decide +kernel
theorem dL_isDraw_317 : decode cL_isDraw 317 = .ok (.ifCond .eq 42, 3) := by decide +kernel
theorem dL_isDraw_320 : decode cL_isDraw 320 = .ok (.aload_n 2, 1) := by decide +kernel
theorem dL_isDraw_321 : decode cL_isDraw 321 = .ok (.iload 12, 2) := by decide +kernel
theorem dL_isDraw_323 : decode cL_isDraw 323 = .ok (.iaload, 1) := by decide +kernel
theorem dL_isDraw_324 : decode cL_isDraw 324 = .ok (.ifCond .ge 35, 3) := by decide +kernel
theorem dL_isDraw_327 : decode cL_isDraw 327 = .ok (.iload 12, 2) := by decide +kernel
theorem dL_isDraw_329 : decode cL_isDraw 329 = .ok (.aload_n 1, 1) := by decide +kernel
theorem dL_isDraw_330 : decode cL_isDraw 330 = .ok (.iconst 0, 1) := by decide +kernel
theorem dL_isDraw_331 : decode cL_isDraw 331 = .ok (.iaload, 1) := by decide +kernel
theorem dL_isDraw_332 : decode cL_isDraw 332 = .ok (.idiv, 1) := by decide +kernel
theorem dL_isDraw_333 : decode cL_isDraw 333 = .ok (.iload 9, 2) := by decide +kernel
theorem dL_isDraw_335 : decode cL_isDraw 335 = .ok (.if_icmp .ne 24, 3) := by decide +kernel
theorem dL_isDraw_338 : decode cL_isDraw 338 = .ok (.aload_n 0, 1) := by decide +kernel
theorem dL_isDraw_339 : decode cL_isDraw 339 = .ok (.iload 11, 2) := by decide +kernel
theorem dL_isDraw_341 : decode cL_isDraw 341 = .ok (.invokevirtual 111, 3) := by decide +kernel
theorem dL_isDraw_344 : decode cL_isDraw 344 = .ok (.iload 12, 2) := by decide +kernel
theorem dL_isDraw_346 : decode cL_isDraw 346 = .ok (.if_icmp .ne 7, 3) := by decide +kernel
theorem dL_isDraw_349 : decode cL_isDraw 349 = .ok (.iconst 1, 1) := by decide +kernel
theorem dL_isDraw_350 : decode cL_isDraw 350 = .ok (.goto 4, 3) := by decide +kernel
theorem dL_isDraw_353 : decode cL_isDraw 353 = .ok (.iconst 0, 1) := by decide +kernel
theorem dL_isDraw_354 : decode cL_isDraw 354 = .ok (.istore 10, 2) := by decide +kernel
theorem dL_isDraw_356 : decode cL_isDraw 356 = .ok (.iinc 11 1, 3) := by decide +kernel
theorem dL_isDraw_359 : decode cL_isDraw 359 = .ok (.iinc 12 1, 3) := by decide +kernel
theorem dL_isDraw_362 : decode cL_isDraw 362 = .ok (.goto (-223), 3) := by decide +kernel
theorem dL_isDraw_365 : decode cL_isDraw 365 = .ok (.iload 5, 2) := by decide +kernel
theorem dL_isDraw_367 : decode cL_isDraw 367 = .ok (.iload 7, 2) := by decide +kernel
theorem dL_isDraw_369 : decode cL_isDraw 369 = .ok (.irem, 1) := by decide +kernel
theorem dL_isDraw_370 : decode cL_isDraw 370 = .ok (.istore 12, 2) := by decide +kernel
theorem dL_isDraw_372 : decode cL_isDraw 372 = .ok (.iload 12, 2) := by decide +kernel
theorem dL_isDraw_374 : decode cL_isDraw 374 = .ok (.iconst 1, 1) := by decide +kernel
theorem dL_isDraw_375 : decode cL_isDraw 375 = .ok (.iadd, 1) := by decide +kernel
theorem dL_isDraw_376 : decode cL_isDraw 376 = .ok (.iload 5, 2) := by decide +kernel
theorem dL_isDraw_378 : decode cL_isDraw 378 = .ok (.iload 7, 2) := by decide +kernel
theorem dL_isDraw_380 : decode cL_isDraw 380 = .ok (.idiv, 1) := by decide +kernel
theorem dL_isDraw_381 : decode cL_isDraw 381 = .ok (.iload 7, 2) := by decide +kernel
theorem dL_isDraw_383 : decode cL_isDraw 383 = .ok (.iconst 1, 1) := by decide +kernel
theorem dL_isDraw_384 : decode cL_isDraw 384 = .ok (.isub, 1) := by decide +kernel
theorem dL_isDraw_385 : decode cL_isDraw 385 = .ok (.irem, 1) := by decide +kernel
theorem dL_isDraw_386 : decode cL_isDraw 386 = .ok (.iadd, 1) := by decide +kernel
theorem dL_isDraw_387 : decode cL_isDraw 387 = .ok (.iload 7, 2) := by decide +kernel
theorem dL_isDraw_389 : decode cL_isDraw 389 = .ok (.irem, 1) := by decide +kernel
theorem dL_isDraw_390 : decode cL_isDraw 390 = .ok (.istore 13, 2) := by decide +kernel
theorem dL_isDraw_392 : decode cL_isDraw 392 = .ok (.iload 5, 2) := by decide +kernel
theorem dL_isDraw_394 : decode cL_isDraw 394 = .ok (.bipush 7, 2) := by decide +kernel
theorem dL_isDraw_396 : decode cL_isDraw 396 = .ok (.idiv, 1) := by decide +kernel
theorem dL_isDraw_397 : decode cL_isDraw 397 = .ok (.aload_n 1, 1) := by decide +kernel
theorem dL_isDraw_398 : decode cL_isDraw 398 = .ok (.iconst 0, 1) := by decide +kernel
theorem dL_isDraw_399 : decode cL_isDraw 399 = .ok (.iaload, 1) := by decide +kernel
theorem dL_isDraw_400 : decode cL_isDraw 400 = .ok (.irem, 1) := by decide +kernel
theorem dL_isDraw_401 : decode cL_isDraw 401 = .ok (.istore 14, 2) := by decide +kernel
theorem dL_isDraw_403 : decode cL_isDraw 403 = .ok (.iconst 0, 1) := by decide +kernel
theorem dL_isDraw_404 : decode cL_isDraw 404 = .ok (.istore 15, 2) := by decide +kernel
theorem dL_isDraw_406 : decode cL_isDraw 406 = .ok (.iconst 0, 1) := by decide +kernel
theorem dL_isDraw_407 : decode cL_isDraw 407 = .ok (.istore 16, 2) := by decide +kernel
theorem dL_isDraw_409 : decode cL_isDraw 409 = .ok (.bipush 9, 2) := by decide +kernel
theorem dL_isDraw_411 : decode cL_isDraw 411 = .ok (.newarray .int, 2) := by decide +kernel
theorem dL_isDraw_413 : decode cL_isDraw 413 = .ok (.astore 17, 2) := by decide +kernel
theorem dL_isDraw_415 : decode cL_isDraw 415 = .ok (.iconst 0, 1) := by decide +kernel
theorem dL_isDraw_416 : decode cL_isDraw 416 = .ok (.istore 18, 2) := by decide +kernel
theorem dL_isDraw_418 : decode cL_isDraw 418 = .ok (.iload 18, 2) := by decide +kernel
theorem dL_isDraw_420 : decode cL_isDraw 420 = .ok (.aload_n 1, 1) := by decide +kernel
theorem dL_isDraw_421 : decode cL_isDraw 421 = .ok (.aload_n 2, 1) := by decide +kernel
theorem dL_isDraw_422 : decode cL_isDraw 422 = .ok (.invokestatic 91, 3) := by decide +kernel
theorem dL_isDraw_425 : decode cL_isDraw 425 = .ok (.if_icmp .ge 74, 3) := by decide +kernel
theorem dL_isDraw_428 : decode cL_isDraw 428 = .ok (.iload 8, 2) := by decide +kernel
theorem dL_isDraw_430 : decode cL_isDraw 430 = .ok (.ifCond .le 69, 3) := by decide +kernel
theorem dL_isDraw_433 : decode cL_isDraw 433 = .ok (.iload 10, 2) := by decide +kernel
theorem dL_isDraw_435 : decode cL_isDraw 435 = .ok (.ifCond .eq 64, 3) := by decide +kernel
theorem dL_isDraw_438 : decode cL_isDraw 438 = .ok (.aload_n 1, 1) := by decide +kernel
theorem dL_isDraw_439 : decode cL_isDraw 439 = .ok (.aload_n 2, 1) := by decide +kernel
theorem dL_isDraw_440 : decode cL_isDraw 440 = .ok (.aload_n 3, 1) := by decide +kernel
theorem dL_isDraw_441 : decode cL_isDraw 441 = .ok (.aload 4, 2) := by decide +kernel
theorem dL_isDraw_443 : decode cL_isDraw 443 = .ok (.iload 18, 2) := by decide +kernel
theorem dL_isDraw_445 : decode cL_isDraw 445 = .ok (.aload 17, 2) := by decide +kernel
theorem dL_isDraw_447 : decode cL_isDraw 447 = .ok (.invokestatic 114, 3) := by decide +kernel
theorem dL_isDraw_450 : decode cL_isDraw 450 = .ok (.iload 15, 2) := by decide +kernel
theorem dL_isDraw_452 : decode cL_isDraw 452 = .ok (.aload 17, 2) := by decide +kernel
theorem dL_isDraw_454 : decode cL_isDraw 454 = .ok (.iload 12, 2) := by decide +kernel
theorem dL_isDraw_456 : decode cL_isDraw 456 = .ok (.iaload, 1) := by decide +kernel
theorem dL_isDraw_457 : decode cL_isDraw 457 = .ok (.iload 14, 2) := by decide +kernel
theorem dL_isDraw_459 : decode cL_isDraw 459 = .ok (.if_icmp .ne 7, 3) := by decide +kernel
theorem dL_isDraw_462 : decode cL_isDraw 462 = .ok (.iconst 1, 1) := by decide +kernel
theorem dL_isDraw_463 : decode cL_isDraw 463 = .ok (.goto 4, 3) := by decide +kernel
theorem dL_isDraw_466 : decode cL_isDraw 466 = .ok (.iconst 0, 1) := by decide +kernel
theorem dL_isDraw_467 : decode cL_isDraw 467 = .ok (.iadd, 1) := by decide +kernel
theorem dL_isDraw_468 : decode cL_isDraw 468 = .ok (.istore 15, 2) := by decide +kernel
theorem dL_isDraw_470 : decode cL_isDraw 470 = .ok (.iload 16, 2) := by decide +kernel
theorem dL_isDraw_472 : decode cL_isDraw 472 = .ok (.aload 17, 2) := by decide +kernel
theorem dL_isDraw_474 : decode cL_isDraw 474 = .ok (.iload 12, 2) := by decide +kernel
theorem dL_isDraw_476 : decode cL_isDraw 476 = .ok (.iaload, 1) := by decide +kernel
theorem dL_isDraw_477 : decode cL_isDraw 477 = .ok (.aload 17, 2) := by decide +kernel
theorem dL_isDraw_479 : decode cL_isDraw 479 = .ok (.iload 13, 2) := by decide +kernel
theorem dL_isDraw_481 : decode cL_isDraw 481 = .ok (.iaload, 1) := by decide +kernel
theorem dL_isDraw_482 : decode cL_isDraw 482 = .ok (.if_icmp .ne 7, 3) := by decide +kernel
theorem dL_isDraw_485 : decode cL_isDraw 485 = .ok (.iconst 1, 1) := by decide +kernel
theorem dL_isDraw_486 : decode cL_isDraw 486 = .ok (.goto 4, 3) := by decide +kernel
theorem dL_isDraw_489 : decode cL_isDraw 489 = .ok (.iconst 0, 1) := by decide +kernel
theorem dL_isDraw_490 : decode cL_isDraw 490 = .ok (.iadd, 1) := by decide +kernel
theorem dL_isDraw_491 : decode cL_isDraw 491 = .ok (.istore 16, 2) := by decide +kernel
theorem dL_isDraw_493 : decode cL_isDraw 493 = .ok (.iinc 18 1, 3) := by decide +kernel
theorem dL_isDraw_496 : decode cL_isDraw 496 = .ok (.goto (-78), 3) := by decide +kernel
theorem dL_isDraw_499 : decode cL_isDraw 499 = .ok (.iload 10, 2) := by decide +kernel
theorem dL_isDraw_501 : decode cL_isDraw 501 = .ok (.ifCond .eq 33, 3) := by decide +kernel
theorem dL_isDraw_504 : decode cL_isDraw 504 = .ok (.aload_n 0, 1) := by decide +kernel
theorem dL_isDraw_505 : decode cL_isDraw 505 = .ok (.iload 12, 2) := by decide +kernel
theorem dL_isDraw_507 : decode cL_isDraw 507 = .ok (.iload 14, 2) := by decide +kernel
theorem dL_isDraw_509 : decode cL_isDraw 509 = .ok (.invokevirtual 118, 3) := by decide +kernel
theorem dL_isDraw_512 : decode cL_isDraw 512 = .ok (.iload 15, 2) := by decide +kernel
theorem dL_isDraw_514 : decode cL_isDraw 514 = .ok (.if_icmp .ne 20, 3) := by decide +kernel
theorem dL_isDraw_517 : decode cL_isDraw 517 = .ok (.aload_n 0, 1) := by decide +kernel
theorem dL_isDraw_518 : decode cL_isDraw 518 = .ok (.iload 12, 2) := by decide +kernel
theorem dL_isDraw_520 : decode cL_isDraw 520 = .ok (.iload 13, 2) := by decide +kernel
theorem dL_isDraw_522 : decode cL_isDraw 522 = .ok (.invokevirtual 121, 3) := by decide +kernel
theorem dL_isDraw_525 : decode cL_isDraw 525 = .ok (.iload 16, 2) := by decide +kernel
theorem dL_isDraw_527 : decode cL_isDraw 527 = .ok (.if_icmp .ne 7, 3) := by decide +kernel
theorem dL_isDraw_530 : decode cL_isDraw 530 = .ok (.iconst 1, 1) := by decide +kernel
theorem dL_isDraw_531 : decode cL_isDraw 531 = .ok (.goto 4, 3) := by decide +kernel
theorem dL_isDraw_534 : decode cL_isDraw 534 = .ok (.iconst 0, 1) := by decide +kernel
theorem dL_isDraw_535 : decode cL_isDraw 535 = .ok (.ireturn, 1) := by decide +kernel
theorem dL_begins_0 : decode cL_begins 0 = .ok (.aload_n 0, 1) := by decide +kernel
theorem dL_begins_1 : decode cL_begins 1 = .ok (.iconst 0, 1) := by decide +kernel
theorem dL_begins_2 : decode cL_begins 2 = .ok (.iload 4, 2) := by decide +kernel
theorem dL_begins_4 : decode cL_begins 4 = .ok (.iastore, 1) := by decide +kernel
theorem dL_begins_5 : decode cL_begins 5 = .ok (.aload_n 0, 1) := by decide +kernel
theorem dL_begins_6 : decode cL_begins 6 = .ok (.iconst 1, 1) := by decide +kernel
theorem dL_begins_7 : decode cL_begins 7 = .ok (.iload 5, 2) := by decide +kernel
theorem dL_begins_9 : decode cL_begins 9 = .ok (.iastore, 1) := by decide +kernel
theorem dL_begins_10 : decode cL_begins 10 = .ok (.aload_n 0, 1) := by decide +kernel
theorem dL_begins_11 : decode cL_begins 11 = .ok (.iconst 2, 1) := by decide +kernel
theorem dL_begins_12 : decode cL_begins 12 = .ok (.iconst 0, 1) := by decide +kernel
theorem dL_begins_13 : decode cL_begins 13 = .ok (.iastore, 1) := by decide +kernel
theorem dL_begins_14 : decode cL_begins 14 = .ok (.iconst 0, 1) := by decide +kernel
theorem dL_begins_15 : decode cL_begins 15 = .ok (.istore 6, 2) := by decide +kernel
theorem dL_begins_17 : decode cL_begins 17 = .ok (.iload 6, 2) := by decide +kernel
theorem dL_begins_19 : decode cL_begins 19 = .ok (.bipush 9, 2) := by decide +kernel
theorem dL_begins_21 : decode cL_begins 21 = .ok (.if_icmp .ge 32, 3) := by decide +kernel
theorem dL_begins_24 : decode cL_begins 24 = .ok (.aload_n 1, 1) := by decide +kernel
theorem dL_begins_25 : decode cL_begins 25 = .ok (.iload 6, 2) := by decide +kernel
theorem dL_begins_27 : decode cL_begins 27 = .ok (.iconst 0, 1) := by decide +kernel
theorem dL_begins_28 : decode cL_begins 28 = .ok (.iastore, 1) := by decide +kernel
theorem dL_begins_29 : decode cL_begins 29 = .ok (.aload_n 2, 1) := by decide +kernel
theorem dL_begins_30 : decode cL_begins 30 = .ok (.iload 6, 2) := by decide +kernel
theorem dL_begins_32 : decode cL_begins 32 = .ok (.iconst (-1), 1) := by decide +kernel
theorem dL_begins_33 : decode cL_begins 33 = .ok (.iastore, 1) := by decide +kernel
theorem dL_begins_34 : decode cL_begins 34 = .ok (.aload_n 3, 1) := by decide +kernel
theorem dL_begins_35 : decode cL_begins 35 = .ok (.iload 6, 2) := by decide +kernel
theorem dL_begins_37 : decode cL_begins 37 = .ok (.iconst 0, 1) := by decide +kernel
theorem dL_begins_38 : decode cL_begins 38 = .ok (.iastore, 1) := by decide +kernel
theorem dL_begins_39 : decode cL_begins 39 = .ok (.aload_n 3, 1) := by decide +kernel
theorem dL_begins_40 : decode cL_begins 40 = .ok (.bipush 9, 2) := by decide +kernel
theorem dL_begins_42 : decode cL_begins 42 = .ok (.iload 6, 2) := by decide +kernel
theorem dL_begins_44 : decode cL_begins 44 = .ok (.iadd, 1) := by decide +kernel
theorem dL_begins_45 : decode cL_begins 45 = .ok (.iconst 0, 1) := by decide +kernel
theorem dL_begins_46 : decode cL_begins 46 = .ok (.iastore, 1) := by decide +kernel
theorem dL_begins_47 : decode cL_begins 47 = .ok (.iinc 6 1, 3) := by decide +kernel
theorem dL_begins_50 : decode cL_begins 50 = .ok (.goto (-33), 3) := by decide +kernel
theorem dL_begins_53 : decode cL_begins 53 = .ok (.bipush 9, 2) := by decide +kernel
theorem dL_begins_55 : decode cL_begins 55 = .ok (.istore 6, 2) := by decide +kernel
theorem dL_begins_57 : decode cL_begins 57 = .ok (.iload 6, 2) := by decide +kernel
theorem dL_begins_59 : decode cL_begins 59 = .ok (.bipush 15, 2) := by decide +kernel
theorem dL_begins_61 : decode cL_begins 61 = .ok (.if_icmp .ge 14, 3) := by decide +kernel
theorem dL_begins_64 : decode cL_begins 64 = .ok (.aload_n 1, 1) := by decide +kernel
theorem dL_begins_65 : decode cL_begins 65 = .ok (.iload 6, 2) := by decide +kernel
theorem dL_begins_67 : decode cL_begins 67 = .ok (.iconst 3, 1) := by decide +kernel
theorem dL_begins_68 : decode cL_begins 68 = .ok (.iastore, 1) := by decide +kernel
theorem dL_begins_69 : decode cL_begins 69 = .ok (.iinc 6 1, 3) := by decide +kernel
theorem dL_begins_72 : decode cL_begins 72 = .ok (.goto (-15), 3) := by decide +kernel
theorem dL_begins_75 : decode cL_begins 75 = .ok (.return_, 1) := by decide +kernel
