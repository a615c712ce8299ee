theorem dX3_init_0 : decode cX3_init 0 = .ok (.aload_n 0, 1) := by decide +kernel
theorem dX3_init_1 : decode cX3_init 1 = .ok (.invokespecial 1, 3) := by decide +kernel
theorem dX3_init_4 : decode cX3_init 4 = .ok (.aload_n 0, 1) := by decide +kernel
theorem dX3_init_5 : decode cX3_init 5 = .ok (.bipush 9, 2) := by decide +kernel
theorem dX3_init_7 : decode cX3_init 7 = .ok (.newarray .int, 2) := by decide +kernel
theorem dX3_init_9 : decode cX3_init 9 = .ok (.putfield 7, 3) := by decide +kernel
theorem dX3_init_12 : decode cX3_init 12 = .ok (.aload_n 0, 1) := by decide +kernel
theorem dX3_init_13 : decode cX3_init 13 = .ok (.bipush 6, 2) := by decide +kernel
theorem dX3_init_15 : decode cX3_init 15 = .ok (.newarray .int, 2) := by decide +kernel
theorem dX3_init_17 : decode cX3_init 17 = .ok (.putfield 13, 3) := by decide +kernel
theorem dX3_init_20 : decode cX3_init 20 = .ok (.aload_n 0, 1) := by decide +kernel
theorem dX3_init_21 : decode cX3_init 21 = .ok (.bipush 81, 2) := by decide +kernel
theorem dX3_init_23 : decode cX3_init 23 = .ok (.newarray .boolean, 2) := by decide +kernel
theorem dX3_init_25 : decode cX3_init 25 = .ok (.putfield 16, 3) := by decide +kernel
theorem dX3_init_28 : decode cX3_init 28 = .ok (.aload_n 0, 1) := by decide +kernel
theorem dX3_init_29 : decode cX3_init 29 = .ok (.bipush 81, 2) := by decide +kernel
theorem dX3_init_31 : decode cX3_init 31 = .ok (.newarray .boolean, 2) := by decide +kernel
theorem dX3_init_33 : decode cX3_init 33 = .ok (.putfield 20, 3) := by decide +kernel
theorem dX3_init_36 : decode cX3_init 36 = .ok (.aload_n 0, 1) := by decide +kernel
theorem dX3_init_37 : decode cX3_init 37 = .ok (.bipush 9, 2) := by decide +kernel
theorem dX3_init_39 : decode cX3_init 39 = .ok (.newarray .int, 2) := by decide +kernel
theorem dX3_init_41 : decode cX3_init 41 = .ok (.putfield 23, 3) := by decide +kernel
theorem dX3_init_44 : decode cX3_init 44 = .ok (.aload_n 0, 1) := by decide +kernel
theorem dX3_init_45 : decode cX3_init 45 = .ok (.bipush 9, 2) := by decide +kernel
theorem dX3_init_47 : decode cX3_init 47 = .ok (.newarray .int, 2) := by decide +kernel
theorem dX3_init_49 : decode cX3_init 49 = .ok (.putfield 26, 3) := by decide +kernel
theorem dX3_init_52 : decode cX3_init 52 = .ok (.aload_n 0, 1) := by decide +kernel
theorem dX3_init_53 : decode cX3_init 53 = .ok (.sipush 5184, 3) := by decide +kernel
theorem dX3_init_56 : decode cX3_init 56 = .ok (.newarray .int, 2) := by decide +kernel
theorem dX3_init_58 : decode cX3_init 58 = .ok (.putfield 29, 3) := by decide +kernel
theorem dX3_init_61 : decode cX3_init 61 = .ok (.aload_n 0, 1) := by decide +kernel
theorem dX3_init_62 : decode cX3_init 62 = .ok (.bipush 9, 2) := by decide +kernel
theorem dX3_init_64 : decode cX3_init 64 = .ok (.newarray .int, 2) := by decide +kernel
theorem dX3_init_66 : decode cX3_init 66 = .ok (.putfield 32, 3) := by decide +kernel
theorem dX3_init_69 : decode cX3_init 69 = .ok (.aload_n 0, 1) := by decide +kernel
theorem dX3_init_70 : decode cX3_init 70 = .ok (.bipush 9, 2) := by decide +kernel
theorem dX3_init_72 : decode cX3_init 72 = .ok (.newarray .boolean, 2) := by decide +kernel
theorem dX3_init_74 : decode cX3_init 74 = .ok (.putfield 35, 3) := by decide +kernel
theorem dX3_init_77 : decode cX3_init 77 = .ok (.aload_n 0, 1) := by decide +kernel
theorem dX3_init_78 : decode cX3_init 78 = .ok (.sipush 576, 3) := by decide +kernel
theorem dX3_init_81 : decode cX3_init 81 = .ok (.newarray .boolean, 2) := by decide +kernel
theorem dX3_init_83 : decode cX3_init 83 = .ok (.putfield 38, 3) := by decide +kernel
theorem dX3_init_86 : decode cX3_init 86 = .ok (.aload_n 0, 1) := by decide +kernel
theorem dX3_init_87 : decode cX3_init 87 = .ok (.bipush 9, 2) := by decide +kernel
theorem dX3_init_89 : decode cX3_init 89 = .ok (.newarray .int, 2) := by decide +kernel
theorem dX3_init_91 : decode cX3_init 91 = .ok (.putfield 41, 3) := by decide +kernel
theorem dX3_init_94 : decode cX3_init 94 = .ok (.aload_n 0, 1) := by decide +kernel
theorem dX3_init_95 : decode cX3_init 95 = .ok (.bipush 9, 2) := by decide +kernel
theorem dX3_init_97 : decode cX3_init 97 = .ok (.newarray .int, 2) := by decide +kernel
theorem dX3_init_99 : decode cX3_init 99 = .ok (.putfield 44, 3) := by decide +kernel
theorem dX3_init_102 : decode cX3_init 102 = .ok (.aload_n 0, 1) := by decide +kernel
theorem dX3_init_103 : decode cX3_init 103 = .ok (.iconst 2, 1) := by decide +kernel
theorem dX3_init_104 : decode cX3_init 104 = .ok (.iconst 2, 1) := by decide +kernel
theorem dX3_init_105 : decode cX3_init 105 = .ok (.invokevirtual 47, 3) := by decide +kernel
theorem dX3_init_108 : decode cX3_init 108 = .ok (.return_, 1) := by decide +kernel
theorem dX3_thrown_0 : decode cX3_thrown 0 = .ok (.aload_n 0, 1) := by decide +kernel
theorem dX3_thrown_1 : decode cX3_thrown 1 = .ok (.getfield 51, 3) := by decide +kernel
theorem dX3_thrown_4 : decode cX3_thrown 4 = .ok (.ireturn, 1) := by decide +kernel
theorem dX3_in_0 : decode cX3_in 0 = .ok (.iload_n 0, 1) := by decide +kernel
theorem dX3_in_1 : decode cX3_in 1 = .ok (.iload_n 1, 1) := by decide +kernel
theorem dX3_in_2 : decode cX3_in 2 = .ok (.if_icmp .lt 12, 3) := by decide +kernel
theorem dX3_in_5 : decode cX3_in 5 = .ok (.iload_n 0, 1) := by decide +kernel
theorem dX3_in_6 : decode cX3_in 6 = .ok (.iload_n 2, 1) := by decide +kernel
theorem dX3_in_7 : decode cX3_in 7 = .ok (.if_icmp .gt 7, 3) := by decide +kernel
theorem dX3_in_10 : decode cX3_in 10 = .ok (.iconst 1, 1) := by decide +kernel
theorem dX3_in_11 : decode cX3_in 11 = .ok (.goto 4, 3) := by decide +kernel
theorem dX3_in_14 : decode cX3_in 14 = .ok (.iconst 0, 1) := by decide +kernel
theorem dX3_in_15 : decode cX3_in 15 = .ok (.ireturn, 1) := by decide +kernel
theorem dX3_begin_0 : decode cX3_begin 0 = .ok (.aload_n 0, 1) := by decide +kernel
theorem dX3_begin_1 : decode cX3_begin 1 = .ok (.iload_n 1, 1) := by decide +kernel
theorem dX3_begin_2 : decode cX3_begin 2 = .ok (.putfield 55, 3) := by decide +kernel
theorem dX3_begin_5 : decode cX3_begin 5 = .ok (.aload_n 0, 1) := by decide +kernel
theorem dX3_begin_6 : decode cX3_begin 6 = .ok (.iload_n 2, 1) := by decide +kernel
theorem dX3_begin_7 : decode cX3_begin 7 = .ok (.putfield 58, 3) := by decide +kernel
theorem dX3_begin_10 : decode cX3_begin 10 = .ok (.aload_n 0, 1) := by decide +kernel
theorem dX3_begin_11 : decode cX3_begin 11 = .ok (.iconst 0, 1) := by decide +kernel
theorem dX3_begin_12 : decode cX3_begin 12 = .ok (.putfield 61, 3) := by decide +kernel
theorem dX3_begin_15 : decode cX3_begin 15 = .ok (.iconst 0, 1) := by decide +kernel
theorem dX3_begin_16 : decode cX3_begin 16 = .ok (.istore_n 3, 1) := by decide +kernel
theorem dX3_begin_17 : decode cX3_begin 17 = .ok (.iload_n 3, 1) := by decide +kernel
theorem dX3_begin_18 : decode cX3_begin 18 = .ok (.bipush 9, 2) := by decide +kernel
theorem dX3_begin_20 : decode cX3_begin 20 = .ok (.if_icmp .ge 23, 3) := by decide +kernel
theorem dX3_begin_23 : decode cX3_begin 23 = .ok (.aload_n 0, 1) := by decide +kernel
theorem dX3_begin_24 : decode cX3_begin 24 = .ok (.getfield 7, 3) := by decide +kernel
theorem dX3_begin_27 : decode cX3_begin 27 = .ok (.iload_n 3, 1) := by decide +kernel
theorem dX3_begin_28 : decode cX3_begin 28 = .ok (.iconst 0, 1) := by decide +kernel
theorem dX3_begin_29 : decode cX3_begin 29 = .ok (.iastore, 1) := by decide +kernel
theorem dX3_begin_30 : decode cX3_begin 30 = .ok (.aload_n 0, 1) := by decide +kernel
theorem dX3_begin_31 : decode cX3_begin 31 = .ok (.getfield 26, 3) := by decide +kernel
theorem dX3_begin_34 : decode cX3_begin 34 = .ok (.iload_n 3, 1) := by decide +kernel
theorem dX3_begin_35 : decode cX3_begin 35 = .ok (.iconst (-1), 1) := by decide +kernel
theorem dX3_begin_36 : decode cX3_begin 36 = .ok (.iastore, 1) := by decide +kernel
theorem dX3_begin_37 : decode cX3_begin 37 = .ok (.iinc 3 1, 3) := by decide +kernel
theorem dX3_begin_40 : decode cX3_begin 40 = .ok (.goto (-23), 3) := by decide +kernel
theorem dX3_begin_43 : decode cX3_begin 43 = .ok (.iconst 0, 1) := by decide +kernel
theorem dX3_begin_44 : decode cX3_begin 44 = .ok (.istore_n 3, 1) := by decide +kernel
theorem dX3_begin_45 : decode cX3_begin 45 = .ok (.iload_n 3, 1) := by decide +kernel
theorem dX3_begin_46 : decode cX3_begin 46 = .ok (.bipush 6, 2) := by decide +kernel
theorem dX3_begin_48 : decode cX3_begin 48 = .ok (.if_icmp .ge 16, 3) := by decide +kernel
theorem dX3_begin_51 : decode cX3_begin 51 = .ok (.aload_n 0, 1) := by decide +kernel
theorem dX3_begin_52 : decode cX3_begin 52 = .ok (.getfield 13, 3) := by decide +kernel
theorem dX3_begin_55 : decode cX3_begin 55 = .ok (.iload_n 3, 1) := by decide +kernel
theorem dX3_begin_56 : decode cX3_begin 56 = .ok (.iconst 3, 1) := by decide +kernel
theorem dX3_begin_57 : decode cX3_begin 57 = .ok (.iastore, 1) := by decide +kernel
theorem dX3_begin_58 : decode cX3_begin 58 = .ok (.iinc 3 1, 3) := by decide +kernel
theorem dX3_begin_61 : decode cX3_begin 61 = .ok (.goto (-16), 3) := by decide +kernel
theorem dX3_begin_64 : decode cX3_begin 64 = .ok (.iconst 0, 1) := by decide +kernel
theorem dX3_begin_65 : decode cX3_begin 65 = .ok (.istore_n 3, 1) := by decide +kernel
theorem dX3_begin_66 : decode cX3_begin 66 = .ok (.iload_n 3, 1) := by decide +kernel
theorem dX3_begin_67 : decode cX3_begin 67 = .ok (.bipush 81, 2) := by decide +kernel
theorem dX3_begin_69 : decode cX3_begin 69 = .ok (.if_icmp .ge 23, 3) := by decide +kernel
theorem dX3_begin_72 : decode cX3_begin 72 = .ok (.aload_n 0, 1) := by decide +kernel
theorem dX3_begin_73 : decode cX3_begin 73 = .ok (.getfield 16, 3) := by decide +kernel
theorem dX3_begin_76 : decode cX3_begin 76 = .ok (.iload_n 3, 1) := by decide +kernel
theorem dX3_begin_77 : decode cX3_begin 77 = .ok (.iconst 0, 1) := by decide +kernel
theorem dX3_begin_78 : decode cX3_begin 78 = .ok (.bastore, 1) := by decide +kernel
theorem dX3_begin_79 : decode cX3_begin 79 = .ok (.aload_n 0, 1) := by decide +kernel
theorem dX3_begin_80 : decode cX3_begin 80 = .ok (.getfield 20, 3) := by decide +kernel
theorem dX3_begin_83 : decode cX3_begin 83 = .ok (.iload_n 3, 1) := by decide +kernel
theorem dX3_begin_84 : decode cX3_begin 84 = .ok (.iconst 0, 1) := by decide +kernel
theorem dX3_begin_85 : decode cX3_begin 85 = .ok (.bastore, 1) := by decide +kernel
theorem dX3_begin_86 : decode cX3_begin 86 = .ok (.iinc 3 1, 3) := by decide +kernel
theorem dX3_begin_89 : decode cX3_begin 89 = .ok (.goto (-23), 3) := by decide +kernel
theorem dX3_begin_92 : decode cX3_begin 92 = .ok (.return_, 1) := by decide +kernel
theorem dX3_teamMany_0 : decode cX3_teamMany 0 = .ok (.aload_n 0, 1) := by decide +kernel
theorem dX3_teamMany_1 : decode cX3_teamMany 1 = .ok (.getfield 55, 3) := by decide +kernel
theorem dX3_teamMany_4 : decode cX3_teamMany 4 = .ok (.aload_n 0, 1) := by decide +kernel
theorem dX3_teamMany_5 : decode cX3_teamMany 5 = .ok (.getfield 58, 3) := by decide +kernel
theorem dX3_teamMany_8 : decode cX3_teamMany 8 = .ok (.imul, 1) := by decide +kernel
theorem dX3_teamMany_9 : decode cX3_teamMany 9 = .ok (.ireturn, 1) := by decide +kernel
set_option maxRecDepth 20000 in
theorem ggX3_isTeam_X3_teamMany : GoodIn wsX3_isTeam wsX3_teamMany := goodIn_r _ [5, 6, 7, 11, 12, 13, 14, 15, 16, 17, 18, 19, 20, 21, 22, 23, 24, 25, 26, 27] (by decide +kernel) (by decide +kernel)
set_option maxRecDepth 20000 in
theorem gX3_isTeam_X3_teamMany : GoodIn wsX3_isTeam (wsV RX3 64 RX3 yX3_teamMany wsX3_teamMany) := goodIn_app (goodIn_of _ (by decide +kernel)) ggX3_isTeam_X3_teamMany
set_option maxRecDepth 20000 in
theorem ggX3_isTeam_X3_in : GoodIn wsX3_isTeam wsX3_in := goodIn_r _ [10] (by decide +kernel) (by decide +kernel)
set_option maxRecDepth 20000 in
theorem gX3_isTeam_X3_in : GoodIn wsX3_isTeam (va_wsS RX3 68 yX3_in wsX3_in) := goodIn_app (goodIn_of _ (by decide +kernel)) ggX3_isTeam_X3_in
theorem dX3_isTeam_0 : decode cX3_isTeam 0 = .ok (.iload_n 1, 1) := by decide +kernel
theorem dX3_isTeam_1 : decode cX3_isTeam 1 = .ok (.iconst 0, 1) := by decide +kernel
theorem dX3_isTeam_2 : decode cX3_isTeam 2 = .ok (.aload_n 0, 1) := by decide +kernel
theorem dX3_isTeam_3 : decode cX3_isTeam 3 = .ok (.invokevirtual 64, 3) := by decide +kernel
theorem dX3_isTeam_6 : decode cX3_isTeam 6 = .ok (.iconst 1, 1) := by decide +kernel
theorem dX3_isTeam_7 : decode cX3_isTeam 7 = .ok (.isub, 1) := by decide +kernel
theorem dX3_isTeam_8 : decode cX3_isTeam 8 = .ok (.invokestatic 68, 3) := by decide +kernel
theorem dX3_isTeam_11 : decode cX3_isTeam 11 = .ok (.ireturn, 1) := by decide +kernel
set_option maxRecDepth 20000 in
theorem ggX3_isGroup_X3_in : GoodIn wsX3_isGroup wsX3_in := goodIn_r _ [5] (by decide +kernel) (by decide +kernel)
set_option maxRecDepth 20000 in
theorem gX3_isGroup_X3_in : GoodIn wsX3_isGroup (va_wsS RX3 68 yX3_in wsX3_in) := goodIn_app (goodIn_of _ (by decide +kernel)) ggX3_isGroup_X3_in
theorem dX3_isGroup_0 : decode cX3_isGroup 0 = .ok (.iload_n 1, 1) := by decide +kernel
theorem dX3_isGroup_1 : decode cX3_isGroup 1 = .ok (.iconst 0, 1) := by decide +kernel
theorem dX3_isGroup_2 : decode cX3_isGroup 2 = .ok (.aload_n 0, 1) := by decide +kernel
theorem dX3_isGroup_3 : decode cX3_isGroup 3 = .ok (.getfield 55, 3) := by decide +kernel
theorem dX3_isGroup_6 : decode cX3_isGroup 6 = .ok (.iconst 1, 1) := by decide +kernel
theorem dX3_isGroup_7 : decode cX3_isGroup 7 = .ok (.isub, 1) := by decide +kernel
theorem dX3_isGroup_8 : decode cX3_isGroup 8 = .ok (.invokestatic 68, 3) := by decide +kernel
theorem dX3_isGroup_11 : decode cX3_isGroup 11 = .ok (.ireturn, 1) := by decide +kernel
theorem dX3_factorial_0 : decode cX3_factorial 0 = .ok (.iconst 1, 1) := by decide +kernel
theorem dX3_factorial_1 : decode cX3_factorial 1 = .ok (.istore_n 1, 1) := by decide +kernel
theorem dX3_factorial_2 : decode cX3_factorial 2 = .ok (.iconst 2, 1) := by decide +kernel
theorem dX3_factorial_3 : decode cX3_factorial 3 = .ok (.istore_n 2, 1) := by decide +kernel
theorem dX3_factorial_4 : decode cX3_factorial 4 = .ok (.iload_n 2, 1) := by decide +kernel
theorem dX3_factorial_5 : decode cX3_factorial 5 = .ok (.iload_n 0, 1) := by decide +kernel
theorem dX3_factorial_6 : decode cX3_factorial 6 = .ok (.if_icmp .gt 13, 3) := by decide +kernel
theorem dX3_factorial_9 : decode cX3_factorial 9 = .ok (.iload_n 1, 1) := by decide +kernel
theorem dX3_factorial_10 : decode cX3_factorial 10 = .ok (.iload_n 2, 1) := by decide +kernel
theorem dX3_factorial_11 : decode cX3_factorial 11 = .ok (.imul, 1) := by decide +kernel
theorem dX3_factorial_12 : decode cX3_factorial 12 = .ok (.istore_n 1, 1) := by decide +kernel
theorem dX3_factorial_13 : decode cX3_factorial 13 = .ok (.iinc 2 1, 3) := by decide +kernel
theorem dX3_factorial_16 : decode cX3_factorial 16 = .ok (.goto (-12), 3) := by decide +kernel
theorem dX3_factorial_19 : decode cX3_factorial 19 = .ok (.iload_n 1, 1) := by decide +kernel
theorem dX3_factorial_20 : decode cX3_factorial 20 = .ok (.ireturn, 1) := by decide +kernel
set_option maxRecDepth 20000 in
theorem ggX3_lay_X3_in : GoodIn wsX3_lay wsX3_in := goodIn_r _ [5] (by decide +kernel) (by decide +kernel)
set_option maxRecDepth 20000 in
theorem gX3_lay_X3_in : GoodIn wsX3_lay (va_wsS RX3 68 yX3_in wsX3_in) := goodIn_app (goodIn_of _ (by decide +kernel)) ggX3_lay_X3_in
set_option maxRecDepth 20000 in
theorem ggX3_lay_X3_begin : GoodIn wsX3_lay wsX3_begin := goodIn_r _ [9, 10, 11, 12, 13, 14, 15, 16, 17, 22, 23, 24, 25, 26, 27, 28, 29, 30, 31, 32, 33, 34, 35, 36, 37, 38] (by decide +kernel) (by decide +kernel)
set_option maxRecDepth 20000 in
theorem gX3_lay_X3_begin : GoodIn wsX3_lay (wsV RX3 47 RX3 yX3_begin wsX3_begin) := goodIn_app (goodIn_of _ (by decide +kernel)) ggX3_lay_X3_begin
set_option maxRecDepth 20000 in
theorem ggX3_lay_X3_teamMany : GoodIn wsX3_lay wsX3_teamMany := goodIn_r _ [21, 10, 11, 22, 23, 24, 25, 26, 27, 28, 29, 30, 31, 32, 33, 34, 35, 36, 37, 38] (by decide +kernel) (by decide +kernel)
set_option maxRecDepth 20000 in
theorem gX3_lay_X3_teamMany : GoodIn wsX3_lay (wsV RX3 64 RX3 yX3_teamMany wsX3_teamMany) := goodIn_app (goodIn_of _ (by decide +kernel)) ggX3_lay_X3_teamMany
theorem dX3_lay_0 : decode cX3_lay 0 = .ok (.aload_n 0, 1) := by decide +kernel
theorem dX3_lay_1 : decode cX3_lay 1 = .ok (.iload_n 1, 1) := by decide +kernel
theorem dX3_lay_2 : decode cX3_lay 2 = .ok (.iconst 2, 1) := by decide +kernel
theorem dX3_lay_3 : decode cX3_lay 3 = .ok (.iconst 4, 1) := by decide +kernel
theorem dX3_lay_4 : decode cX3_lay 4 = .ok (.invokestatic 68, 3) := by decide +kernel
theorem dX3_lay_7 : decode cX3_lay 7 = .ok (.ifCond .eq 22, 3) := by decide +kernel
theorem dX3_lay_10 : decode cX3_lay 10 = .ok (.iload_n 2, 1) := by decide +kernel
theorem dX3_lay_11 : decode cX3_lay 11 = .ok (.iconst 2, 1) := by decide +kernel
theorem dX3_lay_12 : decode cX3_lay 12 = .ok (.iconst 3, 1) := by decide +kernel
theorem dX3_lay_13 : decode cX3_lay 13 = .ok (.invokestatic 68, 3) := by decide +kernel
theorem dX3_lay_16 : decode cX3_lay 16 = .ok (.ifCond .eq 13, 3) := by decide +kernel
theorem dX3_lay_19 : decode cX3_lay 19 = .ok (.iload_n 1, 1) := by decide +kernel
theorem dX3_lay_20 : decode cX3_lay 20 = .ok (.iconst 4, 1) := by decide +kernel
theorem dX3_lay_21 : decode cX3_lay 21 = .ok (.if_icmp .ne 12, 3) := by decide +kernel
theorem dX3_lay_24 : decode cX3_lay 24 = .ok (.iload_n 2, 1) := by decide +kernel
theorem dX3_lay_25 : decode cX3_lay 25 = .ok (.iconst 3, 1) := by decide +kernel
theorem dX3_lay_26 : decode cX3_lay 26 = .ok (.if_icmp .ne 7, 3) := by decide +kernel
theorem dX3_lay_29 : decode cX3_lay 29 = .ok (.iconst 1, 1) := by decide +kernel
theorem dX3_lay_30 : decode cX3_lay 30 = .ok (.goto 4, 3) := by decide +kernel
theorem dX3_lay_33 : decode cX3_lay 33 = .ok (.iconst 0, 1) := by decide +kernel
theorem dX3_lay_34 : decode cX3_lay 34 = .ok (.putfield 51, 3) := by decide +kernel
theorem dX3_lay_37 : decode cX3_lay 37 = .ok (.aload_n 0, 1) := by decide +kernel
theorem dX3_lay_38 : decode cX3_lay 38 = .ok (.getfield 51, 3) := by decide +kernel
theorem dX3_lay_41 : decode cX3_lay 41 = .ok (.ifCond .le 5, 3) := by decide +kernel
theorem dX3_lay_44 : decode cX3_lay 44 = .ok (.iconst 0, 1) := by decide +kernel
theorem dX3_lay_45 : decode cX3_lay 45 = .ok (.ireturn, 1) := by decide +kernel
theorem dX3_lay_46 : decode cX3_lay 46 = .ok (.aload_n 0, 1) := by decide +kernel
theorem dX3_lay_47 : decode cX3_lay 47 = .ok (.iload_n 1, 1) := by decide +kernel
theorem dX3_lay_48 : decode cX3_lay 48 = .ok (.iload_n 2, 1) := by decide +kernel
theorem dX3_lay_49 : decode cX3_lay 49 = .ok (.invokevirtual 47, 3) := by decide +kernel
theorem dX3_lay_52 : decode cX3_lay 52 = .ok (.aload_n 0, 1) := by decide +kernel
theorem dX3_lay_53 : decode cX3_lay 53 = .ok (.invokevirtual 64, 3) := by decide +kernel
theorem dX3_lay_56 : decode cX3_lay 56 = .ok (.ireturn, 1) := by decide +kernel
set_option maxRecDepth 20000 in
theorem ggX3_setRegion_X3_isTeam : GoodIn wsX3_setRegion wsX3_isTeam := goodIn_r _ [8, 9, 10, 11, 7, 12, 13, 14, 15, 16, 17, 18, 19, 20, 21, 22, 23, 24, 25, 26, 27, 28, 29, 30, 31, 32, 33, 34] (by decide +kernel) (by decide +kernel)
set_option maxRecDepth 20000 in
theorem gX3_setRegion_X3_isTeam : GoodIn wsX3_setRegion (wsV RX3 72 RX3 yX3_isTeam wsX3_isTeam) := goodIn_app (goodIn_of _ (by decide +kernel)) ggX3_setRegion_X3_isTeam
set_option maxRecDepth 20000 in
theorem ggX3_setRegion_X3_in : GoodIn wsX3_setRegion wsX3_in := goodIn_r _ [17] (by decide +kernel) (by decide +kernel)
set_option maxRecDepth 20000 in
theorem gX3_setRegion_X3_in : GoodIn wsX3_setRegion (va_wsS RX3 68 yX3_in wsX3_in) := goodIn_app (goodIn_of _ (by decide +kernel)) ggX3_setRegion_X3_in
theorem dX3_setRegion_0 : decode cX3_setRegion 0 = .ok (.aload_n 0, 1) := by decide +kernel
theorem dX3_setRegion_1 : decode cX3_setRegion 1 = .ok (.aload_n 0, 1) := by decide +kernel
theorem dX3_setRegion_2 : decode cX3_setRegion 2 = .ok (.iload_n 1, 1) := by decide +kernel
theorem dX3_setRegion_3 : decode cX3_setRegion 3 = .ok (.invokevirtual 72, 3) := by decide +kernel
theorem dX3_setRegion_6 : decode cX3_setRegion 6 = .ok (.ifCond .eq 12, 3) := by decide +kernel
theorem dX3_setRegion_9 : decode cX3_setRegion 9 = .ok (.iload_n 2, 1) := by decide +kernel
theorem dX3_setRegion_10 : decode cX3_setRegion 10 = .ok (.iconst 0, 1) := by decide +kernel
theorem dX3_setRegion_11 : decode cX3_setRegion 11 = .ok (.iconst 5, 1) := by decide +kernel
theorem dX3_setRegion_12 : decode cX3_setRegion 12 = .ok (.invokestatic 68, 3) := by decide +kernel
theorem dX3_setRegion_15 : decode cX3_setRegion 15 = .ok (.ifCond .ne 7, 3) := by decide +kernel
theorem dX3_setRegion_18 : decode cX3_setRegion 18 = .ok (.iconst 1, 1) := by decide +kernel
theorem dX3_setRegion_19 : decode cX3_setRegion 19 = .ok (.goto 15, 3) := by decide +kernel
theorem dX3_setRegion_22 : decode cX3_setRegion 22 = .ok (.aload_n 0, 1) := by decide +kernel
theorem dX3_setRegion_23 : decode cX3_setRegion 23 = .ok (.getfield 61, 3) := by decide +kernel
theorem dX3_setRegion_26 : decode cX3_setRegion 26 = .ok (.ifCond .le 7, 3) := by decide +kernel
theorem dX3_setRegion_29 : decode cX3_setRegion 29 = .ok (.iconst 2, 1) := by decide +kernel
theorem dX3_setRegion_30 : decode cX3_setRegion 30 = .ok (.goto 4, 3) := by decide +kernel
theorem dX3_setRegion_33 : decode cX3_setRegion 33 = .ok (.iconst 0, 1) := by decide +kernel
theorem dX3_setRegion_34 : decode cX3_setRegion 34 = .ok (.putfield 51, 3) := by decide +kernel
theorem dX3_setRegion_37 : decode cX3_setRegion 37 = .ok (.aload_n 0, 1) := by decide +kernel
theorem dX3_setRegion_38 : decode cX3_setRegion 38 = .ok (.getfield 51, 3) := by decide +kernel
theorem dX3_setRegion_41 : decode cX3_setRegion 41 = .ok (.ifCond .le 5, 3) := by decide +kernel
theorem dX3_setRegion_44 : decode cX3_setRegion 44 = .ok (.iconst 0, 1) := by decide +kernel
theorem dX3_setRegion_45 : decode cX3_setRegion 45 = .ok (.ireturn, 1) := by decide +kernel
theorem dX3_setRegion_46 : decode cX3_setRegion 46 = .ok (.aload_n 0, 1) := by decide +kernel
theorem dX3_setRegion_47 : decode cX3_setRegion 47 = .ok (.getfield 7, 3) := by decide +kernel
theorem dX3_setRegion_50 : decode cX3_setRegion 50 = .ok (.iload_n 1, 1) := by decide +kernel
theorem dX3_setRegion_51 : decode cX3_setRegion 51 = .ok (.iaload, 1) := by decide +kernel
theorem dX3_setRegion_52 : decode cX3_setRegion 52 = .ok (.istore_n 3, 1) := by decide +kernel
theorem dX3_setRegion_53 : decode cX3_setRegion 53 = .ok (.aload_n 0, 1) := by decide +kernel
theorem dX3_setRegion_54 : decode cX3_setRegion 54 = .ok (.getfield 7, 3) := by decide +kernel
theorem dX3_setRegion_57 : decode cX3_setRegion 57 = .ok (.iload_n 1, 1) := by decide +kernel
theorem dX3_setRegion_58 : decode cX3_setRegion 58 = .ok (.iload_n 2, 1) := by decide +kernel
theorem dX3_setRegion_59 : decode cX3_setRegion 59 = .ok (.iastore, 1) := by decide +kernel
theorem dX3_setRegion_60 : decode cX3_setRegion 60 = .ok (.iload_n 3, 1) := by decide +kernel
theorem dX3_setRegion_61 : decode cX3_setRegion 61 = .ok (.ireturn, 1) := by decide +kernel
set_option maxRecDepth 20000 in
theorem ggX3_setBound_X3_in : GoodIn wsX3_setBound wsX3_in := goodIn_r _ [7] (by decide +kernel) (by decide +kernel)
set_option maxRecDepth 20000 in
theorem gX3_setBound_X3_in : GoodIn wsX3_setBound (va_wsS RX3 68 yX3_in wsX3_in) := goodIn_app (goodIn_of _ (by decide +kernel)) ggX3_setBound_X3_in
theorem dX3_setBound_0 : decode cX3_setBound 0 = .ok (.aload_n 0, 1) := by decide +kernel
theorem dX3_setBound_1 : decode cX3_setBound 1 = .ok (.iload_n 1, 1) := by decide +kernel
theorem dX3_setBound_2 : decode cX3_setBound 2 = .ok (.iconst 0, 1) := by decide +kernel
theorem dX3_setBound_3 : decode cX3_setBound 3 = .ok (.iconst 5, 1) := by decide +kernel
theorem dX3_setBound_4 : decode cX3_setBound 4 = .ok (.invokestatic 68, 3) := by decide +kernel
theorem dX3_setBound_7 : decode cX3_setBound 7 = .ok (.ifCond .ne 7, 3) := by decide +kernel
theorem dX3_setBound_10 : decode cX3_setBound 10 = .ok (.iconst 1, 1) := by decide +kernel
theorem dX3_setBound_11 : decode cX3_setBound 11 = .ok (.goto 28, 3) := by decide +kernel
theorem dX3_setBound_14 : decode cX3_setBound 14 = .ok (.iload_n 2, 1) := by decide +kernel
theorem dX3_setBound_15 : decode cX3_setBound 15 = .ok (.iconst 1, 1) := by decide +kernel
theorem dX3_setBound_16 : decode cX3_setBound 16 = .ok (.iconst 3, 1) := by decide +kernel
theorem dX3_setBound_17 : decode cX3_setBound 17 = .ok (.invokestatic 68, 3) := by decide +kernel
theorem dX3_setBound_20 : decode cX3_setBound 20 = .ok (.ifCond .ne 7, 3) := by decide +kernel
theorem dX3_setBound_23 : decode cX3_setBound 23 = .ok (.iconst 2, 1) := by decide +kernel
theorem dX3_setBound_24 : decode cX3_setBound 24 = .ok (.goto 15, 3) := by decide +kernel
theorem dX3_setBound_27 : decode cX3_setBound 27 = .ok (.aload_n 0, 1) := by decide +kernel
theorem dX3_setBound_28 : decode cX3_setBound 28 = .ok (.getfield 61, 3) := by decide +kernel
theorem dX3_setBound_31 : decode cX3_setBound 31 = .ok (.ifCond .le 7, 3) := by decide +kernel
theorem dX3_setBound_34 : decode cX3_setBound 34 = .ok (.iconst 3, 1) := by decide +kernel
theorem dX3_setBound_35 : decode cX3_setBound 35 = .ok (.goto 4, 3) := by decide +kernel
theorem dX3_setBound_38 : decode cX3_setBound 38 = .ok (.iconst 0, 1) := by decide +kernel
theorem dX3_setBound_39 : decode cX3_setBound 39 = .ok (.putfield 51, 3) := by decide +kernel
theorem dX3_setBound_42 : decode cX3_setBound 42 = .ok (.aload_n 0, 1) := by decide +kernel
theorem dX3_setBound_43 : decode cX3_setBound 43 = .ok (.getfield 51, 3) := by decide +kernel
theorem dX3_setBound_46 : decode cX3_setBound 46 = .ok (.ifCond .le 5, 3) := by decide +kernel
theorem dX3_setBound_49 : decode cX3_setBound 49 = .ok (.iconst 0, 1) := by decide +kernel
theorem dX3_setBound_50 : decode cX3_setBound 50 = .ok (.ireturn, 1) := by decide +kernel
theorem dX3_setBound_51 : decode cX3_setBound 51 = .ok (.aload_n 0, 1) := by decide +kernel
theorem dX3_setBound_52 : decode cX3_setBound 52 = .ok (.getfield 13, 3) := by decide +kernel
theorem dX3_setBound_55 : decode cX3_setBound 55 = .ok (.iload_n 1, 1) := by decide +kernel
theorem dX3_setBound_56 : decode cX3_setBound 56 = .ok (.iaload, 1) := by decide +kernel
theorem dX3_setBound_57 : decode cX3_setBound 57 = .ok (.istore_n 3, 1) := by decide +kernel
theorem dX3_setBound_58 : decode cX3_setBound 58 = .ok (.aload_n 0, 1) := by decide +kernel
theorem dX3_setBound_59 : decode cX3_setBound 59 = .ok (.getfield 13, 3) := by decide +kernel
theorem dX3_setBound_62 : decode cX3_setBound 62 = .ok (.iload_n 1, 1) := by decide +kernel
theorem dX3_setBound_63 : decode cX3_setBound 63 = .ok (.iload_n 2, 1) := by decide +kernel
theorem dX3_setBound_64 : decode cX3_setBound 64 = .ok (.iastore, 1) := by decide +kernel
theorem dX3_setBound_65 : decode cX3_setBound 65 = .ok (.iload_n 3, 1) := by decide +kernel
theorem dX3_setBound_66 : decode cX3_setBound 66 = .ok (.ireturn, 1) := by decide +kernel
set_option maxRecDepth 20000 in
theorem ggX3_canPair_X3_isTeam : GoodIn wsX3_canPair wsX3_isTeam := goodIn_r _ [7, 8, 9, 10, 6, 11, 12, 13, 14, 15, 16, 17, 18, 19, 20, 21, 22, 23, 24, 25, 26, 27, 28, 29, 30, 31, 32, 33] (by decide +kernel) (by decide +kernel)
set_option maxRecDepth 20000 in
theorem gX3_canPair_X3_isTeam : GoodIn wsX3_canPair (wsV RX3 72 RX3 yX3_isTeam wsX3_isTeam) := goodIn_app (goodIn_of _ (by decide +kernel)) ggX3_canPair_X3_isTeam
theorem dX3_canPair_0 : decode cX3_canPair 0 = .ok (.aload_n 0, 1) := by decide +kernel
theorem dX3_canPair_1 : decode cX3_canPair 1 = .ok (.aload_n 0, 1) := by decide +kernel
theorem dX3_canPair_2 : decode cX3_canPair 2 = .ok (.iload_n 1, 1) := by decide +kernel
theorem dX3_canPair_3 : decode cX3_canPair 3 = .ok (.invokevirtual 72, 3) := by decide +kernel
theorem dX3_canPair_6 : decode cX3_canPair 6 = .ok (.ifCond .eq 11, 3) := by decide +kernel
theorem dX3_canPair_9 : decode cX3_canPair 9 = .ok (.aload_n 0, 1) := by decide +kernel
theorem dX3_canPair_10 : decode cX3_canPair 10 = .ok (.iload_n 2, 1) := by decide +kernel
theorem dX3_canPair_11 : decode cX3_canPair 11 = .ok (.invokevirtual 72, 3) := by decide +kernel
theorem dX3_canPair_14 : decode cX3_canPair 14 = .ok (.ifCond .ne 7, 3) := by decide +kernel
theorem dX3_canPair_17 : decode cX3_canPair 17 = .ok (.iconst 1, 1) := by decide +kernel
theorem dX3_canPair_18 : decode cX3_canPair 18 = .ok (.goto 24, 3) := by decide +kernel
theorem dX3_canPair_21 : decode cX3_canPair 21 = .ok (.iload_n 1, 1) := by decide +kernel
theorem dX3_canPair_22 : decode cX3_canPair 22 = .ok (.iload_n 2, 1) := by decide +kernel
theorem dX3_canPair_23 : decode cX3_canPair 23 = .ok (.if_icmp .ne 7, 3) := by decide +kernel
theorem dX3_canPair_26 : decode cX3_canPair 26 = .ok (.iconst 2, 1) := by decide +kernel
theorem dX3_canPair_27 : decode cX3_canPair 27 = .ok (.goto 15, 3) := by decide +kernel
theorem dX3_canPair_30 : decode cX3_canPair 30 = .ok (.aload_n 0, 1) := by decide +kernel
theorem dX3_canPair_31 : decode cX3_canPair 31 = .ok (.getfield 61, 3) := by decide +kernel
theorem dX3_canPair_34 : decode cX3_canPair 34 = .ok (.ifCond .le 7, 3) := by decide +kernel
theorem dX3_canPair_37 : decode cX3_canPair 37 = .ok (.iconst 3, 1) := by decide +kernel
theorem dX3_canPair_38 : decode cX3_canPair 38 = .ok (.goto 4, 3) := by decide +kernel
theorem dX3_canPair_41 : decode cX3_canPair 41 = .ok (.iconst 0, 1) := by decide +kernel
theorem dX3_canPair_42 : decode cX3_canPair 42 = .ok (.putfield 51, 3) := by decide +kernel
theorem dX3_canPair_45 : decode cX3_canPair 45 = .ok (.aload_n 0, 1) := by decide +kernel
theorem dX3_canPair_46 : decode cX3_canPair 46 = .ok (.getfield 51, 3) := by decide +kernel
theorem dX3_canPair_49 : decode cX3_canPair 49 = .ok (.ifCond .ne 7, 3) := by decide +kernel
theorem dX3_canPair_52 : decode cX3_canPair 52 = .ok (.iconst 1, 1) := by decide +kernel
theorem dX3_canPair_53 : decode cX3_canPair 53 = .ok (.goto 4, 3) := by decide +kernel
theorem dX3_canPair_56 : decode cX3_canPair 56 = .ok (.iconst 0, 1) := by decide +kernel
theorem dX3_canPair_57 : decode cX3_canPair 57 = .ok (.ireturn, 1) := by decide +kernel
set_option maxRecDepth 20000 in
theorem ggX3_setApart_X3_canPair : GoodIn wsX3_setApart wsX3_canPair := goodIn_r _ [6, 7, 8, 9, 10, 11, 5, 12, 13, 14, 15, 16, 17, 18, 19, 20, 21, 22, 23, 24, 25, 26, 27, 28, 29, 30, 31, 32, 33, 34, 35, 36, 37, 38] (by decide +kernel) (by decide +kernel)
set_option maxRecDepth 20000 in
theorem gX3_setApart_X3_canPair : GoodIn wsX3_setApart (wsV RX3 76 RX3 yX3_canPair wsX3_canPair) := goodIn_app (goodIn_of _ (by decide +kernel)) ggX3_setApart_X3_canPair
theorem dX3_setApart_0 : decode cX3_setApart 0 = .ok (.aload_n 0, 1) := by decide +kernel
theorem dX3_setApart_1 : decode cX3_setApart 1 = .ok (.iload_n 1, 1) := by decide +kernel
theorem dX3_setApart_2 : decode cX3_setApart 2 = .ok (.iload_n 2, 1) := by decide +kernel
theorem dX3_setApart_3 : decode cX3_setApart 3 = .ok (.invokevirtual 76, 3) := by decide +kernel
theorem dX3_setApart_6 : decode cX3_setApart 6 = .ok (.ifCond .ne 5, 3) := by decide +kernel
theorem dX3_setApart_9 : decode cX3_setApart 9 = .ok (.iconst 0, 1) := by decide +kernel
theorem dX3_setApart_10 : decode cX3_setApart 10 = .ok (.ireturn, 1) := by decide +kernel
theorem dX3_setApart_11 : decode cX3_setApart 11 = .ok (.aload_n 0, 1) := by decide +kernel
theorem dX3_setApart_12 : decode cX3_setApart 12 = .ok (.getfield 16, 3) := by decide +kernel
theorem dX3_setApart_15 : decode cX3_setApart 15 = .ok (.bipush 9, 2) := by decide +kernel
theorem dX3_setApart_17 : decode cX3_setApart 17 = .ok (.iload_n 1, 1) := by decide +kernel
theorem dX3_setApart_18 : decode cX3_setApart 18 = .ok (.imul, 1) := by decide +kernel
theorem dX3_setApart_19 : decode cX3_setApart 19 = .ok (.iload_n 2, 1) := by decide +kernel
theorem dX3_setApart_20 : decode cX3_setApart 20 = .ok (.iadd, 1) := by decide +kernel
theorem dX3_setApart_21 : decode cX3_setApart 21 = .ok (.baload, 1) := by decide +kernel
theorem dX3_setApart_22 : decode cX3_setApart 22 = .ok (.istore 4, 2) := by decide +kernel
theorem dX3_setApart_24 : decode cX3_setApart 24 = .ok (.aload_n 0, 1) := by decide +kernel
theorem dX3_setApart_25 : decode cX3_setApart 25 = .ok (.getfield 16, 3) := by decide +kernel
theorem dX3_setApart_28 : decode cX3_setApart 28 = .ok (.bipush 9, 2) := by decide +kernel
theorem dX3_setApart_30 : decode cX3_setApart 30 = .ok (.iload_n 1, 1) := by decide +kernel
theorem dX3_setApart_31 : decode cX3_setApart 31 = .ok (.imul, 1) := by decide +kernel
theorem dX3_setApart_32 : decode cX3_setApart 32 = .ok (.iload_n 2, 1) := by decide +kernel
theorem dX3_setApart_33 : decode cX3_setApart 33 = .ok (.iadd, 1) := by decide +kernel
theorem dX3_setApart_34 : decode cX3_setApart 34 = .ok (.iload_n 3, 1) := by decide +kernel
theorem dX3_setApart_35 : decode cX3_setApart 35 = .ok (.bastore, 1) := by decide +kernel
theorem dX3_setApart_36 : decode cX3_setApart 36 = .ok (.aload_n 0, 1) := by decide +kernel
theorem dX3_setApart_37 : decode cX3_setApart 37 = .ok (.getfield 16, 3) := by decide +kernel
theorem dX3_setApart_40 : decode cX3_setApart 40 = .ok (.bipush 9, 2) := by decide +kernel
theorem dX3_setApart_42 : decode cX3_setApart 42 = .ok (.iload_n 2, 1) := by decide +kernel
theorem dX3_setApart_43 : decode cX3_setApart 43 = .ok (.imul, 1) := by decide +kernel
theorem dX3_setApart_44 : decode cX3_setApart 44 = .ok (.iload_n 1, 1) := by decide +kernel
theorem dX3_setApart_45 : decode cX3_setApart 45 = .ok (.iadd, 1) := by decide +kernel
theorem dX3_setApart_46 : decode cX3_setApart 46 = .ok (.iload_n 3, 1) := by decide +kernel
theorem dX3_setApart_47 : decode cX3_setApart 47 = .ok (.bastore, 1) := by decide +kernel
theorem dX3_setApart_48 : decode cX3_setApart 48 = .ok (.iload 4, 2) := by decide +kernel
theorem dX3_setApart_50 : decode cX3_setApart 50 = .ok (.ireturn, 1) := by decide +kernel
set_option maxRecDepth 20000 in
theorem ggX3_setOtherDays_X3_canPair : GoodIn wsX3_setOtherDays wsX3_canPair := goodIn_r _ [6, 7, 8, 9, 10, 11, 5, 12, 13, 14, 15, 16, 17, 18, 19, 20, 21, 22, 23, 24, 25, 26, 27, 28, 29, 30, 31, 32, 33, 34, 35, 36, 37, 38] (by decide +kernel) (by decide +kernel)
set_option maxRecDepth 20000 in
theorem gX3_setOtherDays_X3_canPair : GoodIn wsX3_setOtherDays (wsV RX3 76 RX3 yX3_canPair wsX3_canPair) := goodIn_app (goodIn_of _ (by decide +kernel)) ggX3_setOtherDays_X3_canPair
theorem dX3_setOtherDays_0 : decode cX3_setOtherDays 0 = .ok (.aload_n 0, 1) := by decide +kernel
theorem dX3_setOtherDays_1 : decode cX3_setOtherDays 1 = .ok (.iload_n 1, 1) := by decide +kernel
theorem dX3_setOtherDays_2 : decode cX3_setOtherDays 2 = .ok (.iload_n 2, 1) := by decide +kernel
theorem dX3_setOtherDays_3 : decode cX3_setOtherDays 3 = .ok (.invokevirtual 76, 3) := by decide +kernel
theorem dX3_setOtherDays_6 : decode cX3_setOtherDays 6 = .ok (.ifCond .ne 5, 3) := by decide +kernel
theorem dX3_setOtherDays_9 : decode cX3_setOtherDays 9 = .ok (.iconst 0, 1) := by decide +kernel
theorem dX3_setOtherDays_10 : decode cX3_setOtherDays 10 = .ok (.ireturn, 1) := by decide +kernel
theorem dX3_setOtherDays_11 : decode cX3_setOtherDays 11 = .ok (.aload_n 0, 1) := by decide +kernel
theorem dX3_setOtherDays_12 : decode cX3_setOtherDays 12 = .ok (.getfield 20, 3) := by decide +kernel
theorem dX3_setOtherDays_15 : decode cX3_setOtherDays 15 = .ok (.bipush 9, 2) := by decide +kernel
theorem dX3_setOtherDays_17 : decode cX3_setOtherDays 17 = .ok (.iload_n 1, 1) := by decide +kernel
theorem dX3_setOtherDays_18 : decode cX3_setOtherDays 18 = .ok (.imul, 1) := by decide +kernel
theorem dX3_setOtherDays_19 : decode cX3_setOtherDays 19 = .ok (.iload_n 2, 1) := by decide +kernel
theorem dX3_setOtherDays_20 : decode cX3_setOtherDays 20 = .ok (.iadd, 1) := by decide +kernel
theorem dX3_setOtherDays_21 : decode cX3_setOtherDays 21 = .ok (.baload, 1) := by decide +kernel
theorem dX3_setOtherDays_22 : decode cX3_setOtherDays 22 = .ok (.istore 4, 2) := by decide +kernel
theorem dX3_setOtherDays_24 : decode cX3_setOtherDays 24 = .ok (.aload_n 0, 1) := by decide +kernel
theorem dX3_setOtherDays_25 : decode cX3_setOtherDays 25 = .ok (.getfield 20, 3) := by decide +kernel
theorem dX3_setOtherDays_28 : decode cX3_setOtherDays 28 = .ok (.bipush 9, 2) := by decide +kernel
theorem dX3_setOtherDays_30 : decode cX3_setOtherDays 30 = .ok (.iload_n 1, 1) := by decide +kernel
theorem dX3_setOtherDays_31 : decode cX3_setOtherDays 31 = .ok (.imul, 1) := by decide +kernel
theorem dX3_setOtherDays_32 : decode cX3_setOtherDays 32 = .ok (.iload_n 2, 1) := by decide +kernel
theorem dX3_setOtherDays_33 : decode cX3_setOtherDays 33 = .ok (.iadd, 1) := by decide +kernel
theorem dX3_setOtherDays_34 : decode cX3_setOtherDays 34 = .ok (.iload_n 3, 1) := by decide +kernel
theorem dX3_setOtherDays_35 : decode cX3_setOtherDays 35 = .ok (.bastore, 1) := by decide +kernel
theorem dX3_setOtherDays_36 : decode cX3_setOtherDays 36 = .ok (.aload_n 0, 1) := by decide +kernel
theorem dX3_setOtherDays_37 : decode cX3_setOtherDays 37 = .ok (.getfield 20, 3) := by decide +kernel
theorem dX3_setOtherDays_40 : decode cX3_setOtherDays 40 = .ok (.bipush 9, 2) := by decide +kernel
theorem dX3_setOtherDays_42 : decode cX3_setOtherDays 42 = .ok (.iload_n 2, 1) := by decide +kernel
theorem dX3_setOtherDays_43 : decode cX3_setOtherDays 43 = .ok (.imul, 1) := by decide +kernel
theorem dX3_setOtherDays_44 : decode cX3_setOtherDays 44 = .ok (.iload_n 1, 1) := by decide +kernel
theorem dX3_setOtherDays_45 : decode cX3_setOtherDays 45 = .ok (.iadd, 1) := by decide +kernel
theorem dX3_setOtherDays_46 : decode cX3_setOtherDays 46 = .ok (.iload_n 3, 1) := by decide +kernel
theorem dX3_setOtherDays_47 : decode cX3_setOtherDays 47 = .ok (.bastore, 1) := by decide +kernel
theorem dX3_setOtherDays_48 : decode cX3_setOtherDays 48 = .ok (.iload 4, 2) := by decide +kernel
theorem dX3_setOtherDays_50 : decode cX3_setOtherDays 50 = .ok (.ireturn, 1) := by decide +kernel
theorem dX3_layOrder_0 : decode cX3_layOrder 0 = .ok (.iload_n 1, 1) := by decide +kernel
theorem dX3_layOrder_1 : decode cX3_layOrder 1 = .ok (.istore 4, 2) := by decide +kernel
theorem dX3_layOrder_3 : decode cX3_layOrder 3 = .ok (.iconst 0, 1) := by decide +kernel
theorem dX3_layOrder_4 : decode cX3_layOrder 4 = .ok (.istore 5, 2) := by decide +kernel
theorem dX3_layOrder_6 : decode cX3_layOrder 6 = .ok (.iload 5, 2) := by decide +kernel
theorem dX3_layOrder_8 : decode cX3_layOrder 8 = .ok (.iload_n 2, 1) := by decide +kernel
theorem dX3_layOrder_9 : decode cX3_layOrder 9 = .ok (.if_icmp .ge 17, 3) := by decide +kernel
theorem dX3_layOrder_12 : decode cX3_layOrder 12 = .ok (.aload_n 0, 1) := by decide +kernel
theorem dX3_layOrder_13 : decode cX3_layOrder 13 = .ok (.getfield 35, 3) := by decide +kernel
theorem dX3_layOrder_16 : decode cX3_layOrder 16 = .ok (.iload 5, 2) := by decide +kernel
theorem dX3_layOrder_18 : decode cX3_layOrder 18 = .ok (.iconst 0, 1) := by decide +kernel
theorem dX3_layOrder_19 : decode cX3_layOrder 19 = .ok (.bastore, 1) := by decide +kernel
theorem dX3_layOrder_20 : decode cX3_layOrder 20 = .ok (.iinc 5 1, 3) := by decide +kernel
theorem dX3_layOrder_23 : decode cX3_layOrder 23 = .ok (.goto (-17), 3) := by decide +kernel
theorem dX3_layOrder_26 : decode cX3_layOrder 26 = .ok (.iconst 0, 1) := by decide +kernel
theorem dX3_layOrder_27 : decode cX3_layOrder 27 = .ok (.istore 5, 2) := by decide +kernel
theorem dX3_layOrder_29 : decode cX3_layOrder 29 = .ok (.iload 5, 2) := by decide +kernel
theorem dX3_layOrder_31 : decode cX3_layOrder 31 = .ok (.iload_n 2, 1) := by decide +kernel
theorem dX3_layOrder_32 : decode cX3_layOrder 32 = .ok (.if_icmp .ge 90, 3) := by decide +kernel
theorem dX3_layOrder_35 : decode cX3_layOrder 35 = .ok (.iload 4, 2) := by decide +kernel
theorem dX3_layOrder_37 : decode cX3_layOrder 37 = .ok (.iload_n 2, 1) := by decide +kernel
theorem dX3_layOrder_38 : decode cX3_layOrder 38 = .ok (.iload 5, 2) := by decide +kernel
theorem dX3_layOrder_40 : decode cX3_layOrder 40 = .ok (.isub, 1) := by decide +kernel
theorem dX3_layOrder_41 : decode cX3_layOrder 41 = .ok (.irem, 1) := by decide +kernel
theorem dX3_layOrder_42 : decode cX3_layOrder 42 = .ok (.istore 6, 2) := by decide +kernel
theorem dX3_layOrder_44 : decode cX3_layOrder 44 = .ok (.iload 4, 2) := by decide +kernel
theorem dX3_layOrder_46 : decode cX3_layOrder 46 = .ok (.iload_n 2, 1) := by decide +kernel
theorem dX3_layOrder_47 : decode cX3_layOrder 47 = .ok (.iload 5, 2) := by decide +kernel
theorem dX3_layOrder_49 : decode cX3_layOrder 49 = .ok (.isub, 1) := by decide +kernel
theorem dX3_layOrder_50 : decode cX3_layOrder 50 = .ok (.idiv, 1) := by decide +kernel
theorem dX3_layOrder_51 : decode cX3_layOrder 51 = .ok (.istore 4, 2) := by decide +kernel
theorem dX3_layOrder_53 : decode cX3_layOrder 53 = .ok (.iconst 0, 1) := by decide +kernel
theorem dX3_layOrder_54 : decode cX3_layOrder 54 = .ok (.istore 7, 2) := by decide +kernel
theorem dX3_layOrder_56 : decode cX3_layOrder 56 = .ok (.aload_n 0, 1) := by decide +kernel
theorem dX3_layOrder_57 : decode cX3_layOrder 57 = .ok (.getfield 35, 3) := by decide +kernel
theorem dX3_layOrder_60 : decode cX3_layOrder 60 = .ok (.iload 7, 2) := by decide +kernel
theorem dX3_layOrder_62 : decode cX3_layOrder 62 = .ok (.baload, 1) := by decide +kernel
theorem dX3_layOrder_63 : decode cX3_layOrder 63 = .ok (.ifCond .ne 8, 3) := by decide +kernel
theorem dX3_layOrder_66 : decode cX3_layOrder 66 = .ok (.iload 6, 2) := by decide +kernel
theorem dX3_layOrder_68 : decode cX3_layOrder 68 = .ok (.ifCond .le 29, 3) := by decide +kernel
theorem dX3_layOrder_71 : decode cX3_layOrder 71 = .ok (.iload 6, 2) := by decide +kernel
theorem dX3_layOrder_73 : decode cX3_layOrder 73 = .ok (.aload_n 0, 1) := by decide +kernel
theorem dX3_layOrder_74 : decode cX3_layOrder 74 = .ok (.getfield 35, 3) := by decide +kernel
theorem dX3_layOrder_77 : decode cX3_layOrder 77 = .ok (.iload 7, 2) := by decide +kernel
theorem dX3_layOrder_79 : decode cX3_layOrder 79 = .ok (.baload, 1) := by decide +kernel
theorem dX3_layOrder_80 : decode cX3_layOrder 80 = .ok (.ifCond .eq 7, 3) := by decide +kernel
theorem dX3_layOrder_83 : decode cX3_layOrder 83 = .ok (.iconst 0, 1) := by decide +kernel
theorem dX3_layOrder_84 : decode cX3_layOrder 84 = .ok (.goto 4, 3) := by decide +kernel
theorem dX3_layOrder_87 : decode cX3_layOrder 87 = .ok (.iconst 1, 1) := by decide +kernel
theorem dX3_layOrder_88 : decode cX3_layOrder 88 = .ok (.isub, 1) := by decide +kernel
theorem dX3_layOrder_89 : decode cX3_layOrder 89 = .ok (.istore 6, 2) := by decide +kernel
theorem dX3_layOrder_91 : decode cX3_layOrder 91 = .ok (.iinc 7 1, 3) := by decide +kernel
theorem dX3_layOrder_94 : decode cX3_layOrder 94 = .ok (.goto (-38), 3) := by decide +kernel
theorem dX3_layOrder_97 : decode cX3_layOrder 97 = .ok (.aload_n 0, 1) := by decide +kernel
theorem dX3_layOrder_98 : decode cX3_layOrder 98 = .ok (.getfield 35, 3) := by decide +kernel
theorem dX3_layOrder_101 : decode cX3_layOrder 101 = .ok (.iload 7, 2) := by decide +kernel
theorem dX3_layOrder_103 : decode cX3_layOrder 103 = .ok (.iconst 1, 1) := by decide +kernel
theorem dX3_layOrder_104 : decode cX3_layOrder 104 = .ok (.bastore, 1) := by decide +kernel
theorem dX3_layOrder_105 : decode cX3_layOrder 105 = .ok (.aload_n 0, 1) := by decide +kernel
theorem dX3_layOrder_106 : decode cX3_layOrder 106 = .ok (.getfield 32, 3) := by decide +kernel
theorem dX3_layOrder_109 : decode cX3_layOrder 109 = .ok (.iload_n 3, 1) := by decide +kernel
theorem dX3_layOrder_110 : decode cX3_layOrder 110 = .ok (.iload 5, 2) := by decide +kernel
theorem dX3_layOrder_112 : decode cX3_layOrder 112 = .ok (.iadd, 1) := by decide +kernel
theorem dX3_layOrder_113 : decode cX3_layOrder 113 = .ok (.iload 7, 2) := by decide +kernel
theorem dX3_layOrder_115 : decode cX3_layOrder 115 = .ok (.iastore, 1) := by decide +kernel
theorem dX3_layOrder_116 : decode cX3_layOrder 116 = .ok (.iinc 5 1, 3) := by decide +kernel
theorem dX3_layOrder_119 : decode cX3_layOrder 119 = .ok (.goto (-90), 3) := by decide +kernel
theorem dX3_layOrder_122 : decode cX3_layOrder 122 = .ok (.return_, 1) := by decide +kernel
set_option maxRecDepth 20000 in
theorem ggX3_isLawful_X3_teamMany : GoodIn wsX3_isLawful wsX3_teamMany := goodIn_r _ [11, 12, 13, 14, 15, 16, 17, 18, 19, 20, 21, 22, 23, 24, 25, 26, 27, 28, 29, 30] (by decide +kernel) (by decide +kernel)
set_option maxRecDepth 20000 in
theorem gX3_isLawful_X3_teamMany : GoodIn wsX3_isLawful (wsV RX3 64 RX3 yX3_teamMany wsX3_teamMany) := goodIn_app (goodIn_of _ (by decide +kernel)) ggX3_isLawful_X3_teamMany
theorem dX3_isLawful_0 : decode cX3_isLawful 0 = .ok (.iconst 0, 1) := by decide +kernel
theorem dX3_isLawful_1 : decode cX3_isLawful 1 = .ok (.istore_n 1, 1) := by decide +kernel
theorem dX3_isLawful_2 : decode cX3_isLawful 2 = .ok (.iload_n 1, 1) := by decide +kernel
theorem dX3_isLawful_3 : decode cX3_isLawful 3 = .ok (.aload_n 0, 1) := by decide +kernel
theorem dX3_isLawful_4 : decode cX3_isLawful 4 = .ok (.invokevirtual 64, 3) := by decide +kernel
theorem dX3_isLawful_7 : decode cX3_isLawful 7 = .ok (.if_icmp .ge 173, 3) := by decide +kernel
theorem dX3_isLawful_10 : decode cX3_isLawful 10 = .ok (.iconst 0, 1) := by decide +kernel
theorem dX3_isLawful_11 : decode cX3_isLawful 11 = .ok (.istore_n 2, 1) := by decide +kernel
theorem dX3_isLawful_12 : decode cX3_isLawful 12 = .ok (.iconst 0, 1) := by decide +kernel
theorem dX3_isLawful_13 : decode cX3_isLawful 13 = .ok (.istore_n 3, 1) := by decide +kernel
theorem dX3_isLawful_14 : decode cX3_isLawful 14 = .ok (.iload_n 3, 1) := by decide +kernel
theorem dX3_isLawful_15 : decode cX3_isLawful 15 = .ok (.aload_n 0, 1) := by decide +kernel
theorem dX3_isLawful_16 : decode cX3_isLawful 16 = .ok (.invokevirtual 64, 3) := by decide +kernel
theorem dX3_isLawful_19 : decode cX3_isLawful 19 = .ok (.if_icmp .ge 113, 3) := by decide +kernel
theorem dX3_isLawful_22 : decode cX3_isLawful 22 = .ok (.aload_n 0, 1) := by decide +kernel
theorem dX3_isLawful_23 : decode cX3_isLawful 23 = .ok (.getfield 32, 3) := by decide +kernel
theorem dX3_isLawful_26 : decode cX3_isLawful 26 = .ok (.iload_n 1, 1) := by decide +kernel
theorem dX3_isLawful_27 : decode cX3_isLawful 27 = .ok (.iaload, 1) := by decide +kernel
theorem dX3_isLawful_28 : decode cX3_isLawful 28 = .ok (.aload_n 0, 1) := by decide +kernel
theorem dX3_isLawful_29 : decode cX3_isLawful 29 = .ok (.getfield 32, 3) := by decide +kernel
theorem dX3_isLawful_32 : decode cX3_isLawful 32 = .ok (.iload_n 3, 1) := by decide +kernel
theorem dX3_isLawful_33 : decode cX3_isLawful 33 = .ok (.iaload, 1) := by decide +kernel
theorem dX3_isLawful_34 : decode cX3_isLawful 34 = .ok (.if_icmp .ne 7, 3) := by decide +kernel
theorem dX3_isLawful_37 : decode cX3_isLawful 37 = .ok (.iconst 1, 1) := by decide +kernel
theorem dX3_isLawful_38 : decode cX3_isLawful 38 = .ok (.goto 4, 3) := by decide +kernel
theorem dX3_isLawful_41 : decode cX3_isLawful 41 = .ok (.iconst 0, 1) := by decide +kernel
theorem dX3_isLawful_42 : decode cX3_isLawful 42 = .ok (.istore 4, 2) := by decide +kernel
theorem dX3_isLawful_44 : decode cX3_isLawful 44 = .ok (.iload_n 2, 1) := by decide +kernel
theorem dX3_isLawful_45 : decode cX3_isLawful 45 = .ok (.iload 4, 2) := by decide +kernel
theorem dX3_isLawful_47 : decode cX3_isLawful 47 = .ok (.ifCond .eq 22, 3) := by decide +kernel
theorem dX3_isLawful_50 : decode cX3_isLawful 50 = .ok (.aload_n 0, 1) := by decide +kernel
theorem dX3_isLawful_51 : decode cX3_isLawful 51 = .ok (.getfield 7, 3) := by decide +kernel
theorem dX3_isLawful_54 : decode cX3_isLawful 54 = .ok (.iload_n 1, 1) := by decide +kernel
theorem dX3_isLawful_55 : decode cX3_isLawful 55 = .ok (.iaload, 1) := by decide +kernel
theorem dX3_isLawful_56 : decode cX3_isLawful 56 = .ok (.aload_n 0, 1) := by decide +kernel
theorem dX3_isLawful_57 : decode cX3_isLawful 57 = .ok (.getfield 7, 3) := by decide +kernel
theorem dX3_isLawful_60 : decode cX3_isLawful 60 = .ok (.iload_n 3, 1) := by decide +kernel
theorem dX3_isLawful_61 : decode cX3_isLawful 61 = .ok (.iaload, 1) := by decide +kernel
theorem dX3_isLawful_62 : decode cX3_isLawful 62 = .ok (.if_icmp .ne 7, 3) := by decide +kernel
theorem dX3_isLawful_65 : decode cX3_isLawful 65 = .ok (.iconst 1, 1) := by decide +kernel
theorem dX3_isLawful_66 : decode cX3_isLawful 66 = .ok (.goto 4, 3) := by decide +kernel
theorem dX3_isLawful_69 : decode cX3_isLawful 69 = .ok (.iconst 0, 1) := by decide +kernel
theorem dX3_isLawful_70 : decode cX3_isLawful 70 = .ok (.iadd, 1) := by decide +kernel
theorem dX3_isLawful_71 : decode cX3_isLawful 71 = .ok (.istore_n 2, 1) := by decide +kernel
theorem dX3_isLawful_72 : decode cX3_isLawful 72 = .ok (.aload_n 0, 1) := by decide +kernel
theorem dX3_isLawful_73 : decode cX3_isLawful 73 = .ok (.getfield 16, 3) := by decide +kernel
theorem dX3_isLawful_76 : decode cX3_isLawful 76 = .ok (.bipush 9, 2) := by decide +kernel
theorem dX3_isLawful_78 : decode cX3_isLawful 78 = .ok (.iload_n 1, 1) := by decide +kernel
theorem dX3_isLawful_79 : decode cX3_isLawful 79 = .ok (.imul, 1) := by decide +kernel
theorem dX3_isLawful_80 : decode cX3_isLawful 80 = .ok (.iload_n 3, 1) := by decide +kernel
theorem dX3_isLawful_81 : decode cX3_isLawful 81 = .ok (.iadd, 1) := by decide +kernel
theorem dX3_isLawful_82 : decode cX3_isLawful 82 = .ok (.baload, 1) := by decide +kernel
theorem dX3_isLawful_83 : decode cX3_isLawful 83 = .ok (.ifCond .eq 8, 3) := by decide +kernel
theorem dX3_isLawful_86 : decode cX3_isLawful 86 = .ok (.iload 4, 2) := by decide +kernel
theorem dX3_isLawful_88 : decode cX3_isLawful 88 = .ok (.ifCond .ne 36, 3) := by decide +kernel
theorem dX3_isLawful_91 : decode cX3_isLawful 91 = .ok (.aload_n 0, 1) := by decide +kernel
theorem dX3_isLawful_92 : decode cX3_isLawful 92 = .ok (.getfield 20, 3) := by decide +kernel
theorem dX3_isLawful_95 : decode cX3_isLawful 95 = .ok (.bipush 9, 2) := by decide +kernel
theorem dX3_isLawful_97 : decode cX3_isLawful 97 = .ok (.iload_n 1, 1) := by decide +kernel
theorem dX3_isLawful_98 : decode cX3_isLawful 98 = .ok (.imul, 1) := by decide +kernel
theorem dX3_isLawful_99 : decode cX3_isLawful 99 = .ok (.iload_n 3, 1) := by decide +kernel
theorem dX3_isLawful_100 : decode cX3_isLawful 100 = .ok (.iadd, 1) := by decide +kernel
theorem dX3_isLawful_101 : decode cX3_isLawful 101 = .ok (.baload, 1) := by decide +kernel
theorem dX3_isLawful_102 : decode cX3_isLawful 102 = .ok (.ifCond .eq 24, 3) := by decide +kernel
theorem dX3_isLawful_105 : decode cX3_isLawful 105 = .ok (.aload_n 0, 1) := by decide +kernel
theorem dX3_isLawful_106 : decode cX3_isLawful 106 = .ok (.getfield 32, 3) := by decide +kernel
theorem dX3_isLawful_109 : decode cX3_isLawful 109 = .ok (.iload_n 1, 1) := by decide +kernel
theorem dX3_isLawful_110 : decode cX3_isLawful 110 = .ok (.iaload, 1) := by decide +kernel
theorem dX3_isLawful_111 : decode cX3_isLawful 111 = .ok (.iconst 2, 1) := by decide +kernel
theorem dX3_isLawful_112 : decode cX3_isLawful 112 = .ok (.irem, 1) := by decide +kernel
theorem dX3_isLawful_113 : decode cX3_isLawful 113 = .ok (.aload_n 0, 1) := by decide +kernel
theorem dX3_isLawful_114 : decode cX3_isLawful 114 = .ok (.getfield 32, 3) := by decide +kernel
theorem dX3_isLawful_117 : decode cX3_isLawful 117 = .ok (.iload_n 3, 1) := by decide +kernel
theorem dX3_isLawful_118 : decode cX3_isLawful 118 = .ok (.iaload, 1) := by decide +kernel
theorem dX3_isLawful_119 : decode cX3_isLawful 119 = .ok (.iconst 2, 1) := by decide +kernel
theorem dX3_isLawful_120 : decode cX3_isLawful 120 = .ok (.irem, 1) := by decide +kernel
theorem dX3_isLawful_121 : decode cX3_isLawful 121 = .ok (.if_icmp .ne 5, 3) := by decide +kernel
theorem dX3_isLawful_124 : decode cX3_isLawful 124 = .ok (.iconst 0, 1) := by decide +kernel
theorem dX3_isLawful_125 : decode cX3_isLawful 125 = .ok (.ireturn, 1) := by decide +kernel
theorem dX3_isLawful_126 : decode cX3_isLawful 126 = .ok (.iinc 3 1, 3) := by decide +kernel
theorem dX3_isLawful_129 : decode cX3_isLawful 129 = .ok (.goto (-115), 3) := by decide +kernel
theorem dX3_isLawful_132 : decode cX3_isLawful 132 = .ok (.iload_n 2, 1) := by decide +kernel
theorem dX3_isLawful_133 : decode cX3_isLawful 133 = .ok (.aload_n 0, 1) := by decide +kernel
theorem dX3_isLawful_134 : decode cX3_isLawful 134 = .ok (.getfield 13, 3) := by decide +kernel
theorem dX3_isLawful_137 : decode cX3_isLawful 137 = .ok (.aload_n 0, 1) := by decide +kernel
theorem dX3_isLawful_138 : decode cX3_isLawful 138 = .ok (.getfield 7, 3) := by decide +kernel
theorem dX3_isLawful_141 : decode cX3_isLawful 141 = .ok (.iload_n 1, 1) := by decide +kernel
theorem dX3_isLawful_142 : decode cX3_isLawful 142 = .ok (.iaload, 1) := by decide +kernel
theorem dX3_isLawful_143 : decode cX3_isLawful 143 = .ok (.iaload, 1) := by decide +kernel
theorem dX3_isLawful_144 : decode cX3_isLawful 144 = .ok (.if_icmp .gt 28, 3) := by decide +kernel
theorem dX3_isLawful_147 : decode cX3_isLawful 147 = .ok (.aload_n 0, 1) := by decide +kernel
theorem dX3_isLawful_148 : decode cX3_isLawful 148 = .ok (.getfield 26, 3) := by decide +kernel
theorem dX3_isLawful_151 : decode cX3_isLawful 151 = .ok (.iload_n 1, 1) := by decide +kernel
theorem dX3_isLawful_152 : decode cX3_isLawful 152 = .ok (.iaload, 1) := by decide +kernel
theorem dX3_isLawful_153 : decode cX3_isLawful 153 = .ok (.iconst (-1), 1) := by decide +kernel
theorem dX3_isLawful_154 : decode cX3_isLawful 154 = .ok (.if_icmp .eq 20, 3) := by decide +kernel
theorem dX3_isLawful_157 : decode cX3_isLawful 157 = .ok (.aload_n 0, 1) := by decide +kernel
theorem dX3_isLawful_158 : decode cX3_isLawful 158 = .ok (.getfield 26, 3) := by decide +kernel
theorem dX3_isLawful_161 : decode cX3_isLawful 161 = .ok (.iload_n 1, 1) := by decide +kernel
theorem dX3_isLawful_162 : decode cX3_isLawful 162 = .ok (.iaload, 1) := by decide +kernel
theorem dX3_isLawful_163 : decode cX3_isLawful 163 = .ok (.aload_n 0, 1) := by decide +kernel
theorem dX3_isLawful_164 : decode cX3_isLawful 164 = .ok (.getfield 32, 3) := by decide +kernel
theorem dX3_isLawful_167 : decode cX3_isLawful 167 = .ok (.iload_n 1, 1) := by decide +kernel
theorem dX3_isLawful_168 : decode cX3_isLawful 168 = .ok (.iaload, 1) := by decide +kernel
theorem dX3_isLawful_169 : decode cX3_isLawful 169 = .ok (.if_icmp .eq 5, 3) := by decide +kernel
theorem dX3_isLawful_172 : decode cX3_isLawful 172 = .ok (.iconst 0, 1) := by decide +kernel
theorem dX3_isLawful_173 : decode cX3_isLawful 173 = .ok (.ireturn, 1) := by decide +kernel
theorem dX3_isLawful_174 : decode cX3_isLawful 174 = .ok (.iinc 1 1, 3) := by decide +kernel
theorem dX3_isLawful_177 : decode cX3_isLawful 177 = .ok (.goto (-175), 3) := by decide +kernel
theorem dX3_isLawful_180 : decode cX3_isLawful 180 = .ok (.iconst 1, 1) := by decide +kernel
theorem dX3_isLawful_181 : decode cX3_isLawful 181 = .ok (.ireturn, 1) := by decide +kernel
set_option maxRecDepth 20000 in
theorem ggX3_layResults_X3_factorial : GoodIn wsX3_layResults wsX3_factorial := goodIn_r _ [9] (by decide +kernel) (by decide +kernel)
set_option maxRecDepth 20000 in
theorem gX3_layResults_X3_factorial : GoodIn wsX3_layResults (va_wsS RX3 80 yX3_factorial wsX3_factorial) := goodIn_app (goodIn_of _ (by decide +kernel)) ggX3_layResults_X3_factorial
set_option maxRecDepth 20000 in
theorem ggX3_layResults_X3_layOrder : GoodIn wsX3_layResults wsX3_layOrder := goodIn_r _ [13, 14, 5, 28, 29, 30, 31, 32, 33, 34, 35, 36, 37, 38, 39, 40, 41, 42, 43, 44] (by decide +kernel) (by decide +kernel)
set_option maxRecDepth 20000 in
theorem gX3_layResults_X3_layOrder : GoodIn wsX3_layResults (wsV RX3 87 RX3 yX3_layOrder wsX3_layOrder) := goodIn_app (goodIn_of _ (by decide +kernel)) ggX3_layResults_X3_layOrder
set_option maxRecDepth 20000 in
theorem ggX3_layResults_X3_isLawful : GoodIn wsX3_layResults wsX3_isLawful := goodIn_r _ [18, 5, 19, 20, 21, 22, 23, 24, 25, 26, 8, 27, 1, 2, 28, 29, 30, 31, 32, 33, 34, 35, 36, 37, 38, 39, 40, 41, 42, 43, 44] (by decide +kernel) (by decide +kernel)
set_option maxRecDepth 20000 in
theorem gX3_layResults_X3_isLawful : GoodIn wsX3_layResults (wsV RX3 91 RX3 yX3_isLawful wsX3_isLawful) := goodIn_app (goodIn_of _ (by decide +kernel)) ggX3_layResults_X3_isLawful
set_option maxRecDepth 20000 in
theorem ggX3_layResults_X3_teamMany : GoodIn wsX3_layResults wsX3_teamMany := goodIn_r _ [27, 1, 2, 28, 29, 30, 31, 32, 33, 34, 35, 36, 37, 38, 39, 40, 41, 42, 43, 44] (by decide +kernel) (by decide +kernel)
set_option maxRecDepth 20000 in
theorem gX3_layResults_X3_teamMany : GoodIn wsX3_layResults (wsV RX3 64 RX3 yX3_teamMany wsX3_teamMany) := goodIn_app (goodIn_of _ (by decide +kernel)) ggX3_layResults_X3_teamMany
theorem dX3_layResults_0 : decode cX3_layResults 0 = .ok (.aload_n 0, 1) := by decide +kernel
theorem dX3_layResults_1 : decode cX3_layResults 1 = .ok (.getfield 55, 3) := by decide +kernel
theorem dX3_layResults_4 : decode cX3_layResults 4 = .ok (.invokestatic 80, 3) := by decide +kernel
theorem dX3_layResults_7 : decode cX3_layResults 7 = .ok (.istore_n 1, 1) := by decide +kernel
theorem dX3_layResults_8 : decode cX3_layResults 8 = .ok (.aload_n 0, 1) := by decide +kernel
theorem dX3_layResults_9 : decode cX3_layResults 9 = .ok (.getfield 58, 3) := by decide +kernel
theorem dX3_layResults_12 : decode cX3_layResults 12 = .ok (.iconst 2, 1) := by decide +kernel
theorem dX3_layResults_13 : decode cX3_layResults 13 = .ok (.if_icmp .ne 9, 3) := by decide +kernel
theorem dX3_layResults_16 : decode cX3_layResults 16 = .ok (.iload_n 1, 1) := by decide +kernel
theorem dX3_layResults_17 : decode cX3_layResults 17 = .ok (.iload_n 1, 1) := by decide +kernel
theorem dX3_layResults_18 : decode cX3_layResults 18 = .ok (.imul, 1) := by decide +kernel
theorem dX3_layResults_19 : decode cX3_layResults 19 = .ok (.goto 8, 3) := by decide +kernel
theorem dX3_layResults_22 : decode cX3_layResults 22 = .ok (.iload_n 1, 1) := by decide +kernel
theorem dX3_layResults_23 : decode cX3_layResults 23 = .ok (.iload_n 1, 1) := by decide +kernel
theorem dX3_layResults_24 : decode cX3_layResults 24 = .ok (.imul, 1) := by decide +kernel
theorem dX3_layResults_25 : decode cX3_layResults 25 = .ok (.iload_n 1, 1) := by decide +kernel
theorem dX3_layResults_26 : decode cX3_layResults 26 = .ok (.imul, 1) := by decide +kernel
theorem dX3_layResults_27 : decode cX3_layResults 27 = .ok (.istore_n 2, 1) := by decide +kernel
theorem dX3_layResults_28 : decode cX3_layResults 28 = .ok (.aload_n 0, 1) := by decide +kernel
theorem dX3_layResults_29 : decode cX3_layResults 29 = .ok (.iconst 0, 1) := by decide +kernel
theorem dX3_layResults_30 : decode cX3_layResults 30 = .ok (.putfield 84, 3) := by decide +kernel
theorem dX3_layResults_33 : decode cX3_layResults 33 = .ok (.iconst 0, 1) := by decide +kernel
theorem dX3_layResults_34 : decode cX3_layResults 34 = .ok (.istore_n 3, 1) := by decide +kernel
theorem dX3_layResults_35 : decode cX3_layResults 35 = .ok (.iload_n 3, 1) := by decide +kernel
theorem dX3_layResults_36 : decode cX3_layResults 36 = .ok (.iload_n 2, 1) := by decide +kernel
theorem dX3_layResults_37 : decode cX3_layResults 37 = .ok (.if_icmp .ge 112, 3) := by decide +kernel
theorem dX3_layResults_40 : decode cX3_layResults 40 = .ok (.iload_n 3, 1) := by decide +kernel
theorem dX3_layResults_41 : decode cX3_layResults 41 = .ok (.istore 4, 2) := by decide +kernel
theorem dX3_layResults_43 : decode cX3_layResults 43 = .ok (.iconst 0, 1) := by decide +kernel
theorem dX3_layResults_44 : decode cX3_layResults 44 = .ok (.istore 5, 2) := by decide +kernel
theorem dX3_layResults_46 : decode cX3_layResults 46 = .ok (.iload 5, 2) := by decide +kernel
theorem dX3_layResults_48 : decode cX3_layResults 48 = .ok (.aload_n 0, 1) := by decide +kernel
theorem dX3_layResults_49 : decode cX3_layResults 49 = .ok (.getfield 58, 3) := by decide +kernel
theorem dX3_layResults_52 : decode cX3_layResults 52 = .ok (.if_icmp .ge 34, 3) := by decide +kernel
theorem dX3_layResults_55 : decode cX3_layResults 55 = .ok (.aload_n 0, 1) := by decide +kernel
theorem dX3_layResults_56 : decode cX3_layResults 56 = .ok (.iload 4, 2) := by decide +kernel
theorem dX3_layResults_58 : decode cX3_layResults 58 = .ok (.iload_n 1, 1) := by decide +kernel
theorem dX3_layResults_59 : decode cX3_layResults 59 = .ok (.irem, 1) := by decide +kernel
theorem dX3_layResults_60 : decode cX3_layResults 60 = .ok (.aload_n 0, 1) := by decide +kernel
theorem dX3_layResults_61 : decode cX3_layResults 61 = .ok (.getfield 55, 3) := by decide +kernel
theorem dX3_layResults_64 : decode cX3_layResults 64 = .ok (.aload_n 0, 1) := by decide +kernel
theorem dX3_layResults_65 : decode cX3_layResults 65 = .ok (.getfield 55, 3) := by decide +kernel
theorem dX3_layResults_68 : decode cX3_layResults 68 = .ok (.iload 5, 2) := by decide +kernel
theorem dX3_layResults_70 : decode cX3_layResults 70 = .ok (.imul, 1) := by decide +kernel
theorem dX3_layResults_71 : decode cX3_layResults 71 = .ok (.invokevirtual 87, 3) := by decide +kernel
theorem dX3_layResults_74 : decode cX3_layResults 74 = .ok (.iload 4, 2) := by decide +kernel
theorem dX3_layResults_76 : decode cX3_layResults 76 = .ok (.iload_n 1, 1) := by decide +kernel
theorem dX3_layResults_77 : decode cX3_layResults 77 = .ok (.idiv, 1) := by decide +kernel
theorem dX3_layResults_78 : decode cX3_layResults 78 = .ok (.istore 4, 2) := by decide +kernel
theorem dX3_layResults_80 : decode cX3_layResults 80 = .ok (.iinc 5 1, 3) := by decide +kernel
theorem dX3_layResults_83 : decode cX3_layResults 83 = .ok (.goto (-37), 3) := by decide +kernel
theorem dX3_layResults_86 : decode cX3_layResults 86 = .ok (.aload_n 0, 1) := by decide +kernel
theorem dX3_layResults_87 : decode cX3_layResults 87 = .ok (.invokevirtual 91, 3) := by decide +kernel
theorem dX3_layResults_90 : decode cX3_layResults 90 = .ok (.ifCond .eq 53, 3) := by decide +kernel
theorem dX3_layResults_93 : decode cX3_layResults 93 = .ok (.iconst 0, 1) := by decide +kernel
theorem dX3_layResults_94 : decode cX3_layResults 94 = .ok (.istore 5, 2) := by decide +kernel
theorem dX3_layResults_96 : decode cX3_layResults 96 = .ok (.iload 5, 2) := by decide +kernel
theorem dX3_layResults_98 : decode cX3_layResults 98 = .ok (.aload_n 0, 1) := by decide +kernel
theorem dX3_layResults_99 : decode cX3_layResults 99 = .ok (.invokevirtual 64, 3) := by decide +kernel
theorem dX3_layResults_102 : decode cX3_layResults 102 = .ok (.if_icmp .ge 31, 3) := by decide +kernel
theorem dX3_layResults_105 : decode cX3_layResults 105 = .ok (.aload_n 0, 1) := by decide +kernel
theorem dX3_layResults_106 : decode cX3_layResults 106 = .ok (.getfield 29, 3) := by decide +kernel
theorem dX3_layResults_109 : decode cX3_layResults 109 = .ok (.bipush 9, 2) := by decide +kernel
theorem dX3_layResults_111 : decode cX3_layResults 111 = .ok (.aload_n 0, 1) := by decide +kernel
theorem dX3_layResults_112 : decode cX3_layResults 112 = .ok (.getfield 84, 3) := by decide +kernel
theorem dX3_layResults_115 : decode cX3_layResults 115 = .ok (.imul, 1) := by decide +kernel
theorem dX3_layResults_116 : decode cX3_layResults 116 = .ok (.iload 5, 2) := by decide +kernel
theorem dX3_layResults_118 : decode cX3_layResults 118 = .ok (.iadd, 1) := by decide +kernel
theorem dX3_layResults_119 : decode cX3_layResults 119 = .ok (.aload_n 0, 1) := by decide +kernel
theorem dX3_layResults_120 : decode cX3_layResults 120 = .ok (.getfield 32, 3) := by decide +kernel
theorem dX3_layResults_123 : decode cX3_layResults 123 = .ok (.iload 5, 2) := by decide +kernel
theorem dX3_layResults_125 : decode cX3_layResults 125 = .ok (.iaload, 1) := by decide +kernel
theorem dX3_layResults_126 : decode cX3_layResults 126 = .ok (.iastore, 1) := by decide +kernel
theorem dX3_layResults_127 : decode cX3_layResults 127 = .ok (.iinc 5 1, 3) := by decide +kernel
theorem dX3_layResults_130 : decode cX3_layResults 130 = .ok (.goto (-34), 3) := by decide +kernel
theorem dX3_layResults_133 : decode cX3_layResults 133 = .ok (.aload_n 0, 1) := by decide +kernel
theorem dX3_layResults_134 : decode cX3_layResults 134 = .ok (.dup, 1) := by decide +kernel
theorem dX3_layResults_135 : decode cX3_layResults 135 = .ok (.getfield 84, 3) := by decide +kernel
theorem dX3_layResults_138 : decode cX3_layResults 138 = .ok (.iconst 1, 1) := by decide +kernel
theorem dX3_layResults_139 : decode cX3_layResults 139 = .ok (.iadd, 1) := by decide +kernel
theorem dX3_layResults_140 : decode cX3_layResults 140 = .ok (.putfield 84, 3) := by decide +kernel
theorem dX3_layResults_143 : decode cX3_layResults 143 = .ok (.iinc 3 1, 3) := by decide +kernel
theorem dX3_layResults_146 : decode cX3_layResults 146 = .ok (.goto (-111), 3) := by decide +kernel
theorem dX3_layResults_149 : decode cX3_layResults 149 = .ok (.return_, 1) := by decide +kernel
theorem dX3_countIn_0 : decode cX3_countIn 0 = .ok (.iconst 0, 1) := by decide +kernel
theorem dX3_countIn_1 : decode cX3_countIn 1 = .ok (.istore_n 3, 1) := by decide +kernel
theorem dX3_countIn_2 : decode cX3_countIn 2 = .ok (.iconst 0, 1) := by decide +kernel
theorem dX3_countIn_3 : decode cX3_countIn 3 = .ok (.istore 4, 2) := by decide +kernel
theorem dX3_countIn_5 : decode cX3_countIn 5 = .ok (.iload 4, 2) := by decide +kernel
theorem dX3_countIn_7 : decode cX3_countIn 7 = .ok (.aload_n 0, 1) := by decide +kernel
theorem dX3_countIn_8 : decode cX3_countIn 8 = .ok (.getfield 84, 3) := by decide +kernel
theorem dX3_countIn_11 : decode cX3_countIn 11 = .ok (.if_icmp .ge 33, 3) := by decide +kernel
theorem dX3_countIn_14 : decode cX3_countIn 14 = .ok (.iload_n 3, 1) := by decide +kernel
theorem dX3_countIn_15 : decode cX3_countIn 15 = .ok (.aload_n 0, 1) := by decide +kernel
theorem dX3_countIn_16 : decode cX3_countIn 16 = .ok (.getfield 29, 3) := by decide +kernel
theorem dX3_countIn_19 : decode cX3_countIn 19 = .ok (.bipush 9, 2) := by decide +kernel
theorem dX3_countIn_21 : decode cX3_countIn 21 = .ok (.iload 4, 2) := by decide +kernel
theorem dX3_countIn_23 : decode cX3_countIn 23 = .ok (.imul, 1) := by decide +kernel
theorem dX3_countIn_24 : decode cX3_countIn 24 = .ok (.iload_n 1, 1) := by decide +kernel
theorem dX3_countIn_25 : decode cX3_countIn 25 = .ok (.iadd, 1) := by decide +kernel
theorem dX3_countIn_26 : decode cX3_countIn 26 = .ok (.iaload, 1) := by decide +kernel
theorem dX3_countIn_27 : decode cX3_countIn 27 = .ok (.iload_n 2, 1) := by decide +kernel
theorem dX3_countIn_28 : decode cX3_countIn 28 = .ok (.if_icmp .ne 7, 3) := by decide +kernel
theorem dX3_countIn_31 : decode cX3_countIn 31 = .ok (.iconst 1, 1) := by decide +kernel
theorem dX3_countIn_32 : decode cX3_countIn 32 = .ok (.goto 4, 3) := by decide +kernel
theorem dX3_countIn_35 : decode cX3_countIn 35 = .ok (.iconst 0, 1) := by decide +kernel
theorem dX3_countIn_36 : decode cX3_countIn 36 = .ok (.iadd, 1) := by decide +kernel
theorem dX3_countIn_37 : decode cX3_countIn 37 = .ok (.istore_n 3, 1) := by decide +kernel
theorem dX3_countIn_38 : decode cX3_countIn 38 = .ok (.iinc 4 1, 3) := by decide +kernel
theorem dX3_countIn_41 : decode cX3_countIn 41 = .ok (.goto (-36), 3) := by decide +kernel
theorem dX3_countIn_44 : decode cX3_countIn 44 = .ok (.iload_n 3, 1) := by decide +kernel
theorem dX3_countIn_45 : decode cX3_countIn 45 = .ok (.ireturn, 1) := by decide +kernel
set_option maxRecDepth 20000 in
theorem ggX3_lowestFor_X3_countIn : GoodIn wsX3_lowestFor wsX3_countIn := goodIn_r _ [6, 7, 8, 9, 10, 11, 12, 13, 14, 15, 16, 17, 18, 19, 20, 21, 22, 23, 24, 25] (by decide +kernel) (by decide +kernel)
set_option maxRecDepth 20000 in
theorem gX3_lowestFor_X3_countIn : GoodIn wsX3_lowestFor (wsV RX3 95 RX3 yX3_countIn wsX3_countIn) := goodIn_app (goodIn_of _ (by decide +kernel)) ggX3_lowestFor_X3_countIn
theorem dX3_lowestFor_0 : decode cX3_lowestFor 0 = .ok (.iconst 0, 1) := by decide +kernel
theorem dX3_lowestFor_1 : decode cX3_lowestFor 1 = .ok (.istore_n 2, 1) := by decide +kernel
theorem dX3_lowestFor_2 : decode cX3_lowestFor 2 = .ok (.iload_n 2, 1) := by decide +kernel
theorem dX3_lowestFor_3 : decode cX3_lowestFor 3 = .ok (.aload_n 0, 1) := by decide +kernel
theorem dX3_lowestFor_4 : decode cX3_lowestFor 4 = .ok (.getfield 55, 3) := by decide +kernel
theorem dX3_lowestFor_7 : decode cX3_lowestFor 7 = .ok (.if_icmp .ge 20, 3) := by decide +kernel
theorem dX3_lowestFor_10 : decode cX3_lowestFor 10 = .ok (.aload_n 0, 1) := by decide +kernel
theorem dX3_lowestFor_11 : decode cX3_lowestFor 11 = .ok (.iload_n 1, 1) := by decide +kernel
theorem dX3_lowestFor_12 : decode cX3_lowestFor 12 = .ok (.iload_n 2, 1) := by decide +kernel
theorem dX3_lowestFor_13 : decode cX3_lowestFor 13 = .ok (.invokevirtual 95, 3) := by decide +kernel
theorem dX3_lowestFor_16 : decode cX3_lowestFor 16 = .ok (.ifCond .le 5, 3) := by decide +kernel
theorem dX3_lowestFor_19 : decode cX3_lowestFor 19 = .ok (.iload_n 2, 1) := by decide +kernel
theorem dX3_lowestFor_20 : decode cX3_lowestFor 20 = .ok (.ireturn, 1) := by decide +kernel
theorem dX3_lowestFor_21 : decode cX3_lowestFor 21 = .ok (.iinc 2 1, 3) := by decide +kernel
theorem dX3_lowestFor_24 : decode cX3_lowestFor 24 = .ok (.goto (-22), 3) := by decide +kernel
theorem dX3_lowestFor_27 : decode cX3_lowestFor 27 = .ok (.iconst (-1), 1) := by decide +kernel
theorem dX3_lowestFor_28 : decode cX3_lowestFor 28 = .ok (.ireturn, 1) := by decide +kernel
set_option maxRecDepth 20000 in
theorem ggX3_potNow_X3_teamMany : GoodIn wsX3_potNow wsX3_teamMany := goodIn_r _ [7, 2, 8, 9, 10, 11, 12, 13, 14, 15, 16, 17, 18, 19, 20, 21, 22, 23, 24, 25] (by decide +kernel) (by decide +kernel)
set_option maxRecDepth 20000 in
theorem gX3_potNow_X3_teamMany : GoodIn wsX3_potNow (wsV RX3 64 RX3 yX3_teamMany wsX3_teamMany) := goodIn_app (goodIn_of _ (by decide +kernel)) ggX3_potNow_X3_teamMany
theorem dX3_potNow_0 : decode cX3_potNow 0 = .ok (.aload_n 0, 1) := by decide +kernel
theorem dX3_potNow_1 : decode cX3_potNow 1 = .ok (.getfield 61, 3) := by decide +kernel
theorem dX3_potNow_4 : decode cX3_potNow 4 = .ok (.aload_n 0, 1) := by decide +kernel
theorem dX3_potNow_5 : decode cX3_potNow 5 = .ok (.invokevirtual 64, 3) := by decide +kernel
theorem dX3_potNow_8 : decode cX3_potNow 8 = .ok (.if_icmp .ne 7, 3) := by decide +kernel
theorem dX3_potNow_11 : decode cX3_potNow 11 = .ok (.iconst (-1), 1) := by decide +kernel
theorem dX3_potNow_12 : decode cX3_potNow 12 = .ok (.goto 12, 3) := by decide +kernel
theorem dX3_potNow_15 : decode cX3_potNow 15 = .ok (.aload_n 0, 1) := by decide +kernel
theorem dX3_potNow_16 : decode cX3_potNow 16 = .ok (.getfield 61, 3) := by decide +kernel
theorem dX3_potNow_19 : decode cX3_potNow 19 = .ok (.aload_n 0, 1) := by decide +kernel
theorem dX3_potNow_20 : decode cX3_potNow 20 = .ok (.getfield 55, 3) := by decide +kernel
theorem dX3_potNow_23 : decode cX3_potNow 23 = .ok (.idiv, 1) := by decide +kernel
theorem dX3_potNow_24 : decode cX3_potNow 24 = .ok (.ireturn, 1) := by decide +kernel
set_option maxRecDepth 20000 in
theorem ggX3_leftNow_X3_teamMany : GoodIn wsX3_leftNow wsX3_teamMany := goodIn_r _ [7, 2, 8, 9, 10, 11, 12, 13, 14, 15, 16, 17, 18, 19, 20, 21, 22, 23, 24, 25] (by decide +kernel) (by decide +kernel)
set_option maxRecDepth 20000 in
theorem gX3_leftNow_X3_teamMany : GoodIn wsX3_leftNow (wsV RX3 64 RX3 yX3_teamMany wsX3_teamMany) := goodIn_app (goodIn_of _ (by decide +kernel)) ggX3_leftNow_X3_teamMany
theorem dX3_leftNow_0 : decode cX3_leftNow 0 = .ok (.aload_n 0, 1) := by decide +kernel
theorem dX3_leftNow_1 : decode cX3_leftNow 1 = .ok (.getfield 61, 3) := by decide +kernel
theorem dX3_leftNow_4 : decode cX3_leftNow 4 = .ok (.aload_n 0, 1) := by decide +kernel
theorem dX3_leftNow_5 : decode cX3_leftNow 5 = .ok (.invokevirtual 64, 3) := by decide +kernel
theorem dX3_leftNow_8 : decode cX3_leftNow 8 = .ok (.if_icmp .ne 7, 3) := by decide +kernel
theorem dX3_leftNow_11 : decode cX3_leftNow 11 = .ok (.iconst 0, 1) := by decide +kernel
theorem dX3_leftNow_12 : decode cX3_leftNow 12 = .ok (.goto 17, 3) := by decide +kernel
theorem dX3_leftNow_15 : decode cX3_leftNow 15 = .ok (.aload_n 0, 1) := by decide +kernel
theorem dX3_leftNow_16 : decode cX3_leftNow 16 = .ok (.getfield 55, 3) := by decide +kernel
theorem dX3_leftNow_19 : decode cX3_leftNow 19 = .ok (.aload_n 0, 1) := by decide +kernel
theorem dX3_leftNow_20 : decode cX3_leftNow 20 = .ok (.getfield 61, 3) := by decide +kernel
theorem dX3_leftNow_23 : decode cX3_leftNow 23 = .ok (.aload_n 0, 1) := by decide +kernel
theorem dX3_leftNow_24 : decode cX3_leftNow 24 = .ok (.getfield 55, 3) := by decide +kernel
theorem dX3_leftNow_27 : decode cX3_leftNow 27 = .ok (.irem, 1) := by decide +kernel
theorem dX3_leftNow_28 : decode cX3_leftNow 28 = .ok (.isub, 1) := by decide +kernel
theorem dX3_leftNow_29 : decode cX3_leftNow 29 = .ok (.ireturn, 1) := by decide +kernel
theorem dX3_ball_0 : decode cX3_ball 0 = .ok (.iload_n 2, 1) := by decide +kernel
theorem dX3_ball_1 : decode cX3_ball 1 = .ok (.istore_n 3, 1) := by decide +kernel
theorem dX3_ball_2 : decode cX3_ball 2 = .ok (.aload_n 0, 1) := by decide +kernel
theorem dX3_ball_3 : decode cX3_ball 3 = .ok (.getfield 55, 3) := by decide +kernel
theorem dX3_ball_6 : decode cX3_ball 6 = .ok (.iload_n 1, 1) := by decide +kernel
theorem dX3_ball_7 : decode cX3_ball 7 = .ok (.imul, 1) := by decide +kernel
theorem dX3_ball_8 : decode cX3_ball 8 = .ok (.istore 4, 2) := by decide +kernel
theorem dX3_ball_10 : decode cX3_ball 10 = .ok (.iload 4, 2) := by decide +kernel
theorem dX3_ball_12 : decode cX3_ball 12 = .ok (.aload_n 0, 1) := by decide +kernel
theorem dX3_ball_13 : decode cX3_ball 13 = .ok (.getfield 55, 3) := by decide +kernel
theorem dX3_ball_16 : decode cX3_ball 16 = .ok (.iload_n 1, 1) := by decide +kernel
theorem dX3_ball_17 : decode cX3_ball 17 = .ok (.iconst 1, 1) := by decide +kernel
theorem dX3_ball_18 : decode cX3_ball 18 = .ok (.iadd, 1) := by decide +kernel
theorem dX3_ball_19 : decode cX3_ball 19 = .ok (.imul, 1) := by decide +kernel
theorem dX3_ball_20 : decode cX3_ball 20 = .ok (.if_icmp .ge 34, 3) := by decide +kernel
theorem dX3_ball_23 : decode cX3_ball 23 = .ok (.iload_n 2, 1) := by decide +kernel
theorem dX3_ball_24 : decode cX3_ball 24 = .ok (.ifCond .lt 30, 3) := by decide +kernel
theorem dX3_ball_27 : decode cX3_ball 27 = .ok (.aload_n 0, 1) := by decide +kernel
theorem dX3_ball_28 : decode cX3_ball 28 = .ok (.getfield 26, 3) := by decide +kernel
theorem dX3_ball_31 : decode cX3_ball 31 = .ok (.iload 4, 2) := by decide +kernel
theorem dX3_ball_33 : decode cX3_ball 33 = .ok (.iaload, 1) := by decide +kernel
theorem dX3_ball_34 : decode cX3_ball 34 = .ok (.iconst (-1), 1) := by decide +kernel
theorem dX3_ball_35 : decode cX3_ball 35 = .ok (.if_icmp .ne 13, 3) := by decide +kernel
theorem dX3_ball_38 : decode cX3_ball 38 = .ok (.iload_n 3, 1) := by decide +kernel
theorem dX3_ball_39 : decode cX3_ball 39 = .ok (.ifCond .ne 6, 3) := by decide +kernel
theorem dX3_ball_42 : decode cX3_ball 42 = .ok (.iload 4, 2) := by decide +kernel
theorem dX3_ball_44 : decode cX3_ball 44 = .ok (.ireturn, 1) := by decide +kernel
theorem dX3_ball_45 : decode cX3_ball 45 = .ok (.iinc 3 (-1), 3) := by decide +kernel
theorem dX3_ball_48 : decode cX3_ball 48 = .ok (.iinc 4 1, 3) := by decide +kernel
theorem dX3_ball_51 : decode cX3_ball 51 = .ok (.goto (-41), 3) := by decide +kernel
theorem dX3_ball_54 : decode cX3_ball 54 = .ok (.iconst (-1), 1) := by decide +kernel
theorem dX3_ball_55 : decode cX3_ball 55 = .ok (.ireturn, 1) := by decide +kernel
set_option maxRecDepth 20000 in
theorem ggX3_draw_X3_layResults : GoodIn wsX3_draw wsX3_layResults := goodIn_r _ [10, 11, 12, 2, 13, 14, 15, 16, 9, 17, 18, 19, 20, 21, 22, 23, 24, 25, 26, 27, 28, 29, 30, 4, 31, 32, 33, 34, 58, 59, 60, 61, 62, 63, 64, 65, 66, 67, 68, 69, 70, 71, 72, 73, 74] (by decide +kernel) (by decide +kernel)
set_option maxRecDepth 20000 in
theorem gX3_draw_X3_layResults : GoodIn wsX3_draw (wsV RX3 99 RX3 yX3_layResults wsX3_layResults) := goodIn_app (goodIn_of _ (by decide +kernel)) ggX3_draw_X3_layResults
set_option maxRecDepth 20000 in
theorem ggX3_draw_X3_teamMany : GoodIn wsX3_draw wsX3_teamMany := goodIn_r _ [34, 11, 12, 58, 59, 60, 61, 62, 63, 64, 65, 66, 67, 68, 69, 70, 71, 72, 73, 74] (by decide +kernel) (by decide +kernel)
set_option maxRecDepth 20000 in
theorem gX3_draw_X3_teamMany : GoodIn wsX3_draw (wsV RX3 64 RX3 yX3_teamMany wsX3_teamMany) := goodIn_app (goodIn_of _ (by decide +kernel)) ggX3_draw_X3_teamMany
set_option maxRecDepth 20000 in
theorem ggX3_draw_X3_leftNow : GoodIn wsX3_draw wsX3_leftNow := goodIn_r _ [38, 1, 11, 31, 32, 33, 9, 34, 12, 58, 59, 60, 61, 62, 63, 64, 65, 66, 67, 68, 69, 70, 71, 72, 73, 74] (by decide +kernel) (by decide +kernel)
set_option maxRecDepth 20000 in
theorem gX3_draw_X3_leftNow : GoodIn wsX3_draw (wsV RX3 102 RX3 yX3_leftNow wsX3_leftNow) := goodIn_app (goodIn_of _ (by decide +kernel)) ggX3_draw_X3_leftNow
set_option maxRecDepth 20000 in
theorem ggX3_draw_X3_in : GoodIn wsX3_draw wsX3_in := goodIn_r _ [41] (by decide +kernel) (by decide +kernel)
set_option maxRecDepth 20000 in
theorem gX3_draw_X3_in : GoodIn wsX3_draw (va_wsS RX3 68 yX3_in wsX3_in) := goodIn_app (goodIn_of _ (by decide +kernel)) ggX3_draw_X3_in
set_option maxRecDepth 20000 in
theorem ggX3_draw_X3_potNow : GoodIn wsX3_draw wsX3_potNow := goodIn_r _ [45, 1, 11, 31, 32, 33, 9, 34, 12, 58, 59, 60, 61, 62, 63, 64, 65, 66, 67, 68, 69, 70, 71, 72, 73, 74] (by decide +kernel) (by decide +kernel)
set_option maxRecDepth 20000 in
theorem gX3_draw_X3_potNow : GoodIn wsX3_draw (wsV RX3 105 RX3 yX3_potNow wsX3_potNow) := goodIn_app (goodIn_of _ (by decide +kernel)) ggX3_draw_X3_potNow
set_option maxRecDepth 20000 in
theorem ggX3_draw_X3_ball : GoodIn wsX3_draw wsX3_ball := goodIn_r _ [49, 11, 4, 58, 59, 60, 61, 62, 63, 64, 65, 66, 67, 68, 69, 70, 71, 72, 73, 74] (by decide +kernel) (by decide +kernel)
set_option maxRecDepth 20000 in
theorem gX3_draw_X3_ball : GoodIn wsX3_draw (wsV RX3 108 RX3 yX3_ball wsX3_ball) := goodIn_app (goodIn_of _ (by decide +kernel)) ggX3_draw_X3_ball
set_option maxRecDepth 20000 in
theorem ggX3_draw_X3_lowestFor : GoodIn wsX3_draw wsX3_lowestFor := goodIn_r _ [53, 11, 54, 55, 56, 9, 57, 2, 13, 58, 59, 60, 61, 62, 63, 64, 65, 66, 67, 68, 69, 70, 71, 72, 73, 74] (by decide +kernel) (by decide +kernel)
set_option maxRecDepth 20000 in
theorem gX3_draw_X3_lowestFor : GoodIn wsX3_draw (wsV RX3 111 RX3 yX3_lowestFor wsX3_lowestFor) := goodIn_app (goodIn_of _ (by decide +kernel)) ggX3_draw_X3_lowestFor
theorem dX3_draw_0 : decode cX3_draw 0 = .ok (.aload_n 0, 1) := by decide +kernel
theorem dX3_draw_1 : decode cX3_draw 1 = .ok (.invokevirtual 99, 3) := by decide +kernel
theorem dX3_draw_4 : decode cX3_draw 4 = .ok (.aload_n 0, 1) := by decide +kernel
theorem dX3_draw_5 : decode cX3_draw 5 = .ok (.aload_n 0, 1) := by decide +kernel
theorem dX3_draw_6 : decode cX3_draw 6 = .ok (.getfield 61, 3) := by decide +kernel
theorem dX3_draw_9 : decode cX3_draw 9 = .ok (.aload_n 0, 1) := by decide +kernel
theorem dX3_draw_10 : decode cX3_draw 10 = .ok (.invokevirtual 64, 3) := by decide +kernel
theorem dX3_draw_13 : decode cX3_draw 13 = .ok (.if_icmp .eq 10, 3) := by decide +kernel
theorem dX3_draw_16 : decode cX3_draw 16 = .ok (.aload_n 0, 1) := by decide +kernel
theorem dX3_draw_17 : decode cX3_draw 17 = .ok (.getfield 84, 3) := by decide +kernel
theorem dX3_draw_20 : decode cX3_draw 20 = .ok (.ifCond .ne 7, 3) := by decide +kernel
theorem dX3_draw_23 : decode cX3_draw 23 = .ok (.iconst 1, 1) := by decide +kernel
theorem dX3_draw_24 : decode cX3_draw 24 = .ok (.goto 22, 3) := by decide +kernel
theorem dX3_draw_27 : decode cX3_draw 27 = .ok (.iload_n 1, 1) := by decide +kernel
theorem dX3_draw_28 : decode cX3_draw 28 = .ok (.iconst 0, 1) := by decide +kernel
theorem dX3_draw_29 : decode cX3_draw 29 = .ok (.aload_n 0, 1) := by decide +kernel
theorem dX3_draw_30 : decode cX3_draw 30 = .ok (.invokevirtual 102, 3) := by decide +kernel
theorem dX3_draw_33 : decode cX3_draw 33 = .ok (.iconst 1, 1) := by decide +kernel
theorem dX3_draw_34 : decode cX3_draw 34 = .ok (.isub, 1) := by decide +kernel
theorem dX3_draw_35 : decode cX3_draw 35 = .ok (.invokestatic 68, 3) := by decide +kernel
theorem dX3_draw_38 : decode cX3_draw 38 = .ok (.ifCond .ne 7, 3) := by decide +kernel
theorem dX3_draw_41 : decode cX3_draw 41 = .ok (.iconst 2, 1) := by decide +kernel
theorem dX3_draw_42 : decode cX3_draw 42 = .ok (.goto 4, 3) := by decide +kernel
theorem dX3_draw_45 : decode cX3_draw 45 = .ok (.iconst 0, 1) := by decide +kernel
theorem dX3_draw_46 : decode cX3_draw 46 = .ok (.putfield 51, 3) := by decide +kernel
theorem dX3_draw_49 : decode cX3_draw 49 = .ok (.aload_n 0, 1) := by decide +kernel
theorem dX3_draw_50 : decode cX3_draw 50 = .ok (.getfield 51, 3) := by decide +kernel
theorem dX3_draw_53 : decode cX3_draw 53 = .ok (.ifCond .le 5, 3) := by decide +kernel
theorem dX3_draw_56 : decode cX3_draw 56 = .ok (.iconst 0, 1) := by decide +kernel
theorem dX3_draw_57 : decode cX3_draw 57 = .ok (.ireturn, 1) := by decide +kernel
theorem dX3_draw_58 : decode cX3_draw 58 = .ok (.aload_n 0, 1) := by decide +kernel
theorem dX3_draw_59 : decode cX3_draw 59 = .ok (.aload_n 0, 1) := by decide +kernel
theorem dX3_draw_60 : decode cX3_draw 60 = .ok (.invokevirtual 105, 3) := by decide +kernel
theorem dX3_draw_63 : decode cX3_draw 63 = .ok (.iload_n 1, 1) := by decide +kernel
theorem dX3_draw_64 : decode cX3_draw 64 = .ok (.invokevirtual 108, 3) := by decide +kernel
theorem dX3_draw_67 : decode cX3_draw 67 = .ok (.istore_n 2, 1) := by decide +kernel
theorem dX3_draw_68 : decode cX3_draw 68 = .ok (.aload_n 0, 1) := by decide +kernel
theorem dX3_draw_69 : decode cX3_draw 69 = .ok (.getfield 26, 3) := by decide +kernel
theorem dX3_draw_72 : decode cX3_draw 72 = .ok (.iload_n 2, 1) := by decide +kernel
theorem dX3_draw_73 : decode cX3_draw 73 = .ok (.aload_n 0, 1) := by decide +kernel
theorem dX3_draw_74 : decode cX3_draw 74 = .ok (.iload_n 2, 1) := by decide +kernel
theorem dX3_draw_75 : decode cX3_draw 75 = .ok (.invokevirtual 111, 3) := by decide +kernel
theorem dX3_draw_78 : decode cX3_draw 78 = .ok (.iastore, 1) := by decide +kernel
theorem dX3_draw_79 : decode cX3_draw 79 = .ok (.aload_n 0, 1) := by decide +kernel
theorem dX3_draw_80 : decode cX3_draw 80 = .ok (.getfield 23, 3) := by decide +kernel
theorem dX3_draw_83 : decode cX3_draw 83 = .ok (.aload_n 0, 1) := by decide +kernel
theorem dX3_draw_84 : decode cX3_draw 84 = .ok (.getfield 61, 3) := by decide +kernel
theorem dX3_draw_87 : decode cX3_draw 87 = .ok (.iload_n 2, 1) := by decide +kernel
theorem dX3_draw_88 : decode cX3_draw 88 = .ok (.iastore, 1) := by decide +kernel
theorem dX3_draw_89 : decode cX3_draw 89 = .ok (.aload_n 0, 1) := by decide +kernel
theorem dX3_draw_90 : decode cX3_draw 90 = .ok (.dup, 1) := by decide +kernel
theorem dX3_draw_91 : decode cX3_draw 91 = .ok (.getfield 61, 3) := by decide +kernel
theorem dX3_draw_94 : decode cX3_draw 94 = .ok (.iconst 1, 1) := by decide +kernel
theorem dX3_draw_95 : decode cX3_draw 95 = .ok (.iadd, 1) := by decide +kernel
theorem dX3_draw_96 : decode cX3_draw 96 = .ok (.putfield 61, 3) := by decide +kernel
theorem dX3_draw_99 : decode cX3_draw 99 = .ok (.aload_n 0, 1) := by decide +kernel
theorem dX3_draw_100 : decode cX3_draw 100 = .ok (.getfield 26, 3) := by decide +kernel
theorem dX3_draw_103 : decode cX3_draw 103 = .ok (.iload_n 2, 1) := by decide +kernel
theorem dX3_draw_104 : decode cX3_draw 104 = .ok (.iaload, 1) := by decide +kernel
theorem dX3_draw_105 : decode cX3_draw 105 = .ok (.ireturn, 1) := by decide +kernel
theorem dX3_undo_0 : decode cX3_undo 0 = .ok (.aload_n 0, 1) := by decide +kernel
theorem dX3_undo_1 : decode cX3_undo 1 = .ok (.aload_n 0, 1) := by decide +kernel
theorem dX3_undo_2 : decode cX3_undo 2 = .ok (.getfield 61, 3) := by decide +kernel
theorem dX3_undo_5 : decode cX3_undo 5 = .ok (.ifCond .ne 7, 3) := by decide +kernel
theorem dX3_undo_8 : decode cX3_undo 8 = .ok (.iconst 1, 1) := by decide +kernel
theorem dX3_undo_9 : decode cX3_undo 9 = .ok (.goto 4, 3) := by decide +kernel
theorem dX3_undo_12 : decode cX3_undo 12 = .ok (.iconst 0, 1) := by decide +kernel
theorem dX3_undo_13 : decode cX3_undo 13 = .ok (.putfield 51, 3) := by decide +kernel
theorem dX3_undo_16 : decode cX3_undo 16 = .ok (.aload_n 0, 1) := by decide +kernel
theorem dX3_undo_17 : decode cX3_undo 17 = .ok (.getfield 51, 3) := by decide +kernel
theorem dX3_undo_20 : decode cX3_undo 20 = .ok (.ifCond .le 5, 3) := by decide +kernel
theorem dX3_undo_23 : decode cX3_undo 23 = .ok (.iconst 0, 1) := by decide +kernel
theorem dX3_undo_24 : decode cX3_undo 24 = .ok (.ireturn, 1) := by decide +kernel
theorem dX3_undo_25 : decode cX3_undo 25 = .ok (.aload_n 0, 1) := by decide +kernel
theorem dX3_undo_26 : decode cX3_undo 26 = .ok (.dup, 1) := by decide +kernel
theorem dX3_undo_27 : decode cX3_undo 27 = .ok (.getfield 61, 3) := by decide +kernel
theorem dX3_undo_30 : decode cX3_undo 30 = .ok (.iconst 1, 1) := by decide +kernel
theorem dX3_undo_31 : decode cX3_undo 31 = .ok (.isub, 1) := by decide +kernel
theorem dX3_undo_32 : decode cX3_undo 32 = .ok (.putfield 61, 3) := by decide +kernel
theorem dX3_undo_35 : decode cX3_undo 35 = .ok (.aload_n 0, 1) := by decide +kernel
theorem dX3_undo_36 : decode cX3_undo 36 = .ok (.getfield 26, 3) := by decide +kernel
theorem dX3_undo_39 : decode cX3_undo 39 = .ok (.aload_n 0, 1) := by decide +kernel
theorem dX3_undo_40 : decode cX3_undo 40 = .ok (.getfield 23, 3) := by decide +kernel
theorem dX3_undo_43 : decode cX3_undo 43 = .ok (.aload_n 0, 1) := by decide +kernel
theorem dX3_undo_44 : decode cX3_undo 44 = .ok (.getfield 61, 3) := by decide +kernel
theorem dX3_undo_47 : decode cX3_undo 47 = .ok (.iaload, 1) := by decide +kernel
theorem dX3_undo_48 : decode cX3_undo 48 = .ok (.iconst (-1), 1) := by decide +kernel
theorem dX3_undo_49 : decode cX3_undo 49 = .ok (.iastore, 1) := by decide +kernel
theorem dX3_undo_50 : decode cX3_undo 50 = .ok (.aload_n 0, 1) := by decide +kernel
theorem dX3_undo_51 : decode cX3_undo 51 = .ok (.getfield 23, 3) := by decide +kernel
theorem dX3_undo_54 : decode cX3_undo 54 = .ok (.aload_n 0, 1) := by decide +kernel
theorem dX3_undo_55 : decode cX3_undo 55 = .ok (.getfield 61, 3) := by decide +kernel
theorem dX3_undo_58 : decode cX3_undo 58 = .ok (.iaload, 1) := by decide +kernel
theorem dX3_undo_59 : decode cX3_undo 59 = .ok (.ireturn, 1) := by decide +kernel
theorem dX3_drawn_0 : decode cX3_drawn 0 = .ok (.aload_n 0, 1) := by decide +kernel
theorem dX3_drawn_1 : decode cX3_drawn 1 = .ok (.iconst 0, 1) := by decide +kernel
theorem dX3_drawn_2 : decode cX3_drawn 2 = .ok (.putfield 51, 3) := by decide +kernel
theorem dX3_drawn_5 : decode cX3_drawn 5 = .ok (.aload_n 0, 1) := by decide +kernel
theorem dX3_drawn_6 : decode cX3_drawn 6 = .ok (.getfield 61, 3) := by decide +kernel
theorem dX3_drawn_9 : decode cX3_drawn 9 = .ok (.ireturn, 1) := by decide +kernel
set_option maxRecDepth 20000 in
theorem ggX3_pot_X3_potNow : GoodIn wsX3_pot wsX3_potNow := goodIn_r _ [6, 7, 8, 9, 10, 11, 5, 12, 13, 14, 15, 16, 17, 18, 19, 20, 21, 22, 23, 24, 25, 26, 27, 28, 29, 30] (by decide +kernel) (by decide +kernel)
set_option maxRecDepth 20000 in
theorem gX3_pot_X3_potNow : GoodIn wsX3_pot (wsV RX3 105 RX3 yX3_potNow wsX3_potNow) := goodIn_app (goodIn_of _ (by decide +kernel)) ggX3_pot_X3_potNow
theorem dX3_pot_0 : decode cX3_pot 0 = .ok (.aload_n 0, 1) := by decide +kernel
theorem dX3_pot_1 : decode cX3_pot 1 = .ok (.iconst 0, 1) := by decide +kernel
theorem dX3_pot_2 : decode cX3_pot 2 = .ok (.putfield 51, 3) := by decide +kernel
theorem dX3_pot_5 : decode cX3_pot 5 = .ok (.aload_n 0, 1) := by decide +kernel
theorem dX3_pot_6 : decode cX3_pot 6 = .ok (.invokevirtual 105, 3) := by decide +kernel
theorem dX3_pot_9 : decode cX3_pot 9 = .ok (.ireturn, 1) := by decide +kernel
set_option maxRecDepth 20000 in
theorem ggX3_left_X3_leftNow : GoodIn wsX3_left wsX3_leftNow := goodIn_r _ [6, 7, 8, 9, 10, 11, 5, 12, 13, 14, 15, 16, 17, 18, 19, 20, 21, 22, 23, 24, 25, 26, 27, 28, 29, 30] (by decide +kernel) (by decide +kernel)
set_option maxRecDepth 20000 in
theorem gX3_left_X3_leftNow : GoodIn wsX3_left (wsV RX3 102 RX3 yX3_leftNow wsX3_leftNow) := goodIn_app (goodIn_of _ (by decide +kernel)) ggX3_left_X3_leftNow
theorem dX3_left_0 : decode cX3_left 0 = .ok (.aload_n 0, 1) := by decide +kernel
theorem dX3_left_1 : decode cX3_left 1 = .ok (.iconst 0, 1) := by decide +kernel
theorem dX3_left_2 : decode cX3_left 2 = .ok (.putfield 51, 3) := by decide +kernel
theorem dX3_left_5 : decode cX3_left 5 = .ok (.aload_n 0, 1) := by decide +kernel
theorem dX3_left_6 : decode cX3_left 6 = .ok (.invokevirtual 102, 3) := by decide +kernel
theorem dX3_left_9 : decode cX3_left 9 = .ok (.ireturn, 1) := by decide +kernel
set_option maxRecDepth 20000 in
theorem ggX3_ballAt_X3_leftNow : GoodIn wsX3_ballAt wsX3_leftNow := goodIn_r _ [6, 7, 8, 9, 10, 11, 5, 12, 13, 26, 27, 28, 29, 30, 31, 32, 33, 34, 35, 36, 37, 38, 39, 40, 41, 42] (by decide +kernel) (by decide +kernel)
set_option maxRecDepth 20000 in
theorem gX3_ballAt_X3_leftNow : GoodIn wsX3_ballAt (wsV RX3 102 RX3 yX3_leftNow wsX3_leftNow) := goodIn_app (goodIn_of _ (by decide +kernel)) ggX3_ballAt_X3_leftNow
set_option maxRecDepth 20000 in
theorem ggX3_ballAt_X3_in : GoodIn wsX3_ballAt wsX3_in := goodIn_r _ [16] (by decide +kernel) (by decide +kernel)
set_option maxRecDepth 20000 in
theorem gX3_ballAt_X3_in : GoodIn wsX3_ballAt (va_wsS RX3 68 yX3_in wsX3_in) := goodIn_app (goodIn_of _ (by decide +kernel)) ggX3_ballAt_X3_in
set_option maxRecDepth 20000 in
theorem ggX3_ballAt_X3_potNow : GoodIn wsX3_ballAt wsX3_potNow := goodIn_r _ [20, 7, 8, 9, 10, 11, 5, 12, 13, 26, 27, 28, 29, 30, 31, 32, 33, 34, 35, 36, 37, 38, 39, 40, 41, 42] (by decide +kernel) (by decide +kernel)
set_option maxRecDepth 20000 in
theorem gX3_ballAt_X3_potNow : GoodIn wsX3_ballAt (wsV RX3 105 RX3 yX3_potNow wsX3_potNow) := goodIn_app (goodIn_of _ (by decide +kernel)) ggX3_ballAt_X3_potNow
set_option maxRecDepth 20000 in
theorem ggX3_ballAt_X3_ball : GoodIn wsX3_ballAt wsX3_ball := goodIn_r _ [24, 8, 25, 26, 27, 28, 29, 30, 31, 32, 33, 34, 35, 36, 37, 38, 39, 40, 41, 42] (by decide +kernel) (by decide +kernel)
set_option maxRecDepth 20000 in
theorem gX3_ballAt_X3_ball : GoodIn wsX3_ballAt (wsV RX3 108 RX3 yX3_ball wsX3_ball) := goodIn_app (goodIn_of _ (by decide +kernel)) ggX3_ballAt_X3_ball
theorem dX3_ballAt_0 : decode cX3_ballAt 0 = .ok (.aload_n 0, 1) := by decide +kernel
theorem dX3_ballAt_1 : decode cX3_ballAt 1 = .ok (.iload_n 1, 1) := by decide +kernel
theorem dX3_ballAt_2 : decode cX3_ballAt 2 = .ok (.iconst 0, 1) := by decide +kernel
theorem dX3_ballAt_3 : decode cX3_ballAt 3 = .ok (.aload_n 0, 1) := by decide +kernel
theorem dX3_ballAt_4 : decode cX3_ballAt 4 = .ok (.invokevirtual 102, 3) := by decide +kernel
theorem dX3_ballAt_7 : decode cX3_ballAt 7 = .ok (.iconst 1, 1) := by decide +kernel
theorem dX3_ballAt_8 : decode cX3_ballAt 8 = .ok (.isub, 1) := by decide +kernel
theorem dX3_ballAt_9 : decode cX3_ballAt 9 = .ok (.invokestatic 68, 3) := by decide +kernel
theorem dX3_ballAt_12 : decode cX3_ballAt 12 = .ok (.ifCond .eq 7, 3) := by decide +kernel
theorem dX3_ballAt_15 : decode cX3_ballAt 15 = .ok (.iconst 0, 1) := by decide +kernel
theorem dX3_ballAt_16 : decode cX3_ballAt 16 = .ok (.goto 4, 3) := by decide +kernel
theorem dX3_ballAt_19 : decode cX3_ballAt 19 = .ok (.iconst 1, 1) := by decide +kernel
theorem dX3_ballAt_20 : decode cX3_ballAt 20 = .ok (.putfield 51, 3) := by decide +kernel
theorem dX3_ballAt_23 : decode cX3_ballAt 23 = .ok (.aload_n 0, 1) := by decide +kernel
theorem dX3_ballAt_24 : decode cX3_ballAt 24 = .ok (.getfield 51, 3) := by decide +kernel
theorem dX3_ballAt_27 : decode cX3_ballAt 27 = .ok (.ifCond .ne 15, 3) := by decide +kernel
theorem dX3_ballAt_30 : decode cX3_ballAt 30 = .ok (.aload_n 0, 1) := by decide +kernel
theorem dX3_ballAt_31 : decode cX3_ballAt 31 = .ok (.aload_n 0, 1) := by decide +kernel
theorem dX3_ballAt_32 : decode cX3_ballAt 32 = .ok (.invokevirtual 105, 3) := by decide +kernel
theorem dX3_ballAt_35 : decode cX3_ballAt 35 = .ok (.iload_n 1, 1) := by decide +kernel
theorem dX3_ballAt_36 : decode cX3_ballAt 36 = .ok (.invokevirtual 108, 3) := by decide +kernel
theorem dX3_ballAt_39 : decode cX3_ballAt 39 = .ok (.goto 4, 3) := by decide +kernel
theorem dX3_ballAt_42 : decode cX3_ballAt 42 = .ok (.iconst 0, 1) := by decide +kernel
theorem dX3_ballAt_43 : decode cX3_ballAt 43 = .ok (.ireturn, 1) := by decide +kernel
set_option maxRecDepth 20000 in
theorem ggX3_groupOf_X3_isTeam : GoodIn wsX3_groupOf wsX3_isTeam := goodIn_r _ [7, 8, 9, 10, 6, 11, 12, 13, 14, 15, 16, 17, 18, 19, 20, 21, 22, 23, 24, 25, 26, 27, 28, 29, 30, 31, 32, 33] (by decide +kernel) (by decide +kernel)
set_option maxRecDepth 20000 in
theorem gX3_groupOf_X3_isTeam : GoodIn wsX3_groupOf (wsV RX3 72 RX3 yX3_isTeam wsX3_isTeam) := goodIn_app (goodIn_of _ (by decide +kernel)) ggX3_groupOf_X3_isTeam
theorem dX3_groupOf_0 : decode cX3_groupOf 0 = .ok (.aload_n 0, 1) := by decide +kernel
theorem dX3_groupOf_1 : decode cX3_groupOf 1 = .ok (.aload_n 0, 1) := by decide +kernel
theorem dX3_groupOf_2 : decode cX3_groupOf 2 = .ok (.iload_n 1, 1) := by decide +kernel
theorem dX3_groupOf_3 : decode cX3_groupOf 3 = .ok (.invokevirtual 72, 3) := by decide +kernel
theorem dX3_groupOf_6 : decode cX3_groupOf 6 = .ok (.ifCond .eq 7, 3) := by decide +kernel
theorem dX3_groupOf_9 : decode cX3_groupOf 9 = .ok (.iconst 0, 1) := by decide +kernel
theorem dX3_groupOf_10 : decode cX3_groupOf 10 = .ok (.goto 4, 3) := by decide +kernel
theorem dX3_groupOf_13 : decode cX3_groupOf 13 = .ok (.iconst 1, 1) := by decide +kernel
theorem dX3_groupOf_14 : decode cX3_groupOf 14 = .ok (.putfield 51, 3) := by decide +kernel
theorem dX3_groupOf_17 : decode cX3_groupOf 17 = .ok (.aload_n 0, 1) := by decide +kernel
theorem dX3_groupOf_18 : decode cX3_groupOf 18 = .ok (.getfield 51, 3) := by decide +kernel
theorem dX3_groupOf_21 : decode cX3_groupOf 21 = .ok (.ifCond .ne 12, 3) := by decide +kernel
theorem dX3_groupOf_24 : decode cX3_groupOf 24 = .ok (.aload_n 0, 1) := by decide +kernel
theorem dX3_groupOf_25 : decode cX3_groupOf 25 = .ok (.getfield 26, 3) := by decide +kernel
theorem dX3_groupOf_28 : decode cX3_groupOf 28 = .ok (.iload_n 1, 1) := by decide +kernel
theorem dX3_groupOf_29 : decode cX3_groupOf 29 = .ok (.iaload, 1) := by decide +kernel
theorem dX3_groupOf_30 : decode cX3_groupOf 30 = .ok (.goto 4, 3) := by decide +kernel
theorem dX3_groupOf_33 : decode cX3_groupOf 33 = .ok (.iconst 0, 1) := by decide +kernel
theorem dX3_groupOf_34 : decode cX3_groupOf 34 = .ok (.ireturn, 1) := by decide +kernel
set_option maxRecDepth 20000 in
theorem ggX3_teamAt_X3_isGroup : GoodIn wsX3_teamAt wsX3_isGroup := goodIn_r _ [9, 3, 10, 11, 8, 12, 13, 14, 15, 16, 17, 18, 19, 20, 21, 22, 23, 24, 25, 26, 27, 28, 29] (by decide +kernel) (by decide +kernel)
set_option maxRecDepth 20000 in
theorem gX3_teamAt_X3_isGroup : GoodIn wsX3_teamAt (wsV RX3 114 RX3 yX3_isGroup wsX3_isGroup) := goodIn_app (goodIn_of _ (by decide +kernel)) ggX3_teamAt_X3_isGroup
set_option maxRecDepth 20000 in
theorem ggX3_teamAt_X3_in : GoodIn wsX3_teamAt wsX3_in := goodIn_r _ [12] (by decide +kernel) (by decide +kernel)
set_option maxRecDepth 20000 in
theorem gX3_teamAt_X3_in : GoodIn wsX3_teamAt (va_wsS RX3 68 yX3_in wsX3_in) := goodIn_app (goodIn_of _ (by decide +kernel)) ggX3_teamAt_X3_in
theorem dX3_teamAt_0 : decode cX3_teamAt 0 = .ok (.aload_n 0, 1) := by decide +kernel
theorem dX3_teamAt_1 : decode cX3_teamAt 1 = .ok (.aload_n 0, 1) := by decide +kernel
theorem dX3_teamAt_2 : decode cX3_teamAt 2 = .ok (.iload_n 1, 1) := by decide +kernel
theorem dX3_teamAt_3 : decode cX3_teamAt 3 = .ok (.invokevirtual 114, 3) := by decide +kernel
theorem dX3_teamAt_6 : decode cX3_teamAt 6 = .ok (.ifCond .eq 21, 3) := by decide +kernel
theorem dX3_teamAt_9 : decode cX3_teamAt 9 = .ok (.iload_n 2, 1) := by decide +kernel
theorem dX3_teamAt_10 : decode cX3_teamAt 10 = .ok (.iconst 0, 1) := by decide +kernel
theorem dX3_teamAt_11 : decode cX3_teamAt 11 = .ok (.aload_n 0, 1) := by decide +kernel
theorem dX3_teamAt_12 : decode cX3_teamAt 12 = .ok (.getfield 58, 3) := by decide +kernel
theorem dX3_teamAt_15 : decode cX3_teamAt 15 = .ok (.iconst 1, 1) := by decide +kernel
theorem dX3_teamAt_16 : decode cX3_teamAt 16 = .ok (.isub, 1) := by decide +kernel
theorem dX3_teamAt_17 : decode cX3_teamAt 17 = .ok (.invokestatic 68, 3) := by decide +kernel
theorem dX3_teamAt_20 : decode cX3_teamAt 20 = .ok (.ifCond .eq 7, 3) := by decide +kernel
theorem dX3_teamAt_23 : decode cX3_teamAt 23 = .ok (.iconst 0, 1) := by decide +kernel
theorem dX3_teamAt_24 : decode cX3_teamAt 24 = .ok (.goto 4, 3) := by decide +kernel
theorem dX3_teamAt_27 : decode cX3_teamAt 27 = .ok (.iconst 1, 1) := by decide +kernel
theorem dX3_teamAt_28 : decode cX3_teamAt 28 = .ok (.putfield 51, 3) := by decide +kernel
theorem dX3_teamAt_31 : decode cX3_teamAt 31 = .ok (.aload_n 0, 1) := by decide +kernel
theorem dX3_teamAt_32 : decode cX3_teamAt 32 = .ok (.getfield 55, 3) := by decide +kernel
theorem dX3_teamAt_35 : decode cX3_teamAt 35 = .ok (.iload_n 2, 1) := by decide +kernel
theorem dX3_teamAt_36 : decode cX3_teamAt 36 = .ok (.imul, 1) := by decide +kernel
theorem dX3_teamAt_37 : decode cX3_teamAt 37 = .ok (.istore_n 3, 1) := by decide +kernel
theorem dX3_teamAt_38 : decode cX3_teamAt 38 = .ok (.iload_n 3, 1) := by decide +kernel
theorem dX3_teamAt_39 : decode cX3_teamAt 39 = .ok (.aload_n 0, 1) := by decide +kernel
theorem dX3_teamAt_40 : decode cX3_teamAt 40 = .ok (.getfield 55, 3) := by decide +kernel
theorem dX3_teamAt_43 : decode cX3_teamAt 43 = .ok (.iload_n 2, 1) := by decide +kernel
theorem dX3_teamAt_44 : decode cX3_teamAt 44 = .ok (.iconst 1, 1) := by decide +kernel
theorem dX3_teamAt_45 : decode cX3_teamAt 45 = .ok (.iadd, 1) := by decide +kernel
theorem dX3_teamAt_46 : decode cX3_teamAt 46 = .ok (.imul, 1) := by decide +kernel
theorem dX3_teamAt_47 : decode cX3_teamAt 47 = .ok (.if_icmp .ge 28, 3) := by decide +kernel
theorem dX3_teamAt_50 : decode cX3_teamAt 50 = .ok (.aload_n 0, 1) := by decide +kernel
theorem dX3_teamAt_51 : decode cX3_teamAt 51 = .ok (.getfield 51, 3) := by decide +kernel
theorem dX3_teamAt_54 : decode cX3_teamAt 54 = .ok (.ifCond .ne 21, 3) := by decide +kernel
theorem dX3_teamAt_57 : decode cX3_teamAt 57 = .ok (.aload_n 0, 1) := by decide +kernel
theorem dX3_teamAt_58 : decode cX3_teamAt 58 = .ok (.getfield 26, 3) := by decide +kernel
theorem dX3_teamAt_61 : decode cX3_teamAt 61 = .ok (.iload_n 3, 1) := by decide +kernel
theorem dX3_teamAt_62 : decode cX3_teamAt 62 = .ok (.iaload, 1) := by decide +kernel
theorem dX3_teamAt_63 : decode cX3_teamAt 63 = .ok (.iload_n 1, 1) := by decide +kernel
theorem dX3_teamAt_64 : decode cX3_teamAt 64 = .ok (.if_icmp .ne 5, 3) := by decide +kernel
theorem dX3_teamAt_67 : decode cX3_teamAt 67 = .ok (.iload_n 3, 1) := by decide +kernel
theorem dX3_teamAt_68 : decode cX3_teamAt 68 = .ok (.ireturn, 1) := by decide +kernel
theorem dX3_teamAt_69 : decode cX3_teamAt 69 = .ok (.iinc 3 1, 3) := by decide +kernel
theorem dX3_teamAt_72 : decode cX3_teamAt 72 = .ok (.goto (-34), 3) := by decide +kernel
theorem dX3_teamAt_75 : decode cX3_teamAt 75 = .ok (.aload_n 0, 1) := by decide +kernel
theorem dX3_teamAt_76 : decode cX3_teamAt 76 = .ok (.getfield 51, 3) := by decide +kernel
theorem dX3_teamAt_79 : decode cX3_teamAt 79 = .ok (.ifCond .ne 7, 3) := by decide +kernel
theorem dX3_teamAt_82 : decode cX3_teamAt 82 = .ok (.iconst (-1), 1) := by decide +kernel
theorem dX3_teamAt_83 : decode cX3_teamAt 83 = .ok (.goto 4, 3) := by decide +kernel
theorem dX3_teamAt_86 : decode cX3_teamAt 86 = .ok (.iconst 0, 1) := by decide +kernel
theorem dX3_teamAt_87 : decode cX3_teamAt 87 = .ok (.ireturn, 1) := by decide +kernel
set_option maxRecDepth 20000 in
theorem ggX3_results_X3_layResults : GoodIn wsX3_results wsX3_layResults := goodIn_r _ [7, 8, 9, 2, 10, 11, 12, 13, 6, 14, 15, 16, 17, 18, 19, 20, 21, 22, 23, 24, 25, 26, 27, 28, 29, 30, 31, 32, 33, 34, 35, 36, 37, 38, 39, 40, 41, 42, 43, 44, 45, 46, 47, 48, 49] (by decide +kernel) (by decide +kernel)
set_option maxRecDepth 20000 in
theorem gX3_results_X3_layResults : GoodIn wsX3_results (wsV RX3 99 RX3 yX3_layResults wsX3_layResults) := goodIn_app (goodIn_of _ (by decide +kernel)) ggX3_results_X3_layResults
theorem dX3_results_0 : decode cX3_results 0 = .ok (.aload_n 0, 1) := by decide +kernel
theorem dX3_results_1 : decode cX3_results 1 = .ok (.iconst 0, 1) := by decide +kernel
theorem dX3_results_2 : decode cX3_results 2 = .ok (.putfield 51, 3) := by decide +kernel
theorem dX3_results_5 : decode cX3_results 5 = .ok (.aload_n 0, 1) := by decide +kernel
theorem dX3_results_6 : decode cX3_results 6 = .ok (.invokevirtual 99, 3) := by decide +kernel
theorem dX3_results_9 : decode cX3_results 9 = .ok (.aload_n 0, 1) := by decide +kernel
theorem dX3_results_10 : decode cX3_results 10 = .ok (.getfield 84, 3) := by decide +kernel
theorem dX3_results_13 : decode cX3_results 13 = .ok (.ireturn, 1) := by decide +kernel
set_option maxRecDepth 20000 in
theorem ggX3_isPlace_X3_isTeam : GoodIn wsX3_isPlace wsX3_isTeam := goodIn_r _ [6, 7, 8, 9, 5, 10, 11, 12, 13, 14, 15, 20, 21, 22, 23, 24, 25, 26, 27, 28, 29, 30, 31, 32, 33, 34, 35, 36] (by decide +kernel) (by decide +kernel)
set_option maxRecDepth 20000 in
theorem gX3_isPlace_X3_isTeam : GoodIn wsX3_isPlace (wsV RX3 72 RX3 yX3_isTeam wsX3_isTeam) := goodIn_app (goodIn_of _ (by decide +kernel)) ggX3_isPlace_X3_isTeam
set_option maxRecDepth 20000 in
theorem ggX3_isPlace_X3_isGroup : GoodIn wsX3_isPlace wsX3_isGroup := goodIn_r _ [19, 11, 13, 14, 5, 15, 20, 21, 22, 23, 24, 25, 26, 27, 28, 29, 30, 31, 32, 33, 34, 35, 36] (by decide +kernel) (by decide +kernel)
set_option maxRecDepth 20000 in
theorem gX3_isPlace_X3_isGroup : GoodIn wsX3_isPlace (wsV RX3 114 RX3 yX3_isGroup wsX3_isGroup) := goodIn_app (goodIn_of _ (by decide +kernel)) ggX3_isPlace_X3_isGroup
theorem dX3_isPlace_0 : decode cX3_isPlace 0 = .ok (.aload_n 0, 1) := by decide +kernel
theorem dX3_isPlace_1 : decode cX3_isPlace 1 = .ok (.aload_n 0, 1) := by decide +kernel
theorem dX3_isPlace_2 : decode cX3_isPlace 2 = .ok (.iload_n 1, 1) := by decide +kernel
theorem dX3_isPlace_3 : decode cX3_isPlace 3 = .ok (.invokevirtual 72, 3) := by decide +kernel
theorem dX3_isPlace_6 : decode cX3_isPlace 6 = .ok (.ifCond .eq 15, 3) := by decide +kernel
theorem dX3_isPlace_9 : decode cX3_isPlace 9 = .ok (.aload_n 0, 1) := by decide +kernel
theorem dX3_isPlace_10 : decode cX3_isPlace 10 = .ok (.iload_n 2, 1) := by decide +kernel
theorem dX3_isPlace_11 : decode cX3_isPlace 11 = .ok (.invokevirtual 114, 3) := by decide +kernel
theorem dX3_isPlace_14 : decode cX3_isPlace 14 = .ok (.ifCond .eq 7, 3) := by decide +kernel
theorem dX3_isPlace_17 : decode cX3_isPlace 17 = .ok (.iconst 0, 1) := by decide +kernel
theorem dX3_isPlace_18 : decode cX3_isPlace 18 = .ok (.goto 4, 3) := by decide +kernel
theorem dX3_isPlace_21 : decode cX3_isPlace 21 = .ok (.iconst 1, 1) := by decide +kernel
theorem dX3_isPlace_22 : decode cX3_isPlace 22 = .ok (.putfield 51, 3) := by decide +kernel
theorem dX3_isPlace_25 : decode cX3_isPlace 25 = .ok (.aload_n 0, 1) := by decide +kernel
theorem dX3_isPlace_26 : decode cX3_isPlace 26 = .ok (.getfield 51, 3) := by decide +kernel
theorem dX3_isPlace_29 : decode cX3_isPlace 29 = .ok (.ifCond .ne 7, 3) := by decide +kernel
theorem dX3_isPlace_32 : decode cX3_isPlace 32 = .ok (.iconst 1, 1) := by decide +kernel
theorem dX3_isPlace_33 : decode cX3_isPlace 33 = .ok (.goto 4, 3) := by decide +kernel
theorem dX3_isPlace_36 : decode cX3_isPlace 36 = .ok (.iconst 0, 1) := by decide +kernel
theorem dX3_isPlace_37 : decode cX3_isPlace 37 = .ok (.ireturn, 1) := by decide +kernel
set_option maxRecDepth 20000 in
theorem ggX3_fits_X3_evenly : GoodIn wsX3_fits wsX3_evenly := goodIn_r _ [5, 6, 7, 8, 4, 9, 10, 11, 12, 13, 14, 15, 16, 17, 18, 19, 20, 21, 22, 23, 24, 25, 26, 27, 28, 29, 30, 31, 32, 33, 34, 35, 36, 37, 38, 39, 40, 41, 42, 43, 44, 45, 46, 47, 48, 49, 50, 51, 52, 53, 54, 55, 56, 57, 58, 59, 60, 61, 62, 63, 64, 65, 66, 67, 68, 69, 70, 71, 72] (by decide +kernel) (by decide +kernel)
set_option maxRecDepth 20000 in
theorem gX3_fits_X3_evenly : GoodIn wsX3_fits (wsV RX3 117 RX3 yX3_evenly wsX3_evenly) := goodIn_app (goodIn_of _ (by decide +kernel)) ggX3_fits_X3_evenly
theorem dX3_fits_0 : decode cX3_fits 0 = .ok (.aload_n 0, 1) := by decide +kernel
theorem dX3_fits_1 : decode cX3_fits 1 = .ok (.iload_n 1, 1) := by decide +kernel
theorem dX3_fits_2 : decode cX3_fits 2 = .ok (.iload_n 2, 1) := by decide +kernel
theorem dX3_fits_3 : decode cX3_fits 3 = .ok (.invokevirtual 117, 3) := by decide +kernel
theorem dX3_fits_6 : decode cX3_fits 6 = .ok (.ifCond .le 7, 3) := by decide +kernel
theorem dX3_fits_9 : decode cX3_fits 9 = .ok (.iconst 1, 1) := by decide +kernel
theorem dX3_fits_10 : decode cX3_fits 10 = .ok (.goto 4, 3) := by decide +kernel
theorem dX3_fits_13 : decode cX3_fits 13 = .ok (.iconst 0, 1) := by decide +kernel
theorem dX3_fits_14 : decode cX3_fits 14 = .ok (.ireturn, 1) := by decide +kernel
set_option maxRecDepth 20000 in
theorem ggX3_forced_X3_isTeam : GoodIn wsX3_forced wsX3_isTeam := goodIn_r _ [7, 8, 9, 10, 6, 11, 12, 13, 14, 15, 16, 48, 49, 50, 51, 52, 53, 54, 55, 56, 57, 58, 59, 60, 61, 62, 63, 64] (by decide +kernel) (by decide +kernel)
set_option maxRecDepth 20000 in
theorem gX3_forced_X3_isTeam : GoodIn wsX3_forced (wsV RX3 72 RX3 yX3_isTeam wsX3_isTeam) := goodIn_app (goodIn_of _ (by decide +kernel)) ggX3_forced_X3_isTeam
set_option maxRecDepth 20000 in
theorem ggX3_forced_X3_layResults : GoodIn wsX3_forced wsX3_layResults := goodIn_r _ [20, 12, 13, 2, 21, 22, 23, 24, 6, 25, 26, 27, 28, 29, 30, 31, 32, 33, 34, 35, 36, 37, 38, 39, 8, 9, 10, 11, 48, 49, 50, 51, 52, 53, 54, 55, 56, 57, 58, 59, 60, 61, 62, 63, 64] (by decide +kernel) (by decide +kernel)
set_option maxRecDepth 20000 in
theorem gX3_forced_X3_layResults : GoodIn wsX3_forced (wsV RX3 99 RX3 yX3_layResults wsX3_layResults) := goodIn_app (goodIn_of _ (by decide +kernel)) ggX3_forced_X3_layResults
set_option maxRecDepth 20000 in
theorem ggX3_forced_X3_lowestFor : GoodIn wsX3_forced wsX3_lowestFor := goodIn_r _ [43, 12, 44, 45, 46, 6, 47, 2, 21, 48, 49, 50, 51, 52, 53, 54, 55, 56, 57, 58, 59, 60, 61, 62, 63, 64] (by decide +kernel) (by decide +kernel)
set_option maxRecDepth 20000 in
theorem gX3_forced_X3_lowestFor : GoodIn wsX3_forced (wsV RX3 111 RX3 yX3_lowestFor wsX3_lowestFor) := goodIn_app (goodIn_of _ (by decide +kernel)) ggX3_forced_X3_lowestFor
set_option maxRecDepth 20000 in
theorem ggX3_forced_X3_countIn : GoodIn wsX3_forced wsX3_countIn := goodIn_r _ [47, 2, 21, 48, 49, 50, 51, 52, 53, 54, 55, 56, 57, 58, 59, 60, 61, 62, 63, 64] (by decide +kernel) (by decide +kernel)
set_option maxRecDepth 20000 in
theorem gX3_forced_X3_countIn : GoodIn wsX3_forced (wsV RX3 95 RX3 yX3_countIn wsX3_countIn) := goodIn_app (goodIn_of _ (by decide +kernel)) ggX3_forced_X3_countIn
theorem dX3_forced_0 : decode cX3_forced 0 = .ok (.aload_n 0, 1) := by decide +kernel
theorem dX3_forced_1 : decode cX3_forced 1 = .ok (.aload_n 0, 1) := by decide +kernel
theorem dX3_forced_2 : decode cX3_forced 2 = .ok (.iload_n 1, 1) := by decide +kernel
theorem dX3_forced_3 : decode cX3_forced 3 = .ok (.invokevirtual 72, 3) := by decide +kernel
theorem dX3_forced_6 : decode cX3_forced 6 = .ok (.ifCond .eq 7, 3) := by decide +kernel
theorem dX3_forced_9 : decode cX3_forced 9 = .ok (.iconst 0, 1) := by decide +kernel
theorem dX3_forced_10 : decode cX3_forced 10 = .ok (.goto 4, 3) := by decide +kernel
theorem dX3_forced_13 : decode cX3_forced 13 = .ok (.iconst 1, 1) := by decide +kernel
theorem dX3_forced_14 : decode cX3_forced 14 = .ok (.putfield 51, 3) := by decide +kernel
theorem dX3_forced_17 : decode cX3_forced 17 = .ok (.aload_n 0, 1) := by decide +kernel
theorem dX3_forced_18 : decode cX3_forced 18 = .ok (.getfield 51, 3) := by decide +kernel
theorem dX3_forced_21 : decode cX3_forced 21 = .ok (.ifCond .le 5, 3) := by decide +kernel
theorem dX3_forced_24 : decode cX3_forced 24 = .ok (.iconst 0, 1) := by decide +kernel
theorem dX3_forced_25 : decode cX3_forced 25 = .ok (.ireturn, 1) := by decide +kernel
theorem dX3_forced_26 : decode cX3_forced 26 = .ok (.aload_n 0, 1) := by decide +kernel
theorem dX3_forced_27 : decode cX3_forced 27 = .ok (.invokevirtual 99, 3) := by decide +kernel
theorem dX3_forced_30 : decode cX3_forced 30 = .ok (.aload_n 0, 1) := by decide +kernel
theorem dX3_forced_31 : decode cX3_forced 31 = .ok (.iload_n 1, 1) := by decide +kernel
theorem dX3_forced_32 : decode cX3_forced 32 = .ok (.invokevirtual 111, 3) := by decide +kernel
theorem dX3_forced_35 : decode cX3_forced 35 = .ok (.istore_n 2, 1) := by decide +kernel
theorem dX3_forced_36 : decode cX3_forced 36 = .ok (.iload_n 2, 1) := by decide +kernel
theorem dX3_forced_37 : decode cX3_forced 37 = .ok (.iconst (-1), 1) := by decide +kernel
theorem dX3_forced_38 : decode cX3_forced 38 = .ok (.if_icmp .eq 20, 3) := by decide +kernel
theorem dX3_forced_41 : decode cX3_forced 41 = .ok (.aload_n 0, 1) := by decide +kernel
theorem dX3_forced_42 : decode cX3_forced 42 = .ok (.iload_n 1, 1) := by decide +kernel
theorem dX3_forced_43 : decode cX3_forced 43 = .ok (.iload_n 2, 1) := by decide +kernel
theorem dX3_forced_44 : decode cX3_forced 44 = .ok (.invokevirtual 95, 3) := by decide +kernel
theorem dX3_forced_47 : decode cX3_forced 47 = .ok (.aload_n 0, 1) := by decide +kernel
theorem dX3_forced_48 : decode cX3_forced 48 = .ok (.getfield 84, 3) := by decide +kernel
theorem dX3_forced_51 : decode cX3_forced 51 = .ok (.if_icmp .ne 7, 3) := by decide +kernel
theorem dX3_forced_54 : decode cX3_forced 54 = .ok (.iload_n 2, 1) := by decide +kernel
theorem dX3_forced_55 : decode cX3_forced 55 = .ok (.goto 4, 3) := by decide +kernel
theorem dX3_forced_58 : decode cX3_forced 58 = .ok (.iconst (-1), 1) := by decide +kernel
theorem dX3_forced_59 : decode cX3_forced 59 = .ok (.ireturn, 1) := by decide +kernel
set_option maxRecDepth 20000 in
theorem ggX3_evenly_X3_isPlace : GoodIn wsX3_evenly wsX3_isPlace := goodIn_r _ [5, 6, 7, 8, 9, 4, 10, 11, 12, 13, 14, 15, 16, 17, 18, 19, 20, 21, 22, 23, 52, 53, 54, 55, 56, 57, 58, 59, 60, 61, 62, 63, 64, 65, 66, 67, 68] (by decide +kernel) (by decide +kernel)
set_option maxRecDepth 20000 in
theorem gX3_evenly_X3_isPlace : GoodIn wsX3_evenly (wsV RX3 120 RX3 yX3_isPlace wsX3_isPlace) := goodIn_app (goodIn_of _ (by decide +kernel)) ggX3_evenly_X3_isPlace
set_option maxRecDepth 20000 in
theorem ggX3_evenly_X3_layResults : GoodIn wsX3_evenly wsX3_layResults := goodIn_r _ [27, 15, 16, 28, 29, 30, 31, 32, 4, 33, 34, 35, 36, 37, 38, 39, 40, 41, 42, 43, 44, 45, 46, 47, 11, 12, 13, 14, 52, 53, 54, 55, 56, 57, 58, 59, 60, 61, 62, 63, 64, 65, 66, 67, 68] (by decide +kernel) (by decide +kernel)
set_option maxRecDepth 20000 in
theorem gX3_evenly_X3_layResults : GoodIn wsX3_evenly (wsV RX3 99 RX3 yX3_layResults wsX3_layResults) := goodIn_app (goodIn_of _ (by decide +kernel)) ggX3_evenly_X3_layResults
set_option maxRecDepth 20000 in
theorem ggX3_evenly_X3_countIn : GoodIn wsX3_evenly wsX3_countIn := goodIn_r _ [51, 28, 29, 52, 53, 54, 55, 56, 57, 58, 59, 60, 61, 62, 63, 64, 65, 66, 67, 68] (by decide +kernel) (by decide +kernel)
set_option maxRecDepth 20000 in
theorem gX3_evenly_X3_countIn : GoodIn wsX3_evenly (wsV RX3 95 RX3 yX3_countIn wsX3_countIn) := goodIn_app (goodIn_of _ (by decide +kernel)) ggX3_evenly_X3_countIn
theorem dX3_evenly_0 : decode cX3_evenly 0 = .ok (.aload_n 0, 1) := by decide +kernel
theorem dX3_evenly_1 : decode cX3_evenly 1 = .ok (.iload_n 1, 1) := by decide +kernel
theorem dX3_evenly_2 : decode cX3_evenly 2 = .ok (.iload_n 2, 1) := by decide +kernel
theorem dX3_evenly_3 : decode cX3_evenly 3 = .ok (.invokevirtual 120, 3) := by decide +kernel
theorem dX3_evenly_6 : decode cX3_evenly 6 = .ok (.ifCond .ne 5, 3) := by decide +kernel
theorem dX3_evenly_9 : decode cX3_evenly 9 = .ok (.iconst 0, 1) := by decide +kernel
theorem dX3_evenly_10 : decode cX3_evenly 10 = .ok (.ireturn, 1) := by decide +kernel
theorem dX3_evenly_11 : decode cX3_evenly 11 = .ok (.aload_n 0, 1) := by decide +kernel
theorem dX3_evenly_12 : decode cX3_evenly 12 = .ok (.invokevirtual 99, 3) := by decide +kernel
theorem dX3_evenly_15 : decode cX3_evenly 15 = .ok (.aload_n 0, 1) := by decide +kernel
theorem dX3_evenly_16 : decode cX3_evenly 16 = .ok (.iload_n 1, 1) := by decide +kernel
theorem dX3_evenly_17 : decode cX3_evenly 17 = .ok (.iload_n 2, 1) := by decide +kernel
theorem dX3_evenly_18 : decode cX3_evenly 18 = .ok (.invokevirtual 95, 3) := by decide +kernel
theorem dX3_evenly_21 : decode cX3_evenly 21 = .ok (.ireturn, 1) := by decide +kernel
set_option maxRecDepth 20000 in
theorem ggX3_orderMany_X3_factorial : GoodIn wsX3_orderMany wsX3_factorial := goodIn_r _ [7] (by decide +kernel) (by decide +kernel)
set_option maxRecDepth 20000 in
theorem gX3_orderMany_X3_factorial : GoodIn wsX3_orderMany (va_wsS RX3 80 yX3_factorial wsX3_factorial) := goodIn_app (goodIn_of _ (by decide +kernel)) ggX3_orderMany_X3_factorial
theorem dX3_orderMany_0 : decode cX3_orderMany 0 = .ok (.iconst 1, 1) := by decide +kernel
theorem dX3_orderMany_1 : decode cX3_orderMany 1 = .ok (.istore_n 1, 1) := by decide +kernel
theorem dX3_orderMany_2 : decode cX3_orderMany 2 = .ok (.iconst 0, 1) := by decide +kernel
theorem dX3_orderMany_3 : decode cX3_orderMany 3 = .ok (.istore_n 2, 1) := by decide +kernel
theorem dX3_orderMany_4 : decode cX3_orderMany 4 = .ok (.iload_n 2, 1) := by decide +kernel
theorem dX3_orderMany_5 : decode cX3_orderMany 5 = .ok (.aload_n 0, 1) := by decide +kernel
theorem dX3_orderMany_6 : decode cX3_orderMany 6 = .ok (.getfield 58, 3) := by decide +kernel
theorem dX3_orderMany_9 : decode cX3_orderMany 9 = .ok (.if_icmp .ge 64, 3) := by decide +kernel
theorem dX3_orderMany_12 : decode cX3_orderMany 12 = .ok (.iconst 0, 1) := by decide +kernel
theorem dX3_orderMany_13 : decode cX3_orderMany 13 = .ok (.istore_n 3, 1) := by decide +kernel
theorem dX3_orderMany_14 : decode cX3_orderMany 14 = .ok (.aload_n 0, 1) := by decide +kernel
theorem dX3_orderMany_15 : decode cX3_orderMany 15 = .ok (.getfield 55, 3) := by decide +kernel
theorem dX3_orderMany_18 : decode cX3_orderMany 18 = .ok (.iload_n 2, 1) := by decide +kernel
theorem dX3_orderMany_19 : decode cX3_orderMany 19 = .ok (.imul, 1) := by decide +kernel
theorem dX3_orderMany_20 : decode cX3_orderMany 20 = .ok (.istore 4, 2) := by decide +kernel
theorem dX3_orderMany_22 : decode cX3_orderMany 22 = .ok (.iload 4, 2) := by decide +kernel
theorem dX3_orderMany_24 : decode cX3_orderMany 24 = .ok (.aload_n 0, 1) := by decide +kernel
theorem dX3_orderMany_25 : decode cX3_orderMany 25 = .ok (.getfield 55, 3) := by decide +kernel
theorem dX3_orderMany_28 : decode cX3_orderMany 28 = .ok (.iload_n 2, 1) := by decide +kernel
theorem dX3_orderMany_29 : decode cX3_orderMany 29 = .ok (.iconst 1, 1) := by decide +kernel
theorem dX3_orderMany_30 : decode cX3_orderMany 30 = .ok (.iadd, 1) := by decide +kernel
theorem dX3_orderMany_31 : decode cX3_orderMany 31 = .ok (.imul, 1) := by decide +kernel
theorem dX3_orderMany_32 : decode cX3_orderMany 32 = .ok (.if_icmp .ge 28, 3) := by decide +kernel
theorem dX3_orderMany_35 : decode cX3_orderMany 35 = .ok (.iload_n 3, 1) := by decide +kernel
theorem dX3_orderMany_36 : decode cX3_orderMany 36 = .ok (.aload_n 0, 1) := by decide +kernel
theorem dX3_orderMany_37 : decode cX3_orderMany 37 = .ok (.getfield 26, 3) := by decide +kernel
theorem dX3_orderMany_40 : decode cX3_orderMany 40 = .ok (.iload 4, 2) := by decide +kernel
theorem dX3_orderMany_42 : decode cX3_orderMany 42 = .ok (.iaload, 1) := by decide +kernel
theorem dX3_orderMany_43 : decode cX3_orderMany 43 = .ok (.iconst (-1), 1) := by decide +kernel
theorem dX3_orderMany_44 : decode cX3_orderMany 44 = .ok (.if_icmp .ne 7, 3) := by decide +kernel
theorem dX3_orderMany_47 : decode cX3_orderMany 47 = .ok (.iconst 1, 1) := by decide +kernel
theorem dX3_orderMany_48 : decode cX3_orderMany 48 = .ok (.goto 4, 3) := by decide +kernel
theorem dX3_orderMany_51 : decode cX3_orderMany 51 = .ok (.iconst 0, 1) := by decide +kernel
theorem dX3_orderMany_52 : decode cX3_orderMany 52 = .ok (.iadd, 1) := by decide +kernel
theorem dX3_orderMany_53 : decode cX3_orderMany 53 = .ok (.istore_n 3, 1) := by decide +kernel
theorem dX3_orderMany_54 : decode cX3_orderMany 54 = .ok (.iinc 4 1, 3) := by decide +kernel
theorem dX3_orderMany_57 : decode cX3_orderMany 57 = .ok (.goto (-35), 3) := by decide +kernel
theorem dX3_orderMany_60 : decode cX3_orderMany 60 = .ok (.iload_n 1, 1) := by decide +kernel
theorem dX3_orderMany_61 : decode cX3_orderMany 61 = .ok (.iload_n 3, 1) := by decide +kernel
theorem dX3_orderMany_62 : decode cX3_orderMany 62 = .ok (.invokestatic 80, 3) := by decide +kernel
theorem dX3_orderMany_65 : decode cX3_orderMany 65 = .ok (.imul, 1) := by decide +kernel
theorem dX3_orderMany_66 : decode cX3_orderMany 66 = .ok (.istore_n 1, 1) := by decide +kernel
theorem dX3_orderMany_67 : decode cX3_orderMany 67 = .ok (.iinc 2 1, 3) := by decide +kernel
theorem dX3_orderMany_70 : decode cX3_orderMany 70 = .ok (.goto (-66), 3) := by decide +kernel
theorem dX3_orderMany_73 : decode cX3_orderMany 73 = .ok (.iload_n 1, 1) := by decide +kernel
theorem dX3_orderMany_74 : decode cX3_orderMany 74 = .ok (.ireturn, 1) := by decide +kernel
set_option maxRecDepth 20000 in
theorem ggX3_orders_X3_orderMany : GoodIn wsX3_orders wsX3_orderMany := goodIn_r _ [6, 7, 8, 9, 10, 11, 5, 12, 13, 14, 15, 16, 17, 18, 19, 20, 21, 22, 23, 24, 25, 26, 27, 28, 29] (by decide +kernel) (by decide +kernel)
set_option maxRecDepth 20000 in
theorem gX3_orders_X3_orderMany : GoodIn wsX3_orders (wsV RX3 123 RX3 yX3_orderMany wsX3_orderMany) := goodIn_app (goodIn_of _ (by decide +kernel)) ggX3_orders_X3_orderMany
theorem dX3_orders_0 : decode cX3_orders 0 = .ok (.aload_n 0, 1) := by decide +kernel
theorem dX3_orders_1 : decode cX3_orders 1 = .ok (.iconst 0, 1) := by decide +kernel
theorem dX3_orders_2 : decode cX3_orders 2 = .ok (.putfield 51, 3) := by decide +kernel
theorem dX3_orders_5 : decode cX3_orders 5 = .ok (.aload_n 0, 1) := by decide +kernel
theorem dX3_orders_6 : decode cX3_orders 6 = .ok (.invokevirtual 123, 3) := by decide +kernel
theorem dX3_orders_9 : decode cX3_orders 9 = .ok (.ireturn, 1) := by decide +kernel
theorem dX3_lowestLeft_0 : decode cX3_lowestLeft 0 = .ok (.aload_n 0, 1) := by decide +kernel
theorem dX3_lowestLeft_1 : decode cX3_lowestLeft 1 = .ok (.getfield 55, 3) := by decide +kernel
theorem dX3_lowestLeft_4 : decode cX3_lowestLeft 4 = .ok (.istore_n 2, 1) := by decide +kernel
theorem dX3_lowestLeft_5 : decode cX3_lowestLeft 5 = .ok (.iconst 0, 1) := by decide +kernel
theorem dX3_lowestLeft_6 : decode cX3_lowestLeft 6 = .ok (.istore_n 3, 1) := by decide +kernel
theorem dX3_lowestLeft_7 : decode cX3_lowestLeft 7 = .ok (.iload_n 3, 1) := by decide +kernel
theorem dX3_lowestLeft_8 : decode cX3_lowestLeft 8 = .ok (.aload_n 0, 1) := by decide +kernel
theorem dX3_lowestLeft_9 : decode cX3_lowestLeft 9 = .ok (.getfield 84, 3) := by decide +kernel
theorem dX3_lowestLeft_12 : decode cX3_lowestLeft 12 = .ok (.if_icmp .ge 44, 3) := by decide +kernel
theorem dX3_lowestLeft_15 : decode cX3_lowestLeft 15 = .ok (.aload_n 0, 1) := by decide +kernel
theorem dX3_lowestLeft_16 : decode cX3_lowestLeft 16 = .ok (.getfield 29, 3) := by decide +kernel
theorem dX3_lowestLeft_19 : decode cX3_lowestLeft 19 = .ok (.bipush 9, 2) := by decide +kernel
theorem dX3_lowestLeft_21 : decode cX3_lowestLeft 21 = .ok (.iload_n 3, 1) := by decide +kernel
theorem dX3_lowestLeft_22 : decode cX3_lowestLeft 22 = .ok (.imul, 1) := by decide +kernel
theorem dX3_lowestLeft_23 : decode cX3_lowestLeft 23 = .ok (.iload_n 1, 1) := by decide +kernel
theorem dX3_lowestLeft_24 : decode cX3_lowestLeft 24 = .ok (.iadd, 1) := by decide +kernel
theorem dX3_lowestLeft_25 : decode cX3_lowestLeft 25 = .ok (.iaload, 1) := by decide +kernel
theorem dX3_lowestLeft_26 : decode cX3_lowestLeft 26 = .ok (.istore 4, 2) := by decide +kernel
theorem dX3_lowestLeft_28 : decode cX3_lowestLeft 28 = .ok (.aload_n 0, 1) := by decide +kernel
theorem dX3_lowestLeft_29 : decode cX3_lowestLeft 29 = .ok (.getfield 38, 3) := by decide +kernel
theorem dX3_lowestLeft_32 : decode cX3_lowestLeft 32 = .ok (.iload_n 3, 1) := by decide +kernel
theorem dX3_lowestLeft_33 : decode cX3_lowestLeft 33 = .ok (.baload, 1) := by decide +kernel
theorem dX3_lowestLeft_34 : decode cX3_lowestLeft 34 = .ok (.ifCond .eq 14, 3) := by decide +kernel
theorem dX3_lowestLeft_37 : decode cX3_lowestLeft 37 = .ok (.iload 4, 2) := by decide +kernel
theorem dX3_lowestLeft_39 : decode cX3_lowestLeft 39 = .ok (.iload_n 2, 1) := by decide +kernel
theorem dX3_lowestLeft_40 : decode cX3_lowestLeft 40 = .ok (.if_icmp .ge 8, 3) := by decide +kernel
theorem dX3_lowestLeft_43 : decode cX3_lowestLeft 43 = .ok (.iload 4, 2) := by decide +kernel
theorem dX3_lowestLeft_45 : decode cX3_lowestLeft 45 = .ok (.goto 4, 3) := by decide +kernel
theorem dX3_lowestLeft_48 : decode cX3_lowestLeft 48 = .ok (.iload_n 2, 1) := by decide +kernel
theorem dX3_lowestLeft_49 : decode cX3_lowestLeft 49 = .ok (.istore_n 2, 1) := by decide +kernel
theorem dX3_lowestLeft_50 : decode cX3_lowestLeft 50 = .ok (.iinc 3 1, 3) := by decide +kernel
theorem dX3_lowestLeft_53 : decode cX3_lowestLeft 53 = .ok (.goto (-46), 3) := by decide +kernel
theorem dX3_lowestLeft_56 : decode cX3_lowestLeft 56 = .ok (.iload_n 2, 1) := by decide +kernel
theorem dX3_lowestLeft_57 : decode cX3_lowestLeft 57 = .ok (.ireturn, 1) := by decide +kernel
set_option maxRecDepth 20000 in
theorem ggX3_follow_X3_factorial : GoodIn wsX3_follow wsX3_factorial := goodIn_r _ [13] (by decide +kernel) (by decide +kernel)
set_option maxRecDepth 20000 in
theorem gX3_follow_X3_factorial : GoodIn wsX3_follow (va_wsS RX3 80 yX3_factorial wsX3_factorial) := goodIn_app (goodIn_of _ (by decide +kernel)) ggX3_follow_X3_factorial
set_option maxRecDepth 20000 in
theorem ggX3_follow_X3_layOrder : GoodIn wsX3_follow wsX3_layOrder := goodIn_r _ [17, 18, 8, 23, 24, 25, 26, 27, 28, 29, 30, 31, 32, 33, 34, 35, 36, 37, 38, 39] (by decide +kernel) (by decide +kernel)
set_option maxRecDepth 20000 in
theorem gX3_follow_X3_layOrder : GoodIn wsX3_follow (wsV RX3 87 RX3 yX3_layOrder wsX3_layOrder) := goodIn_app (goodIn_of _ (by decide +kernel)) ggX3_follow_X3_layOrder
set_option maxRecDepth 20000 in
theorem ggX3_follow_X3_lowestLeft : GoodIn wsX3_follow wsX3_lowestLeft := goodIn_r _ [22, 4, 1, 9, 2, 23, 24, 25, 26, 27, 28, 29, 30, 31, 32, 33, 34, 35, 36, 37, 38, 39] (by decide +kernel) (by decide +kernel)
set_option maxRecDepth 20000 in
theorem gX3_follow_X3_lowestLeft : GoodIn wsX3_follow (wsV RX3 126 RX3 yX3_lowestLeft wsX3_lowestLeft) := goodIn_app (goodIn_of _ (by decide +kernel)) ggX3_follow_X3_lowestLeft
theorem dX3_follow_0 : decode cX3_follow 0 = .ok (.iload_n 1, 1) := by decide +kernel
theorem dX3_follow_1 : decode cX3_follow 1 = .ok (.istore_n 2, 1) := by decide +kernel
theorem dX3_follow_2 : decode cX3_follow 2 = .ok (.iconst 0, 1) := by decide +kernel
theorem dX3_follow_3 : decode cX3_follow 3 = .ok (.istore_n 3, 1) := by decide +kernel
theorem dX3_follow_4 : decode cX3_follow 4 = .ok (.iload_n 3, 1) := by decide +kernel
theorem dX3_follow_5 : decode cX3_follow 5 = .ok (.aload_n 0, 1) := by decide +kernel
theorem dX3_follow_6 : decode cX3_follow 6 = .ok (.getfield 84, 3) := by decide +kernel
theorem dX3_follow_9 : decode cX3_follow 9 = .ok (.if_icmp .ge 16, 3) := by decide +kernel
theorem dX3_follow_12 : decode cX3_follow 12 = .ok (.aload_n 0, 1) := by decide +kernel
theorem dX3_follow_13 : decode cX3_follow 13 = .ok (.getfield 38, 3) := by decide +kernel
theorem dX3_follow_16 : decode cX3_follow 16 = .ok (.iload_n 3, 1) := by decide +kernel
theorem dX3_follow_17 : decode cX3_follow 17 = .ok (.iconst 1, 1) := by decide +kernel
theorem dX3_follow_18 : decode cX3_follow 18 = .ok (.bastore, 1) := by decide +kernel
theorem dX3_follow_19 : decode cX3_follow 19 = .ok (.iinc 3 1, 3) := by decide +kernel
theorem dX3_follow_22 : decode cX3_follow 22 = .ok (.goto (-18), 3) := by decide +kernel
theorem dX3_follow_25 : decode cX3_follow 25 = .ok (.iconst 0, 1) := by decide +kernel
theorem dX3_follow_26 : decode cX3_follow 26 = .ok (.istore_n 3, 1) := by decide +kernel
theorem dX3_follow_27 : decode cX3_follow 27 = .ok (.iload_n 3, 1) := by decide +kernel
theorem dX3_follow_28 : decode cX3_follow 28 = .ok (.aload_n 0, 1) := by decide +kernel
theorem dX3_follow_29 : decode cX3_follow 29 = .ok (.getfield 58, 3) := by decide +kernel
theorem dX3_follow_32 : decode cX3_follow 32 = .ok (.if_icmp .ge 204, 3) := by decide +kernel
theorem dX3_follow_35 : decode cX3_follow 35 = .ok (.iconst 0, 1) := by decide +kernel
theorem dX3_follow_36 : decode cX3_follow 36 = .ok (.istore 4, 2) := by decide +kernel
theorem dX3_follow_38 : decode cX3_follow 38 = .ok (.aload_n 0, 1) := by decide +kernel
theorem dX3_follow_39 : decode cX3_follow 39 = .ok (.getfield 55, 3) := by decide +kernel
theorem dX3_follow_42 : decode cX3_follow 42 = .ok (.iload_n 3, 1) := by decide +kernel
theorem dX3_follow_43 : decode cX3_follow 43 = .ok (.imul, 1) := by decide +kernel
theorem dX3_follow_44 : decode cX3_follow 44 = .ok (.istore 5, 2) := by decide +kernel
theorem dX3_follow_46 : decode cX3_follow 46 = .ok (.iload 5, 2) := by decide +kernel
theorem dX3_follow_48 : decode cX3_follow 48 = .ok (.aload_n 0, 1) := by decide +kernel
theorem dX3_follow_49 : decode cX3_follow 49 = .ok (.getfield 55, 3) := by decide +kernel
theorem dX3_follow_52 : decode cX3_follow 52 = .ok (.iload_n 3, 1) := by decide +kernel
theorem dX3_follow_53 : decode cX3_follow 53 = .ok (.iconst 1, 1) := by decide +kernel
theorem dX3_follow_54 : decode cX3_follow 54 = .ok (.iadd, 1) := by decide +kernel
theorem dX3_follow_55 : decode cX3_follow 55 = .ok (.imul, 1) := by decide +kernel
theorem dX3_follow_56 : decode cX3_follow 56 = .ok (.if_icmp .ge 46, 3) := by decide +kernel
theorem dX3_follow_59 : decode cX3_follow 59 = .ok (.aload_n 0, 1) := by decide +kernel
theorem dX3_follow_60 : decode cX3_follow 60 = .ok (.getfield 41, 3) := by decide +kernel
theorem dX3_follow_63 : decode cX3_follow 63 = .ok (.iload 5, 2) := by decide +kernel
theorem dX3_follow_65 : decode cX3_follow 65 = .ok (.aload_n 0, 1) := by decide +kernel
theorem dX3_follow_66 : decode cX3_follow 66 = .ok (.getfield 26, 3) := by decide +kernel
theorem dX3_follow_69 : decode cX3_follow 69 = .ok (.iload 5, 2) := by decide +kernel
theorem dX3_follow_71 : decode cX3_follow 71 = .ok (.iaload, 1) := by decide +kernel
theorem dX3_follow_72 : decode cX3_follow 72 = .ok (.iastore, 1) := by decide +kernel
theorem dX3_follow_73 : decode cX3_follow 73 = .ok (.aload_n 0, 1) := by decide +kernel
theorem dX3_follow_74 : decode cX3_follow 74 = .ok (.getfield 26, 3) := by decide +kernel
theorem dX3_follow_77 : decode cX3_follow 77 = .ok (.iload 5, 2) := by decide +kernel
theorem dX3_follow_79 : decode cX3_follow 79 = .ok (.iaload, 1) := by decide +kernel
theorem dX3_follow_80 : decode cX3_follow 80 = .ok (.iconst (-1), 1) := by decide +kernel
theorem dX3_follow_81 : decode cX3_follow 81 = .ok (.if_icmp .ne 15, 3) := by decide +kernel
theorem dX3_follow_84 : decode cX3_follow 84 = .ok (.aload_n 0, 1) := by decide +kernel
theorem dX3_follow_85 : decode cX3_follow 85 = .ok (.getfield 44, 3) := by decide +kernel
theorem dX3_follow_88 : decode cX3_follow 88 = .ok (.iload 4, 2) := by decide +kernel
theorem dX3_follow_90 : decode cX3_follow 90 = .ok (.iload 5, 2) := by decide +kernel
theorem dX3_follow_92 : decode cX3_follow 92 = .ok (.iastore, 1) := by decide +kernel
theorem dX3_follow_93 : decode cX3_follow 93 = .ok (.iinc 4 1, 3) := by decide +kernel
theorem dX3_follow_96 : decode cX3_follow 96 = .ok (.iinc 5 1, 3) := by decide +kernel
theorem dX3_follow_99 : decode cX3_follow 99 = .ok (.goto (-53), 3) := by decide +kernel
theorem dX3_follow_102 : decode cX3_follow 102 = .ok (.aload_n 0, 1) := by decide +kernel
theorem dX3_follow_103 : decode cX3_follow 103 = .ok (.iload_n 2, 1) := by decide +kernel
theorem dX3_follow_104 : decode cX3_follow 104 = .ok (.iload 4, 2) := by decide +kernel
theorem dX3_follow_106 : decode cX3_follow 106 = .ok (.invokestatic 80, 3) := by decide +kernel
theorem dX3_follow_109 : decode cX3_follow 109 = .ok (.irem, 1) := by decide +kernel
theorem dX3_follow_110 : decode cX3_follow 110 = .ok (.iload 4, 2) := by decide +kernel
theorem dX3_follow_112 : decode cX3_follow 112 = .ok (.iconst 0, 1) := by decide +kernel
theorem dX3_follow_113 : decode cX3_follow 113 = .ok (.invokevirtual 87, 3) := by decide +kernel
theorem dX3_follow_116 : decode cX3_follow 116 = .ok (.iload_n 2, 1) := by decide +kernel
theorem dX3_follow_117 : decode cX3_follow 117 = .ok (.iload 4, 2) := by decide +kernel
theorem dX3_follow_119 : decode cX3_follow 119 = .ok (.invokestatic 80, 3) := by decide +kernel
theorem dX3_follow_122 : decode cX3_follow 122 = .ok (.idiv, 1) := by decide +kernel
theorem dX3_follow_123 : decode cX3_follow 123 = .ok (.istore_n 2, 1) := by decide +kernel
theorem dX3_follow_124 : decode cX3_follow 124 = .ok (.iconst 0, 1) := by decide +kernel
theorem dX3_follow_125 : decode cX3_follow 125 = .ok (.istore 5, 2) := by decide +kernel
theorem dX3_follow_127 : decode cX3_follow 127 = .ok (.iload 5, 2) := by decide +kernel
theorem dX3_follow_129 : decode cX3_follow 129 = .ok (.iload 4, 2) := by decide +kernel
theorem dX3_follow_131 : decode cX3_follow 131 = .ok (.if_icmp .ge 99, 3) := by decide +kernel
theorem dX3_follow_134 : decode cX3_follow 134 = .ok (.aload_n 0, 1) := by decide +kernel
theorem dX3_follow_135 : decode cX3_follow 135 = .ok (.getfield 44, 3) := by decide +kernel
theorem dX3_follow_138 : decode cX3_follow 138 = .ok (.aload_n 0, 1) := by decide +kernel
theorem dX3_follow_139 : decode cX3_follow 139 = .ok (.getfield 32, 3) := by decide +kernel
theorem dX3_follow_142 : decode cX3_follow 142 = .ok (.iload 5, 2) := by decide +kernel
theorem dX3_follow_144 : decode cX3_follow 144 = .ok (.iaload, 1) := by decide +kernel
theorem dX3_follow_145 : decode cX3_follow 145 = .ok (.iaload, 1) := by decide +kernel
theorem dX3_follow_146 : decode cX3_follow 146 = .ok (.istore 6, 2) := by decide +kernel
theorem dX3_follow_148 : decode cX3_follow 148 = .ok (.aload_n 0, 1) := by decide +kernel
theorem dX3_follow_149 : decode cX3_follow 149 = .ok (.getfield 41, 3) := by decide +kernel
theorem dX3_follow_152 : decode cX3_follow 152 = .ok (.iload 6, 2) := by decide +kernel
theorem dX3_follow_154 : decode cX3_follow 154 = .ok (.aload_n 0, 1) := by decide +kernel
theorem dX3_follow_155 : decode cX3_follow 155 = .ok (.iload 6, 2) := by decide +kernel
theorem dX3_follow_157 : decode cX3_follow 157 = .ok (.invokevirtual 126, 3) := by decide +kernel
theorem dX3_follow_160 : decode cX3_follow 160 = .ok (.iastore, 1) := by decide +kernel
theorem dX3_follow_161 : decode cX3_follow 161 = .ok (.iconst 0, 1) := by decide +kernel
theorem dX3_follow_162 : decode cX3_follow 162 = .ok (.istore 7, 2) := by decide +kernel
theorem dX3_follow_164 : decode cX3_follow 164 = .ok (.iload 7, 2) := by decide +kernel
theorem dX3_follow_166 : decode cX3_follow 166 = .ok (.aload_n 0, 1) := by decide +kernel
theorem dX3_follow_167 : decode cX3_follow 167 = .ok (.getfield 84, 3) := by decide +kernel
theorem dX3_follow_170 : decode cX3_follow 170 = .ok (.if_icmp .ge 54, 3) := by decide +kernel
theorem dX3_follow_173 : decode cX3_follow 173 = .ok (.aload_n 0, 1) := by decide +kernel
theorem dX3_follow_174 : decode cX3_follow 174 = .ok (.getfield 38, 3) := by decide +kernel
theorem dX3_follow_177 : decode cX3_follow 177 = .ok (.iload 7, 2) := by decide +kernel
theorem dX3_follow_179 : decode cX3_follow 179 = .ok (.aload_n 0, 1) := by decide +kernel
theorem dX3_follow_180 : decode cX3_follow 180 = .ok (.getfield 38, 3) := by decide +kernel
theorem dX3_follow_183 : decode cX3_follow 183 = .ok (.iload 7, 2) := by decide +kernel
theorem dX3_follow_185 : decode cX3_follow 185 = .ok (.baload, 1) := by decide +kernel
theorem dX3_follow_186 : decode cX3_follow 186 = .ok (.ifCond .eq 30, 3) := by decide +kernel
theorem dX3_follow_189 : decode cX3_follow 189 = .ok (.aload_n 0, 1) := by decide +kernel
theorem dX3_follow_190 : decode cX3_follow 190 = .ok (.getfield 29, 3) := by decide +kernel
theorem dX3_follow_193 : decode cX3_follow 193 = .ok (.bipush 9, 2) := by decide +kernel
theorem dX3_follow_195 : decode cX3_follow 195 = .ok (.iload 7, 2) := by decide +kernel
theorem dX3_follow_197 : decode cX3_follow 197 = .ok (.imul, 1) := by decide +kernel
theorem dX3_follow_198 : decode cX3_follow 198 = .ok (.iload 6, 2) := by decide +kernel
theorem dX3_follow_200 : decode cX3_follow 200 = .ok (.iadd, 1) := by decide +kernel
theorem dX3_follow_201 : decode cX3_follow 201 = .ok (.iaload, 1) := by decide +kernel
theorem dX3_follow_202 : decode cX3_follow 202 = .ok (.aload_n 0, 1) := by decide +kernel
theorem dX3_follow_203 : decode cX3_follow 203 = .ok (.getfield 41, 3) := by decide +kernel
theorem dX3_follow_206 : decode cX3_follow 206 = .ok (.iload 6, 2) := by decide +kernel
theorem dX3_follow_208 : decode cX3_follow 208 = .ok (.iaload, 1) := by decide +kernel
theorem dX3_follow_209 : decode cX3_follow 209 = .ok (.if_icmp .ne 7, 3) := by decide +kernel
theorem dX3_follow_212 : decode cX3_follow 212 = .ok (.iconst 1, 1) := by decide +kernel
theorem dX3_follow_213 : decode cX3_follow 213 = .ok (.goto 4, 3) := by decide +kernel
theorem dX3_follow_216 : decode cX3_follow 216 = .ok (.iconst 0, 1) := by decide +kernel
theorem dX3_follow_217 : decode cX3_follow 217 = .ok (.bastore, 1) := by decide +kernel
theorem dX3_follow_218 : decode cX3_follow 218 = .ok (.iinc 7 1, 3) := by decide +kernel
theorem dX3_follow_221 : decode cX3_follow 221 = .ok (.goto (-57), 3) := by decide +kernel
theorem dX3_follow_224 : decode cX3_follow 224 = .ok (.iinc 5 1, 3) := by decide +kernel
theorem dX3_follow_227 : decode cX3_follow 227 = .ok (.goto (-100), 3) := by decide +kernel
theorem dX3_follow_230 : decode cX3_follow 230 = .ok (.iinc 3 1, 3) := by decide +kernel
theorem dX3_follow_233 : decode cX3_follow 233 = .ok (.goto (-206), 3) := by decide +kernel
theorem dX3_follow_236 : decode cX3_follow 236 = .ok (.return_, 1) := by decide +kernel
set_option maxRecDepth 20000 in
theorem ggX3_chances_X3_isPlace : GoodIn wsX3_chances wsX3_isPlace := goodIn_r _ [7, 8, 9, 10, 11, 6, 12, 13, 14, 15, 16, 17, 18, 19, 20, 21, 22, 23, 24, 25, 63, 64, 65, 66, 67, 68, 69, 70, 71, 72, 73, 74, 75, 76, 77, 78, 79] (by decide +kernel) (by decide +kernel)
set_option maxRecDepth 20000 in
theorem gX3_chances_X3_isPlace : GoodIn wsX3_chances (wsV RX3 120 RX3 yX3_isPlace wsX3_isPlace) := goodIn_app (goodIn_of _ (by decide +kernel)) ggX3_chances_X3_isPlace
set_option maxRecDepth 20000 in
theorem ggX3_chances_X3_layResults : GoodIn wsX3_chances wsX3_layResults := goodIn_r _ [29, 17, 18, 1, 30, 31, 32, 33, 6, 34, 35, 36, 37, 38, 39, 40, 41, 42, 43, 44, 45, 46, 47, 48, 13, 14, 15, 16, 63, 64, 65, 66, 67, 68, 69, 70, 71, 72, 73, 74, 75, 76, 77, 78, 79] (by decide +kernel) (by decide +kernel)
set_option maxRecDepth 20000 in
theorem gX3_chances_X3_layResults : GoodIn wsX3_chances (wsV RX3 99 RX3 yX3_layResults wsX3_layResults) := goodIn_app (goodIn_of _ (by decide +kernel)) ggX3_chances_X3_layResults
set_option maxRecDepth 20000 in
theorem ggX3_chances_X3_orderMany : GoodIn wsX3_chances wsX3_orderMany := goodIn_r _ [52, 18, 17, 48, 32, 33, 6, 34, 63, 64, 65, 66, 67, 68, 69, 70, 71, 72, 73, 74, 75, 76, 77, 78, 79] (by decide +kernel) (by decide +kernel)
set_option maxRecDepth 20000 in
theorem gX3_chances_X3_orderMany : GoodIn wsX3_chances (wsV RX3 123 RX3 yX3_orderMany wsX3_orderMany) := goodIn_app (goodIn_of _ (by decide +kernel)) ggX3_chances_X3_orderMany
set_option maxRecDepth 20000 in
theorem ggX3_chances_X3_follow : GoodIn wsX3_chances wsX3_follow := goodIn_r _ [56, 1, 57, 18, 17, 2, 48, 58, 31, 30, 32, 33, 6, 34, 35, 36, 37, 38, 39, 59, 60, 61, 62, 63, 64, 65, 66, 67, 68, 69, 70, 71, 72, 73, 74, 75, 76, 77, 78, 79] (by decide +kernel) (by decide +kernel)
set_option maxRecDepth 20000 in
theorem gX3_chances_X3_follow : GoodIn wsX3_chances (wsV RX3 129 RX3 yX3_follow wsX3_follow) := goodIn_app (goodIn_of _ (by decide +kernel)) ggX3_chances_X3_follow
theorem dX3_chances_0 : decode cX3_chances 0 = .ok (.aload_n 0, 1) := by decide +kernel
theorem dX3_chances_1 : decode cX3_chances 1 = .ok (.iload_n 1, 1) := by decide +kernel
theorem dX3_chances_2 : decode cX3_chances 2 = .ok (.iload_n 2, 1) := by decide +kernel
theorem dX3_chances_3 : decode cX3_chances 3 = .ok (.invokevirtual 120, 3) := by decide +kernel
theorem dX3_chances_6 : decode cX3_chances 6 = .ok (.ifCond .ne 5, 3) := by decide +kernel
theorem dX3_chances_9 : decode cX3_chances 9 = .ok (.iconst 0, 1) := by decide +kernel
theorem dX3_chances_10 : decode cX3_chances 10 = .ok (.ireturn, 1) := by decide +kernel
theorem dX3_chances_11 : decode cX3_chances 11 = .ok (.aload_n 0, 1) := by decide +kernel
theorem dX3_chances_12 : decode cX3_chances 12 = .ok (.invokevirtual 99, 3) := by decide +kernel
theorem dX3_chances_15 : decode cX3_chances 15 = .ok (.aload_n 0, 1) := by decide +kernel
theorem dX3_chances_16 : decode cX3_chances 16 = .ok (.getfield 84, 3) := by decide +kernel
theorem dX3_chances_19 : decode cX3_chances 19 = .ok (.ifCond .ne 7, 3) := by decide +kernel
theorem dX3_chances_22 : decode cX3_chances 22 = .ok (.iconst 0, 1) := by decide +kernel
theorem dX3_chances_23 : decode cX3_chances 23 = .ok (.goto 7, 3) := by decide +kernel
theorem dX3_chances_26 : decode cX3_chances 26 = .ok (.aload_n 0, 1) := by decide +kernel
theorem dX3_chances_27 : decode cX3_chances 27 = .ok (.invokevirtual 123, 3) := by decide +kernel
theorem dX3_chances_30 : decode cX3_chances 30 = .ok (.istore_n 3, 1) := by decide +kernel
theorem dX3_chances_31 : decode cX3_chances 31 = .ok (.iconst 0, 1) := by decide +kernel
theorem dX3_chances_32 : decode cX3_chances 32 = .ok (.istore 4, 2) := by decide +kernel
theorem dX3_chances_34 : decode cX3_chances 34 = .ok (.iconst 0, 1) := by decide +kernel
theorem dX3_chances_35 : decode cX3_chances 35 = .ok (.istore 5, 2) := by decide +kernel
theorem dX3_chances_37 : decode cX3_chances 37 = .ok (.iload 5, 2) := by decide +kernel
theorem dX3_chances_39 : decode cX3_chances 39 = .ok (.iload_n 3, 1) := by decide +kernel
theorem dX3_chances_40 : decode cX3_chances 40 = .ok (.if_icmp .ge 35, 3) := by decide +kernel
theorem dX3_chances_43 : decode cX3_chances 43 = .ok (.aload_n 0, 1) := by decide +kernel
theorem dX3_chances_44 : decode cX3_chances 44 = .ok (.iload 5, 2) := by decide +kernel
theorem dX3_chances_46 : decode cX3_chances 46 = .ok (.invokevirtual 129, 3) := by decide +kernel
theorem dX3_chances_49 : decode cX3_chances 49 = .ok (.iload 4, 2) := by decide +kernel
theorem dX3_chances_51 : decode cX3_chances 51 = .ok (.aload_n 0, 1) := by decide +kernel
theorem dX3_chances_52 : decode cX3_chances 52 = .ok (.getfield 41, 3) := by decide +kernel
theorem dX3_chances_55 : decode cX3_chances 55 = .ok (.iload_n 1, 1) := by decide +kernel
theorem dX3_chances_56 : decode cX3_chances 56 = .ok (.iaload, 1) := by decide +kernel
theorem dX3_chances_57 : decode cX3_chances 57 = .ok (.iload_n 2, 1) := by decide +kernel
theorem dX3_chances_58 : decode cX3_chances 58 = .ok (.if_icmp .ne 7, 3) := by decide +kernel
theorem dX3_chances_61 : decode cX3_chances 61 = .ok (.iconst 1, 1) := by decide +kernel
theorem dX3_chances_62 : decode cX3_chances 62 = .ok (.goto 4, 3) := by decide +kernel
theorem dX3_chances_65 : decode cX3_chances 65 = .ok (.iconst 0, 1) := by decide +kernel
theorem dX3_chances_66 : decode cX3_chances 66 = .ok (.iadd, 1) := by decide +kernel
theorem dX3_chances_67 : decode cX3_chances 67 = .ok (.istore 4, 2) := by decide +kernel
theorem dX3_chances_69 : decode cX3_chances 69 = .ok (.iinc 5 1, 3) := by decide +kernel
theorem dX3_chances_72 : decode cX3_chances 72 = .ok (.goto (-35), 3) := by decide +kernel
theorem dX3_chances_75 : decode cX3_chances 75 = .ok (.iload 4, 2) := by decide +kernel
theorem dX3_chances_77 : decode cX3_chances 77 = .ok (.ireturn, 1) := by decide +kernel
set_option maxRecDepth 20000 in
theorem ggX3_pairings_X3_isTeam : GoodIn wsX3_pairings wsX3_isTeam := goodIn_r _ [8, 9, 10, 11, 7, 12, 13, 14, 15, 16, 17, 55, 56, 57, 58, 59, 60, 61, 62, 63, 64, 65, 66, 67, 68, 69, 70, 71] (by decide +kernel) (by decide +kernel)
set_option maxRecDepth 20000 in
theorem gX3_pairings_X3_isTeam : GoodIn wsX3_pairings (wsV RX3 72 RX3 yX3_isTeam wsX3_isTeam) := goodIn_app (goodIn_of _ (by decide +kernel)) ggX3_pairings_X3_isTeam
set_option maxRecDepth 20000 in
theorem ggX3_pairings_X3_layResults : GoodIn wsX3_pairings wsX3_layResults := goodIn_r _ [21, 13, 14, 2, 22, 23, 24, 25, 7, 26, 27, 28, 29, 30, 31, 32, 33, 34, 35, 36, 37, 38, 39, 40, 9, 10, 11, 12, 55, 56, 57, 58, 59, 60, 61, 62, 63, 64, 65, 66, 67, 68, 69, 70, 71] (by decide +kernel) (by decide +kernel)
set_option maxRecDepth 20000 in
theorem gX3_pairings_X3_layResults : GoodIn wsX3_pairings (wsV RX3 99 RX3 yX3_layResults wsX3_layResults) := goodIn_app (goodIn_of _ (by decide +kernel)) ggX3_pairings_X3_layResults
set_option maxRecDepth 20000 in
theorem ggX3_pairings_X3_orderMany : GoodIn wsX3_pairings wsX3_orderMany := goodIn_r _ [44, 14, 13, 40, 24, 25, 7, 26, 55, 56, 57, 58, 59, 60, 61, 62, 63, 64, 65, 66, 67, 68, 69, 70, 71] (by decide +kernel) (by decide +kernel)
set_option maxRecDepth 20000 in
theorem gX3_pairings_X3_orderMany : GoodIn wsX3_pairings (wsV RX3 123 RX3 yX3_orderMany wsX3_orderMany) := goodIn_app (goodIn_of _ (by decide +kernel)) ggX3_pairings_X3_orderMany
set_option maxRecDepth 20000 in
theorem ggX3_pairings_X3_follow : GoodIn wsX3_pairings wsX3_follow := goodIn_r _ [48, 2, 49, 14, 13, 3, 40, 50, 23, 22, 24, 25, 7, 26, 27, 28, 29, 30, 31, 51, 52, 53, 54, 55, 56, 57, 58, 59, 60, 61, 62, 63, 64, 65, 66, 67, 68, 69, 70, 71] (by decide +kernel) (by decide +kernel)
set_option maxRecDepth 20000 in
theorem gX3_pairings_X3_follow : GoodIn wsX3_pairings (wsV RX3 129 RX3 yX3_follow wsX3_follow) := goodIn_app (goodIn_of _ (by decide +kernel)) ggX3_pairings_X3_follow
theorem dX3_pairings_0 : decode cX3_pairings 0 = .ok (.aload_n 0, 1) := by decide +kernel
theorem dX3_pairings_1 : decode cX3_pairings 1 = .ok (.aload_n 0, 1) := by decide +kernel
theorem dX3_pairings_2 : decode cX3_pairings 2 = .ok (.iload_n 1, 1) := by decide +kernel
theorem dX3_pairings_3 : decode cX3_pairings 3 = .ok (.invokevirtual 72, 3) := by decide +kernel
theorem dX3_pairings_6 : decode cX3_pairings 6 = .ok (.ifCond .eq 15, 3) := by decide +kernel
theorem dX3_pairings_9 : decode cX3_pairings 9 = .ok (.aload_n 0, 1) := by decide +kernel
theorem dX3_pairings_10 : decode cX3_pairings 10 = .ok (.iload_n 2, 1) := by decide +kernel
theorem dX3_pairings_11 : decode cX3_pairings 11 = .ok (.invokevirtual 72, 3) := by decide +kernel
theorem dX3_pairings_14 : decode cX3_pairings 14 = .ok (.ifCond .eq 7, 3) := by decide +kernel
theorem dX3_pairings_17 : decode cX3_pairings 17 = .ok (.iconst 0, 1) := by decide +kernel
theorem dX3_pairings_18 : decode cX3_pairings 18 = .ok (.goto 4, 3) := by decide +kernel
theorem dX3_pairings_21 : decode cX3_pairings 21 = .ok (.iconst 1, 1) := by decide +kernel
theorem dX3_pairings_22 : decode cX3_pairings 22 = .ok (.putfield 51, 3) := by decide +kernel
theorem dX3_pairings_25 : decode cX3_pairings 25 = .ok (.aload_n 0, 1) := by decide +kernel
theorem dX3_pairings_26 : decode cX3_pairings 26 = .ok (.getfield 51, 3) := by decide +kernel
theorem dX3_pairings_29 : decode cX3_pairings 29 = .ok (.ifCond .le 5, 3) := by decide +kernel
theorem dX3_pairings_32 : decode cX3_pairings 32 = .ok (.iconst 0, 1) := by decide +kernel
theorem dX3_pairings_33 : decode cX3_pairings 33 = .ok (.ireturn, 1) := by decide +kernel
theorem dX3_pairings_34 : decode cX3_pairings 34 = .ok (.aload_n 0, 1) := by decide +kernel
theorem dX3_pairings_35 : decode cX3_pairings 35 = .ok (.invokevirtual 99, 3) := by decide +kernel
theorem dX3_pairings_38 : decode cX3_pairings 38 = .ok (.aload_n 0, 1) := by decide +kernel
theorem dX3_pairings_39 : decode cX3_pairings 39 = .ok (.getfield 84, 3) := by decide +kernel
theorem dX3_pairings_42 : decode cX3_pairings 42 = .ok (.ifCond .ne 7, 3) := by decide +kernel
theorem dX3_pairings_45 : decode cX3_pairings 45 = .ok (.iconst 0, 1) := by decide +kernel
theorem dX3_pairings_46 : decode cX3_pairings 46 = .ok (.goto 7, 3) := by decide +kernel
theorem dX3_pairings_49 : decode cX3_pairings 49 = .ok (.aload_n 0, 1) := by decide +kernel
theorem dX3_pairings_50 : decode cX3_pairings 50 = .ok (.invokevirtual 123, 3) := by decide +kernel
theorem dX3_pairings_53 : decode cX3_pairings 53 = .ok (.istore_n 3, 1) := by decide +kernel
theorem dX3_pairings_54 : decode cX3_pairings 54 = .ok (.iconst 0, 1) := by decide +kernel
theorem dX3_pairings_55 : decode cX3_pairings 55 = .ok (.istore 4, 2) := by decide +kernel
theorem dX3_pairings_57 : decode cX3_pairings 57 = .ok (.iconst 0, 1) := by decide +kernel
theorem dX3_pairings_58 : decode cX3_pairings 58 = .ok (.istore 5, 2) := by decide +kernel
theorem dX3_pairings_60 : decode cX3_pairings 60 = .ok (.iload 5, 2) := by decide +kernel
theorem dX3_pairings_62 : decode cX3_pairings 62 = .ok (.iload_n 3, 1) := by decide +kernel
theorem dX3_pairings_63 : decode cX3_pairings 63 = .ok (.if_icmp .ge 40, 3) := by decide +kernel
theorem dX3_pairings_66 : decode cX3_pairings 66 = .ok (.aload_n 0, 1) := by decide +kernel
theorem dX3_pairings_67 : decode cX3_pairings 67 = .ok (.iload 5, 2) := by decide +kernel
theorem dX3_pairings_69 : decode cX3_pairings 69 = .ok (.invokevirtual 129, 3) := by decide +kernel
theorem dX3_pairings_72 : decode cX3_pairings 72 = .ok (.iload 4, 2) := by decide +kernel
theorem dX3_pairings_74 : decode cX3_pairings 74 = .ok (.aload_n 0, 1) := by decide +kernel
theorem dX3_pairings_75 : decode cX3_pairings 75 = .ok (.getfield 41, 3) := by decide +kernel
theorem dX3_pairings_78 : decode cX3_pairings 78 = .ok (.iload_n 1, 1) := by decide +kernel
theorem dX3_pairings_79 : decode cX3_pairings 79 = .ok (.iaload, 1) := by decide +kernel
theorem dX3_pairings_80 : decode cX3_pairings 80 = .ok (.aload_n 0, 1) := by decide +kernel
theorem dX3_pairings_81 : decode cX3_pairings 81 = .ok (.getfield 41, 3) := by decide +kernel
theorem dX3_pairings_84 : decode cX3_pairings 84 = .ok (.iload_n 2, 1) := by decide +kernel
theorem dX3_pairings_85 : decode cX3_pairings 85 = .ok (.iaload, 1) := by decide +kernel
theorem dX3_pairings_86 : decode cX3_pairings 86 = .ok (.if_icmp .ne 7, 3) := by decide +kernel
theorem dX3_pairings_89 : decode cX3_pairings 89 = .ok (.iconst 1, 1) := by decide +kernel
theorem dX3_pairings_90 : decode cX3_pairings 90 = .ok (.goto 4, 3) := by decide +kernel
theorem dX3_pairings_93 : decode cX3_pairings 93 = .ok (.iconst 0, 1) := by decide +kernel
theorem dX3_pairings_94 : decode cX3_pairings 94 = .ok (.iadd, 1) := by decide +kernel
theorem dX3_pairings_95 : decode cX3_pairings 95 = .ok (.istore 4, 2) := by decide +kernel
theorem dX3_pairings_97 : decode cX3_pairings 97 = .ok (.iinc 5 1, 3) := by decide +kernel
theorem dX3_pairings_100 : decode cX3_pairings 100 = .ok (.goto (-40), 3) := by decide +kernel
theorem dX3_pairings_103 : decode cX3_pairings 103 = .ok (.iload 4, 2) := by decide +kernel
theorem dX3_pairings_105 : decode cX3_pairings 105 = .ok (.ireturn, 1) := by decide +kernel
set_option maxRecDepth 20000 in
theorem ggL_lay_X2_lay : GoodIn wsL_lay wsX2_lay := goodIn_ca (goodIn_r _ [6, 7, 8, 9, 10, 11, 12, 5, 13, 14, 15, 16, 17, 18, 19, 20, 21, 22, 23, 24, 25, 26, 27, 28, 29, 30, 31, 32, 33, 34, 35, 36, 37, 38, 39, 40, 41, 42, 43, 44, 45, 46, 47, 48, 49, 50, 51, 52, 53, 54, 55, 56] (by decide +kernel) (by decide +kernel)) (goodIn_sub (fun _ h => List.mem_cons_of_mem _ (List.mem_append_right _ h)) (by decide +kernel))
set_option maxRecDepth 20000 in
theorem gL_lay_X2_lay : GoodIn wsL_lay (wsV RL 7 RX2 yX2_lay wsX2_lay) := goodIn_app (goodIn_of _ (by decide +kernel)) ggL_lay_X2_lay
