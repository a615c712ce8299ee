theorem dL_at_0 : decode cL_at 0 = .ok (.iconst 0, 1) := by decide +kernel
theorem dL_at_1 : decode cL_at 1 = .ok (.istore_n 3, 1) := by decide +kernel
theorem dL_at_2 : decode cL_at 2 = .ok (.iload_n 1, 1) := by decide +kernel
theorem dL_at_3 : decode cL_at 3 = .ok (.istore 4, 2) := by decide +kernel
theorem dL_at_5 : decode cL_at 5 = .ok (.iconst 0, 1) := by decide +kernel
theorem dL_at_6 : decode cL_at 6 = .ok (.istore 5, 2) := by decide +kernel
theorem dL_at_8 : decode cL_at 8 = .ok (.iload_n 0, 1) := by decide +kernel
theorem dL_at_9 : decode cL_at 9 = .ok (.iconst 4, 1) := by decide +kernel
theorem dL_at_10 : decode cL_at 10 = .ok (.if_icmp .ne 8, 3) := by decide +kernel
theorem dL_at_13 : decode cL_at 13 = .ok (.bipush 24, 2) := by decide +kernel
theorem dL_at_15 : decode cL_at 15 = .ok (.goto 14, 3) := by decide +kernel
theorem dL_at_18 : decode cL_at 18 = .ok (.iload_n 0, 1) := by decide +kernel
theorem dL_at_19 : decode cL_at 19 = .ok (.iconst 3, 1) := by decide +kernel
theorem dL_at_20 : decode cL_at 20 = .ok (.if_icmp .ne 8, 3) := by decide +kernel
theorem dL_at_23 : decode cL_at 23 = .ok (.bipush 6, 2) := by decide +kernel
theorem dL_at_25 : decode cL_at 25 = .ok (.goto 4, 3) := by decide +kernel
theorem dL_at_28 : decode cL_at 28 = .ok (.iconst 2, 1) := by decide +kernel
theorem dL_at_29 : decode cL_at 29 = .ok (.istore 6, 2) := by decide +kernel
theorem dL_at_31 : decode cL_at 31 = .ok (.iconst 0, 1) := by decide +kernel
theorem dL_at_32 : decode cL_at 32 = .ok (.istore 7, 2) := by decide +kernel
theorem dL_at_34 : decode cL_at 34 = .ok (.iload 7, 2) := by decide +kernel
theorem dL_at_36 : decode cL_at 36 = .ok (.iload_n 2, 1) := by decide +kernel
theorem dL_at_37 : decode cL_at 37 = .ok (.if_icmp .gt 83, 3) := by decide +kernel
theorem dL_at_40 : decode cL_at 40 = .ok (.iload 6, 2) := by decide +kernel
theorem dL_at_42 : decode cL_at 42 = .ok (.iload_n 0, 1) := by decide +kernel
theorem dL_at_43 : decode cL_at 43 = .ok (.iload 7, 2) := by decide +kernel
theorem dL_at_45 : decode cL_at 45 = .ok (.isub, 1) := by decide +kernel
theorem dL_at_46 : decode cL_at 46 = .ok (.idiv, 1) := by decide +kernel
theorem dL_at_47 : decode cL_at 47 = .ok (.istore 6, 2) := by decide +kernel
theorem dL_at_49 : decode cL_at 49 = .ok (.iload 4, 2) := by decide +kernel
theorem dL_at_51 : decode cL_at 51 = .ok (.iload 6, 2) := by decide +kernel
theorem dL_at_53 : decode cL_at 53 = .ok (.idiv, 1) := by decide +kernel
theorem dL_at_54 : decode cL_at 54 = .ok (.istore 8, 2) := by decide +kernel
theorem dL_at_56 : decode cL_at 56 = .ok (.iload 4, 2) := by decide +kernel
theorem dL_at_58 : decode cL_at 58 = .ok (.iload 6, 2) := by decide +kernel
theorem dL_at_60 : decode cL_at 60 = .ok (.irem, 1) := by decide +kernel
theorem dL_at_61 : decode cL_at 61 = .ok (.istore 4, 2) := by decide +kernel
theorem dL_at_63 : decode cL_at 63 = .ok (.iconst 0, 1) := by decide +kernel
theorem dL_at_64 : decode cL_at 64 = .ok (.istore 5, 2) := by decide +kernel
theorem dL_at_66 : decode cL_at 66 = .ok (.iload_n 3, 1) := by decide +kernel
theorem dL_at_67 : decode cL_at 67 = .ok (.iload 5, 2) := by decide +kernel
theorem dL_at_69 : decode cL_at 69 = .ok (.ishr, 1) := by decide +kernel
theorem dL_at_70 : decode cL_at 70 = .ok (.iconst 1, 1) := by decide +kernel
theorem dL_at_71 : decode cL_at 71 = .ok (.iand, 1) := by decide +kernel
theorem dL_at_72 : decode cL_at 72 = .ok (.iconst 1, 1) := by decide +kernel
theorem dL_at_73 : decode cL_at 73 = .ok (.if_icmp .eq 8, 3) := by decide +kernel
theorem dL_at_76 : decode cL_at 76 = .ok (.iload 8, 2) := by decide +kernel
theorem dL_at_78 : decode cL_at 78 = .ok (.ifCond .le 29, 3) := by decide +kernel
theorem dL_at_81 : decode cL_at 81 = .ok (.iload 8, 2) := by decide +kernel
theorem dL_at_83 : decode cL_at 83 = .ok (.iload_n 3, 1) := by decide +kernel
theorem dL_at_84 : decode cL_at 84 = .ok (.iload 5, 2) := by decide +kernel
theorem dL_at_86 : decode cL_at 86 = .ok (.ishr, 1) := by decide +kernel
theorem dL_at_87 : decode cL_at 87 = .ok (.iconst 1, 1) := by decide +kernel
theorem dL_at_88 : decode cL_at 88 = .ok (.iand, 1) := by decide +kernel
theorem dL_at_89 : decode cL_at 89 = .ok (.iconst 1, 1) := by decide +kernel
theorem dL_at_90 : decode cL_at 90 = .ok (.if_icmp .ne 7, 3) := by decide +kernel
theorem dL_at_93 : decode cL_at 93 = .ok (.iconst 0, 1) := by decide +kernel
theorem dL_at_94 : decode cL_at 94 = .ok (.goto 4, 3) := by decide +kernel
theorem dL_at_97 : decode cL_at 97 = .ok (.iconst 1, 1) := by decide +kernel
theorem dL_at_98 : decode cL_at 98 = .ok (.isub, 1) := by decide +kernel
theorem dL_at_99 : decode cL_at 99 = .ok (.istore 8, 2) := by decide +kernel
theorem dL_at_101 : decode cL_at 101 = .ok (.iinc 5 1, 3) := by decide +kernel
theorem dL_at_104 : decode cL_at 104 = .ok (.goto (-38), 3) := by decide +kernel
theorem dL_at_107 : decode cL_at 107 = .ok (.iload_n 3, 1) := by decide +kernel
theorem dL_at_108 : decode cL_at 108 = .ok (.iconst 1, 1) := by decide +kernel
theorem dL_at_109 : decode cL_at 109 = .ok (.iload 5, 2) := by decide +kernel
theorem dL_at_111 : decode cL_at 111 = .ok (.ishl, 1) := by decide +kernel
theorem dL_at_112 : decode cL_at 112 = .ok (.ior, 1) := by decide +kernel
theorem dL_at_113 : decode cL_at 113 = .ok (.istore_n 3, 1) := by decide +kernel
theorem dL_at_114 : decode cL_at 114 = .ok (.iinc 7 1, 3) := by decide +kernel
theorem dL_at_117 : decode cL_at 117 = .ok (.goto (-83), 3) := by decide +kernel
theorem dL_at_120 : decode cL_at 120 = .ok (.iload 5, 2) := by decide +kernel
theorem dL_at_122 : decode cL_at 122 = .ok (.ireturn, 1) := by decide +kernel
theorem dL_isLawful_0 : decode cL_isLawful 0 = .ok (.aload_n 0, 1) := by decide +kernel
theorem dL_isLawful_1 : decode cL_isLawful 1 = .ok (.iconst 0, 1) := by decide +kernel
theorem dL_isLawful_2 : decode cL_isLawful 2 = .ok (.iaload, 1) := by decide +kernel
theorem dL_isLawful_3 : decode cL_isLawful 3 = .ok (.aload_n 0, 1) := by decide +kernel
theorem dL_isLawful_4 : decode cL_isLawful 4 = .ok (.iconst 1, 1) := by decide +kernel
theorem dL_isLawful_5 : decode cL_isLawful 5 = .ok (.iaload, 1) := by decide +kernel
theorem dL_isLawful_6 : decode cL_isLawful 6 = .ok (.imul, 1) := by decide +kernel
theorem dL_isLawful_7 : decode cL_isLawful 7 = .ok (.istore 4, 2) := by decide +kernel
theorem dL_isLawful_9 : decode cL_isLawful 9 = .ok (.iconst 0, 1) := by decide +kernel
theorem dL_isLawful_10 : decode cL_isLawful 10 = .ok (.istore 5, 2) := by decide +kernel
theorem dL_isLawful_12 : decode cL_isLawful 12 = .ok (.iload 5, 2) := by decide +kernel
theorem dL_isLawful_14 : decode cL_isLawful 14 = .ok (.iload 4, 2) := by decide +kernel
theorem dL_isLawful_16 : decode cL_isLawful 16 = .ok (.if_icmp .ge 132, 3) := by decide +kernel
theorem dL_isLawful_19 : decode cL_isLawful 19 = .ok (.iconst 0, 1) := by decide +kernel
theorem dL_isLawful_20 : decode cL_isLawful 20 = .ok (.istore 6, 2) := by decide +kernel
theorem dL_isLawful_22 : decode cL_isLawful 22 = .ok (.iconst 0, 1) := by decide +kernel
theorem dL_isLawful_23 : decode cL_isLawful 23 = .ok (.istore 7, 2) := by decide +kernel
theorem dL_isLawful_25 : decode cL_isLawful 25 = .ok (.iload 7, 2) := by decide +kernel
theorem dL_isLawful_27 : decode cL_isLawful 27 = .ok (.iload 4, 2) := by decide +kernel
theorem dL_isLawful_29 : decode cL_isLawful 29 = .ok (.if_icmp .ge 97, 3) := by decide +kernel
theorem dL_isLawful_32 : decode cL_isLawful 32 = .ok (.iload 6, 2) := by decide +kernel
theorem dL_isLawful_34 : decode cL_isLawful 34 = .ok (.aload_n 3, 1) := by decide +kernel
theorem dL_isLawful_35 : decode cL_isLawful 35 = .ok (.iload 5, 2) := by decide +kernel
theorem dL_isLawful_37 : decode cL_isLawful 37 = .ok (.iaload, 1) := by decide +kernel
theorem dL_isLawful_38 : decode cL_isLawful 38 = .ok (.aload_n 3, 1) := by decide +kernel
theorem dL_isLawful_39 : decode cL_isLawful 39 = .ok (.iload 7, 2) := by decide +kernel
theorem dL_isLawful_41 : decode cL_isLawful 41 = .ok (.iaload, 1) := by decide +kernel
theorem dL_isLawful_42 : decode cL_isLawful 42 = .ok (.if_icmp .ne 18, 3) := by decide +kernel
theorem dL_isLawful_45 : decode cL_isLawful 45 = .ok (.aload_n 1, 1) := by decide +kernel
theorem dL_isLawful_46 : decode cL_isLawful 46 = .ok (.iload 5, 2) := by decide +kernel
theorem dL_isLawful_48 : decode cL_isLawful 48 = .ok (.iaload, 1) := by decide +kernel
theorem dL_isLawful_49 : decode cL_isLawful 49 = .ok (.aload_n 1, 1) := by decide +kernel
theorem dL_isLawful_50 : decode cL_isLawful 50 = .ok (.iload 7, 2) := by decide +kernel
theorem dL_isLawful_52 : decode cL_isLawful 52 = .ok (.iaload, 1) := by decide +kernel
theorem dL_isLawful_53 : decode cL_isLawful 53 = .ok (.if_icmp .ne 7, 3) := by decide +kernel
theorem dL_isLawful_56 : decode cL_isLawful 56 = .ok (.iconst 1, 1) := by decide +kernel
theorem dL_isLawful_57 : decode cL_isLawful 57 = .ok (.goto 4, 3) := by decide +kernel
theorem dL_isLawful_60 : decode cL_isLawful 60 = .ok (.iconst 0, 1) := by decide +kernel
theorem dL_isLawful_61 : decode cL_isLawful 61 = .ok (.iadd, 1) := by decide +kernel
theorem dL_isLawful_62 : decode cL_isLawful 62 = .ok (.istore 6, 2) := by decide +kernel
theorem dL_isLawful_64 : decode cL_isLawful 64 = .ok (.aload_n 2, 1) := by decide +kernel
theorem dL_isLawful_65 : decode cL_isLawful 65 = .ok (.iload 5, 2) := by decide +kernel
theorem dL_isLawful_67 : decode cL_isLawful 67 = .ok (.iaload, 1) := by decide +kernel
theorem dL_isLawful_68 : decode cL_isLawful 68 = .ok (.iload 7, 2) := by decide +kernel
theorem dL_isLawful_70 : decode cL_isLawful 70 = .ok (.ishr, 1) := by decide +kernel
theorem dL_isLawful_71 : decode cL_isLawful 71 = .ok (.iconst 1, 1) := by decide +kernel
theorem dL_isLawful_72 : decode cL_isLawful 72 = .ok (.iand, 1) := by decide +kernel
theorem dL_isLawful_73 : decode cL_isLawful 73 = .ok (.iconst 1, 1) := by decide +kernel
theorem dL_isLawful_74 : decode cL_isLawful 74 = .ok (.if_icmp .ne 14, 3) := by decide +kernel
theorem dL_isLawful_77 : decode cL_isLawful 77 = .ok (.aload_n 3, 1) := by decide +kernel
theorem dL_isLawful_78 : decode cL_isLawful 78 = .ok (.iload 5, 2) := by decide +kernel
theorem dL_isLawful_80 : decode cL_isLawful 80 = .ok (.iaload, 1) := by decide +kernel
theorem dL_isLawful_81 : decode cL_isLawful 81 = .ok (.aload_n 3, 1) := by decide +kernel
theorem dL_isLawful_82 : decode cL_isLawful 82 = .ok (.iload 7, 2) := by decide +kernel
theorem dL_isLawful_84 : decode cL_isLawful 84 = .ok (.iaload, 1) := by decide +kernel
theorem dL_isLawful_85 : decode cL_isLawful 85 = .ok (.if_icmp .eq 33, 3) := by decide +kernel
theorem dL_isLawful_88 : decode cL_isLawful 88 = .ok (.aload_n 2, 1) := by decide +kernel
theorem dL_isLawful_89 : decode cL_isLawful 89 = .ok (.bipush 9, 2) := by decide +kernel
theorem dL_isLawful_91 : decode cL_isLawful 91 = .ok (.iload 5, 2) := by decide +kernel
theorem dL_isLawful_93 : decode cL_isLawful 93 = .ok (.iadd, 1) := by decide +kernel
theorem dL_isLawful_94 : decode cL_isLawful 94 = .ok (.iaload, 1) := by decide +kernel
theorem dL_isLawful_95 : decode cL_isLawful 95 = .ok (.iload 7, 2) := by decide +kernel
theorem dL_isLawful_97 : decode cL_isLawful 97 = .ok (.ishr, 1) := by decide +kernel
theorem dL_isLawful_98 : decode cL_isLawful 98 = .ok (.iconst 1, 1) := by decide +kernel
theorem dL_isLawful_99 : decode cL_isLawful 99 = .ok (.iand, 1) := by decide +kernel
theorem dL_isLawful_100 : decode cL_isLawful 100 = .ok (.iconst 1, 1) := by decide +kernel
theorem dL_isLawful_101 : decode cL_isLawful 101 = .ok (.if_icmp .ne 19, 3) := by decide +kernel
theorem dL_isLawful_104 : decode cL_isLawful 104 = .ok (.aload_n 3, 1) := by decide +kernel
theorem dL_isLawful_105 : decode cL_isLawful 105 = .ok (.iload 5, 2) := by decide +kernel
theorem dL_isLawful_107 : decode cL_isLawful 107 = .ok (.iaload, 1) := by decide +kernel
theorem dL_isLawful_108 : decode cL_isLawful 108 = .ok (.aload_n 3, 1) := by decide +kernel
theorem dL_isLawful_109 : decode cL_isLawful 109 = .ok (.iload 7, 2) := by decide +kernel
theorem dL_isLawful_111 : decode cL_isLawful 111 = .ok (.iaload, 1) := by decide +kernel
theorem dL_isLawful_112 : decode cL_isLawful 112 = .ok (.iadd, 1) := by decide +kernel
theorem dL_isLawful_113 : decode cL_isLawful 113 = .ok (.iconst 2, 1) := by decide +kernel
theorem dL_isLawful_114 : decode cL_isLawful 114 = .ok (.irem, 1) := by decide +kernel
theorem dL_isLawful_115 : decode cL_isLawful 115 = .ok (.ifCond .ne 5, 3) := by decide +kernel
theorem dL_isLawful_118 : decode cL_isLawful 118 = .ok (.iconst 0, 1) := by decide +kernel
theorem dL_isLawful_119 : decode cL_isLawful 119 = .ok (.ireturn, 1) := by decide +kernel
theorem dL_isLawful_120 : decode cL_isLawful 120 = .ok (.iinc 7 1, 3) := by decide +kernel
theorem dL_isLawful_123 : decode cL_isLawful 123 = .ok (.goto (-98), 3) := by decide +kernel
theorem dL_isLawful_126 : decode cL_isLawful 126 = .ok (.iload 6, 2) := by decide +kernel
theorem dL_isLawful_128 : decode cL_isLawful 128 = .ok (.aload_n 1, 1) := by decide +kernel
theorem dL_isLawful_129 : decode cL_isLawful 129 = .ok (.bipush 9, 2) := by decide +kernel
theorem dL_isLawful_131 : decode cL_isLawful 131 = .ok (.aload_n 1, 1) := by decide +kernel
theorem dL_isLawful_132 : decode cL_isLawful 132 = .ok (.iload 5, 2) := by decide +kernel
theorem dL_isLawful_134 : decode cL_isLawful 134 = .ok (.iaload, 1) := by decide +kernel
theorem dL_isLawful_135 : decode cL_isLawful 135 = .ok (.iadd, 1) := by decide +kernel
theorem dL_isLawful_136 : decode cL_isLawful 136 = .ok (.iaload, 1) := by decide +kernel
theorem dL_isLawful_137 : decode cL_isLawful 137 = .ok (.if_icmp .le 5, 3) := by decide +kernel
theorem dL_isLawful_140 : decode cL_isLawful 140 = .ok (.iconst 0, 1) := by decide +kernel
theorem dL_isLawful_141 : decode cL_isLawful 141 = .ok (.ireturn, 1) := by decide +kernel
theorem dL_isLawful_142 : decode cL_isLawful 142 = .ok (.iinc 5 1, 3) := by decide +kernel
theorem dL_isLawful_145 : decode cL_isLawful 145 = .ok (.goto (-133), 3) := by decide +kernel
theorem dL_isLawful_148 : decode cL_isLawful 148 = .ok (.iconst 1, 1) := by decide +kernel
theorem dL_isLawful_149 : decode cL_isLawful 149 = .ok (.ireturn, 1) := by decide +kernel
set_option maxRecDepth 20000 in
theorem ggL_finds_L_at : GoodIn wsL_finds wsL_at := goodIn_r _ [5] (by decide +kernel) (by decide +kernel)
set_option maxRecDepth 20000 in
theorem gL_finds_L_at : GoodIn wsL_finds (va_wsS RL 7 yL_at wsL_at) := goodIn_app (goodIn_of _ (by decide +kernel)) ggL_finds_L_at
set_option maxRecDepth 20000 in
theorem ggL_finds_L_isLawful : GoodIn wsL_finds wsL_isLawful := goodIn_r _ [8] (by decide +kernel) (by decide +kernel)
set_option maxRecDepth 20000 in
theorem gL_finds_L_isLawful : GoodIn wsL_finds (va_wsS RL 13 yL_isLawful wsL_isLawful) := goodIn_app (goodIn_of _ (by decide +kernel)) ggL_finds_L_isLawful
theorem dL_finds_0 : decode cL_finds 0 = .ok (.bipush 9, 2) := by decide +kernel
theorem dL_finds_2 : decode cL_finds 2 = .ok (.newarray .int, 2) := by decide +kernel
theorem dL_finds_4 : decode cL_finds 4 = .ok (.astore 5, 2) := by decide +kernel
theorem dL_finds_6 : decode cL_finds 6 = .ok (.aload_n 0, 1) := by decide +kernel
theorem dL_finds_7 : decode cL_finds 7 = .ok (.iconst 0, 1) := by decide +kernel
theorem dL_finds_8 : decode cL_finds 8 = .ok (.iaload, 1) := by decide +kernel
theorem dL_finds_9 : decode cL_finds 9 = .ok (.iconst 4, 1) := by decide +kernel
theorem dL_finds_10 : decode cL_finds 10 = .ok (.if_icmp .ne 8, 3) := by decide +kernel
theorem dL_finds_13 : decode cL_finds 13 = .ok (.bipush 24, 2) := by decide +kernel
theorem dL_finds_15 : decode cL_finds 15 = .ok (.goto 16, 3) := by decide +kernel
theorem dL_finds_18 : decode cL_finds 18 = .ok (.aload_n 0, 1) := by decide +kernel
theorem dL_finds_19 : decode cL_finds 19 = .ok (.iconst 0, 1) := by decide +kernel
theorem dL_finds_20 : decode cL_finds 20 = .ok (.iaload, 1) := by decide +kernel
theorem dL_finds_21 : decode cL_finds 21 = .ok (.iconst 3, 1) := by decide +kernel
theorem dL_finds_22 : decode cL_finds 22 = .ok (.if_icmp .ne 8, 3) := by decide +kernel
theorem dL_finds_25 : decode cL_finds 25 = .ok (.bipush 6, 2) := by decide +kernel
theorem dL_finds_27 : decode cL_finds 27 = .ok (.goto 4, 3) := by decide +kernel
theorem dL_finds_30 : decode cL_finds 30 = .ok (.iconst 2, 1) := by decide +kernel
theorem dL_finds_31 : decode cL_finds 31 = .ok (.istore 6, 2) := by decide +kernel
theorem dL_finds_33 : decode cL_finds 33 = .ok (.aload_n 0, 1) := by decide +kernel
theorem dL_finds_34 : decode cL_finds 34 = .ok (.iconst 3, 1) := by decide +kernel
theorem dL_finds_35 : decode cL_finds 35 = .ok (.iload 6, 2) := by decide +kernel
theorem dL_finds_37 : decode cL_finds 37 = .ok (.iastore, 1) := by decide +kernel
theorem dL_finds_38 : decode cL_finds 38 = .ok (.iconst 0, 1) := by decide +kernel
theorem dL_finds_39 : decode cL_finds 39 = .ok (.istore 7, 2) := by decide +kernel
theorem dL_finds_41 : decode cL_finds 41 = .ok (.iload 7, 2) := by decide +kernel
theorem dL_finds_43 : decode cL_finds 43 = .ok (.bipush 16, 2) := by decide +kernel
theorem dL_finds_45 : decode cL_finds 45 = .ok (.if_icmp .ge 15, 3) := by decide +kernel
theorem dL_finds_48 : decode cL_finds 48 = .ok (.aload 4, 2) := by decide +kernel
theorem dL_finds_50 : decode cL_finds 50 = .ok (.iload 7, 2) := by decide +kernel
theorem dL_finds_52 : decode cL_finds 52 = .ok (.lconst 0, 1) := by decide +kernel
theorem dL_finds_53 : decode cL_finds 53 = .ok (.lastore, 1) := by decide +kernel
theorem dL_finds_54 : decode cL_finds 54 = .ok (.iinc 7 1, 3) := by decide +kernel
theorem dL_finds_57 : decode cL_finds 57 = .ok (.goto (-16), 3) := by decide +kernel
theorem dL_finds_60 : decode cL_finds 60 = .ok (.iconst 0, 1) := by decide +kernel
theorem dL_finds_61 : decode cL_finds 61 = .ok (.istore 7, 2) := by decide +kernel
theorem dL_finds_63 : decode cL_finds 63 = .ok (.iload 7, 2) := by decide +kernel
theorem dL_finds_65 : decode cL_finds 65 = .ok (.iload 6, 2) := by decide +kernel
theorem dL_finds_67 : decode cL_finds 67 = .ok (.if_icmp .ge 51, 3) := by decide +kernel
theorem dL_finds_70 : decode cL_finds 70 = .ok (.iconst 0, 1) := by decide +kernel
theorem dL_finds_71 : decode cL_finds 71 = .ok (.istore 8, 2) := by decide +kernel
theorem dL_finds_73 : decode cL_finds 73 = .ok (.iload 8, 2) := by decide +kernel
theorem dL_finds_75 : decode cL_finds 75 = .ok (.aload_n 0, 1) := by decide +kernel
theorem dL_finds_76 : decode cL_finds 76 = .ok (.iconst 0, 1) := by decide +kernel
theorem dL_finds_77 : decode cL_finds 77 = .ok (.iaload, 1) := by decide +kernel
theorem dL_finds_78 : decode cL_finds 78 = .ok (.if_icmp .ge 34, 3) := by decide +kernel
theorem dL_finds_81 : decode cL_finds 81 = .ok (.aload 4, 2) := by decide +kernel
theorem dL_finds_83 : decode cL_finds 83 = .ok (.iconst 4, 1) := by decide +kernel
theorem dL_finds_84 : decode cL_finds 84 = .ok (.iload 8, 2) := by decide +kernel
theorem dL_finds_86 : decode cL_finds 86 = .ok (.imul, 1) := by decide +kernel
theorem dL_finds_87 : decode cL_finds 87 = .ok (.aload_n 0, 1) := by decide +kernel
theorem dL_finds_88 : decode cL_finds 88 = .ok (.iconst 0, 1) := by decide +kernel
theorem dL_finds_89 : decode cL_finds 89 = .ok (.iaload, 1) := by decide +kernel
theorem dL_finds_90 : decode cL_finds 90 = .ok (.iload 7, 2) := by decide +kernel
theorem dL_finds_92 : decode cL_finds 92 = .ok (.iload 8, 2) := by decide +kernel
theorem dL_finds_94 : decode cL_finds 94 = .ok (.invokestatic 7, 3) := by decide +kernel
theorem dL_finds_97 : decode cL_finds 97 = .ok (.iadd, 1) := by decide +kernel
theorem dL_finds_98 : decode cL_finds 98 = .ok (.dup2, 1) := by decide +kernel
theorem dL_finds_99 : decode cL_finds 99 = .ok (.laload, 1) := by decide +kernel
theorem dL_finds_100 : decode cL_finds 100 = .ok (.lconst 1, 1) := by decide +kernel
theorem dL_finds_101 : decode cL_finds 101 = .ok (.iload 7, 2) := by decide +kernel
theorem dL_finds_103 : decode cL_finds 103 = .ok (.lshl, 1) := by decide +kernel
theorem dL_finds_104 : decode cL_finds 104 = .ok (.lor, 1) := by decide +kernel
theorem dL_finds_105 : decode cL_finds 105 = .ok (.lastore, 1) := by decide +kernel
theorem dL_finds_106 : decode cL_finds 106 = .ok (.iinc 8 1, 3) := by decide +kernel
theorem dL_finds_109 : decode cL_finds 109 = .ok (.goto (-36), 3) := by decide +kernel
theorem dL_finds_112 : decode cL_finds 112 = .ok (.iinc 7 1, 3) := by decide +kernel
theorem dL_finds_115 : decode cL_finds 115 = .ok (.goto (-52), 3) := by decide +kernel
theorem dL_finds_118 : decode cL_finds 118 = .ok (.aload_n 0, 1) := by decide +kernel
theorem dL_finds_119 : decode cL_finds 119 = .ok (.iconst 1, 1) := by decide +kernel
theorem dL_finds_120 : decode cL_finds 120 = .ok (.iaload, 1) := by decide +kernel
theorem dL_finds_121 : decode cL_finds 121 = .ok (.iconst 2, 1) := by decide +kernel
theorem dL_finds_122 : decode cL_finds 122 = .ok (.if_icmp .ne 8, 3) := by decide +kernel
theorem dL_finds_125 : decode cL_finds 125 = .ok (.iload 6, 2) := by decide +kernel
theorem dL_finds_127 : decode cL_finds 127 = .ok (.goto 8, 3) := by decide +kernel
theorem dL_finds_130 : decode cL_finds 130 = .ok (.iload 6, 2) := by decide +kernel
theorem dL_finds_132 : decode cL_finds 132 = .ok (.iload 6, 2) := by decide +kernel
theorem dL_finds_134 : decode cL_finds 134 = .ok (.imul, 1) := by decide +kernel
theorem dL_finds_135 : decode cL_finds 135 = .ok (.istore 7, 2) := by decide +kernel
theorem dL_finds_137 : decode cL_finds 137 = .ok (.iconst 0, 1) := by decide +kernel
theorem dL_finds_138 : decode cL_finds 138 = .ok (.istore 8, 2) := by decide +kernel
theorem dL_finds_140 : decode cL_finds 140 = .ok (.iload 8, 2) := by decide +kernel
theorem dL_finds_142 : decode cL_finds 142 = .ok (.iload 7, 2) := by decide +kernel
theorem dL_finds_144 : decode cL_finds 144 = .ok (.if_icmp .ge 155, 3) := by decide +kernel
theorem dL_finds_147 : decode cL_finds 147 = .ok (.aload_n 3, 1) := by decide +kernel
theorem dL_finds_148 : decode cL_finds 148 = .ok (.iload 8, 2) := by decide +kernel
theorem dL_finds_150 : decode cL_finds 150 = .ok (.lconst 0, 1) := by decide +kernel
theorem dL_finds_151 : decode cL_finds 151 = .ok (.lastore, 1) := by decide +kernel
theorem dL_finds_152 : decode cL_finds 152 = .ok (.iconst 0, 1) := by decide +kernel
theorem dL_finds_153 : decode cL_finds 153 = .ok (.istore 9, 2) := by decide +kernel
theorem dL_finds_155 : decode cL_finds 155 = .ok (.iload 9, 2) := by decide +kernel
theorem dL_finds_157 : decode cL_finds 157 = .ok (.aload_n 0, 1) := by decide +kernel
theorem dL_finds_158 : decode cL_finds 158 = .ok (.iconst 0, 1) := by decide +kernel
theorem dL_finds_159 : decode cL_finds 159 = .ok (.iaload, 1) := by decide +kernel
theorem dL_finds_160 : decode cL_finds 160 = .ok (.if_icmp .ge 49, 3) := by decide +kernel
theorem dL_finds_163 : decode cL_finds 163 = .ok (.aload 5, 2) := by decide +kernel
theorem dL_finds_165 : decode cL_finds 165 = .ok (.iload 9, 2) := by decide +kernel
theorem dL_finds_167 : decode cL_finds 167 = .ok (.aload_n 0, 1) := by decide +kernel
theorem dL_finds_168 : decode cL_finds 168 = .ok (.iconst 0, 1) := by decide +kernel
theorem dL_finds_169 : decode cL_finds 169 = .ok (.iaload, 1) := by decide +kernel
theorem dL_finds_170 : decode cL_finds 170 = .ok (.iload 8, 2) := by decide +kernel
theorem dL_finds_172 : decode cL_finds 172 = .ok (.iload 6, 2) := by decide +kernel
theorem dL_finds_174 : decode cL_finds 174 = .ok (.irem, 1) := by decide +kernel
theorem dL_finds_175 : decode cL_finds 175 = .ok (.iload 9, 2) := by decide +kernel
theorem dL_finds_177 : decode cL_finds 177 = .ok (.invokestatic 7, 3) := by decide +kernel
theorem dL_finds_180 : decode cL_finds 180 = .ok (.iastore, 1) := by decide +kernel
theorem dL_finds_181 : decode cL_finds 181 = .ok (.aload 5, 2) := by decide +kernel
theorem dL_finds_183 : decode cL_finds 183 = .ok (.aload_n 0, 1) := by decide +kernel
theorem dL_finds_184 : decode cL_finds 184 = .ok (.iconst 0, 1) := by decide +kernel
theorem dL_finds_185 : decode cL_finds 185 = .ok (.iaload, 1) := by decide +kernel
theorem dL_finds_186 : decode cL_finds 186 = .ok (.iload 9, 2) := by decide +kernel
theorem dL_finds_188 : decode cL_finds 188 = .ok (.iadd, 1) := by decide +kernel
theorem dL_finds_189 : decode cL_finds 189 = .ok (.aload_n 0, 1) := by decide +kernel
theorem dL_finds_190 : decode cL_finds 190 = .ok (.iconst 0, 1) := by decide +kernel
theorem dL_finds_191 : decode cL_finds 191 = .ok (.iaload, 1) := by decide +kernel
theorem dL_finds_192 : decode cL_finds 192 = .ok (.iload 8, 2) := by decide +kernel
theorem dL_finds_194 : decode cL_finds 194 = .ok (.iload 6, 2) := by decide +kernel
theorem dL_finds_196 : decode cL_finds 196 = .ok (.idiv, 1) := by decide +kernel
theorem dL_finds_197 : decode cL_finds 197 = .ok (.iload 9, 2) := by decide +kernel
theorem dL_finds_199 : decode cL_finds 199 = .ok (.invokestatic 7, 3) := by decide +kernel
theorem dL_finds_202 : decode cL_finds 202 = .ok (.iastore, 1) := by decide +kernel
theorem dL_finds_203 : decode cL_finds 203 = .ok (.iinc 9 1, 3) := by decide +kernel
theorem dL_finds_206 : decode cL_finds 206 = .ok (.goto (-51), 3) := by decide +kernel
theorem dL_finds_209 : decode cL_finds 209 = .ok (.iconst 0, 1) := by decide +kernel
theorem dL_finds_210 : decode cL_finds 210 = .ok (.istore 9, 2) := by decide +kernel
theorem dL_finds_212 : decode cL_finds 212 = .ok (.iload 9, 2) := by decide +kernel
theorem dL_finds_214 : decode cL_finds 214 = .ok (.iload 6, 2) := by decide +kernel
theorem dL_finds_216 : decode cL_finds 216 = .ok (.if_icmp .ge 77, 3) := by decide +kernel
theorem dL_finds_219 : decode cL_finds 219 = .ok (.iconst 0, 1) := by decide +kernel
theorem dL_finds_220 : decode cL_finds 220 = .ok (.istore 10, 2) := by decide +kernel
theorem dL_finds_222 : decode cL_finds 222 = .ok (.iload 10, 2) := by decide +kernel
theorem dL_finds_224 : decode cL_finds 224 = .ok (.aload_n 0, 1) := by decide +kernel
theorem dL_finds_225 : decode cL_finds 225 = .ok (.iconst 0, 1) := by decide +kernel
theorem dL_finds_226 : decode cL_finds 226 = .ok (.iaload, 1) := by decide +kernel
theorem dL_finds_227 : decode cL_finds 227 = .ok (.if_icmp .ge 34, 3) := by decide +kernel
theorem dL_finds_230 : decode cL_finds 230 = .ok (.aload 5, 2) := by decide +kernel
theorem dL_finds_232 : decode cL_finds 232 = .ok (.aload_n 0, 1) := by decide +kernel
theorem dL_finds_233 : decode cL_finds 233 = .ok (.iconst 0, 1) := by decide +kernel
theorem dL_finds_234 : decode cL_finds 234 = .ok (.iaload, 1) := by decide +kernel
theorem dL_finds_235 : decode cL_finds 235 = .ok (.aload_n 0, 1) := by decide +kernel
theorem dL_finds_236 : decode cL_finds 236 = .ok (.iconst 1, 1) := by decide +kernel
theorem dL_finds_237 : decode cL_finds 237 = .ok (.iaload, 1) := by decide +kernel
theorem dL_finds_238 : decode cL_finds 238 = .ok (.iconst 1, 1) := by decide +kernel
theorem dL_finds_239 : decode cL_finds 239 = .ok (.isub, 1) := by decide +kernel
theorem dL_finds_240 : decode cL_finds 240 = .ok (.imul, 1) := by decide +kernel
theorem dL_finds_241 : decode cL_finds 241 = .ok (.iload 10, 2) := by decide +kernel
theorem dL_finds_243 : decode cL_finds 243 = .ok (.iadd, 1) := by decide +kernel
theorem dL_finds_244 : decode cL_finds 244 = .ok (.aload_n 0, 1) := by decide +kernel
theorem dL_finds_245 : decode cL_finds 245 = .ok (.iconst 0, 1) := by decide +kernel
theorem dL_finds_246 : decode cL_finds 246 = .ok (.iaload, 1) := by decide +kernel
theorem dL_finds_247 : decode cL_finds 247 = .ok (.iload 9, 2) := by decide +kernel
theorem dL_finds_249 : decode cL_finds 249 = .ok (.iload 10, 2) := by decide +kernel
theorem dL_finds_251 : decode cL_finds 251 = .ok (.invokestatic 7, 3) := by decide +kernel
theorem dL_finds_254 : decode cL_finds 254 = .ok (.iastore, 1) := by decide +kernel
theorem dL_finds_255 : decode cL_finds 255 = .ok (.iinc 10 1, 3) := by decide +kernel
theorem dL_finds_258 : decode cL_finds 258 = .ok (.goto (-36), 3) := by decide +kernel
theorem dL_finds_261 : decode cL_finds 261 = .ok (.aload_n 3, 1) := by decide +kernel
theorem dL_finds_262 : decode cL_finds 262 = .ok (.iload 8, 2) := by decide +kernel
theorem dL_finds_264 : decode cL_finds 264 = .ok (.dup2, 1) := by decide +kernel
theorem dL_finds_265 : decode cL_finds 265 = .ok (.laload, 1) := by decide +kernel
theorem dL_finds_266 : decode cL_finds 266 = .ok (.aload_n 0, 1) := by decide +kernel
theorem dL_finds_267 : decode cL_finds 267 = .ok (.aload_n 1, 1) := by decide +kernel
theorem dL_finds_268 : decode cL_finds 268 = .ok (.aload_n 2, 1) := by decide +kernel
theorem dL_finds_269 : decode cL_finds 269 = .ok (.aload 5, 2) := by decide +kernel
theorem dL_finds_271 : decode cL_finds 271 = .ok (.invokestatic 13, 3) := by decide +kernel
theorem dL_finds_274 : decode cL_finds 274 = .ok (.ifCond .eq 10, 3) := by decide +kernel
theorem dL_finds_277 : decode cL_finds 277 = .ok (.lconst 1, 1) := by decide +kernel
theorem dL_finds_278 : decode cL_finds 278 = .ok (.iload 9, 2) := by decide +kernel
theorem dL_finds_280 : decode cL_finds 280 = .ok (.lshl, 1) := by decide +kernel
theorem dL_finds_281 : decode cL_finds 281 = .ok (.goto 4, 3) := by decide +kernel
theorem dL_finds_284 : decode cL_finds 284 = .ok (.lconst 0, 1) := by decide +kernel
theorem dL_finds_285 : decode cL_finds 285 = .ok (.lor, 1) := by decide +kernel
theorem dL_finds_286 : decode cL_finds 286 = .ok (.lastore, 1) := by decide +kernel
theorem dL_finds_287 : decode cL_finds 287 = .ok (.iinc 9 1, 3) := by decide +kernel
theorem dL_finds_290 : decode cL_finds 290 = .ok (.goto (-78), 3) := by decide +kernel
theorem dL_finds_293 : decode cL_finds 293 = .ok (.iinc 8 1, 3) := by decide +kernel
theorem dL_finds_296 : decode cL_finds 296 = .ok (.goto (-156), 3) := by decide +kernel
theorem dL_finds_299 : decode cL_finds 299 = .ok (.return_, 1) := by decide +kernel
theorem dL_bits_0 : decode cL_bits 0 = .ok (.iconst 0, 1) := by decide +kernel
theorem dL_bits_1 : decode cL_bits 1 = .ok (.istore_n 2, 1) := by decide +kernel
theorem dL_bits_2 : decode cL_bits 2 = .ok (.lload_n 0, 1) := by decide +kernel
theorem dL_bits_3 : decode cL_bits 3 = .ok (.lstore_n 3, 1) := by decide +kernel
theorem dL_bits_4 : decode cL_bits 4 = .ok (.lload_n 3, 1) := by decide +kernel
theorem dL_bits_5 : decode cL_bits 5 = .ok (.lconst 0, 1) := by decide +kernel
theorem dL_bits_6 : decode cL_bits 6 = .ok (.lcmp, 1) := by decide +kernel
theorem dL_bits_7 : decode cL_bits 7 = .ok (.ifCond .eq 15, 3) := by decide +kernel
theorem dL_bits_10 : decode cL_bits 10 = .ok (.iinc 2 1, 3) := by decide +kernel
theorem dL_bits_13 : decode cL_bits 13 = .ok (.lload_n 3, 1) := by decide +kernel
theorem dL_bits_14 : decode cL_bits 14 = .ok (.lload_n 3, 1) := by decide +kernel
theorem dL_bits_15 : decode cL_bits 15 = .ok (.lconst 1, 1) := by decide +kernel
theorem dL_bits_16 : decode cL_bits 16 = .ok (.lsub, 1) := by decide +kernel
theorem dL_bits_17 : decode cL_bits 17 = .ok (.land, 1) := by decide +kernel
theorem dL_bits_18 : decode cL_bits 18 = .ok (.lstore_n 3, 1) := by decide +kernel
theorem dL_bits_19 : decode cL_bits 19 = .ok (.goto (-15), 3) := by decide +kernel
theorem dL_bits_22 : decode cL_bits 22 = .ok (.iload_n 2, 1) := by decide +kernel
theorem dL_bits_23 : decode cL_bits 23 = .ok (.ireturn, 1) := by decide +kernel
set_option maxRecDepth 20000 in
theorem ggL_count_L_bits : GoodIn wsL_count wsL_bits := goodIn_r _ [4] (by decide +kernel) (by decide +kernel)
set_option maxRecDepth 20000 in
theorem gL_count_L_bits : GoodIn wsL_count (va_wsS RL 17 yL_bits wsL_bits) := goodIn_app (goodIn_of _ (by decide +kernel)) ggL_count_L_bits
theorem dL_count_0 : decode cL_count 0 = .ok (.aload_n 0, 1) := by decide +kernel
theorem dL_count_1 : decode cL_count 1 = .ok (.iconst 3, 1) := by decide +kernel
theorem dL_count_2 : decode cL_count 2 = .ok (.iaload, 1) := by decide +kernel
theorem dL_count_3 : decode cL_count 3 = .ok (.istore 8, 2) := by decide +kernel
theorem dL_count_5 : decode cL_count 5 = .ok (.iconst 0, 1) := by decide +kernel
theorem dL_count_6 : decode cL_count 6 = .ok (.istore 9, 2) := by decide +kernel
theorem dL_count_8 : decode cL_count 8 = .ok (.iconst 0, 1) := by decide +kernel
theorem dL_count_9 : decode cL_count 9 = .ok (.istore 10, 2) := by decide +kernel
theorem dL_count_11 : decode cL_count 11 = .ok (.iload 10, 2) := by decide +kernel
theorem dL_count_13 : decode cL_count 13 = .ok (.aload_n 0, 1) := by decide +kernel
theorem dL_count_14 : decode cL_count 14 = .ok (.iconst 1, 1) := by decide +kernel
theorem dL_count_15 : decode cL_count 15 = .ok (.iaload, 1) := by decide +kernel
theorem dL_count_16 : decode cL_count 16 = .ok (.iconst 2, 1) := by decide +kernel
theorem dL_count_17 : decode cL_count 17 = .ok (.if_icmp .ne 8, 3) := by decide +kernel
theorem dL_count_20 : decode cL_count 20 = .ok (.iload 8, 2) := by decide +kernel
theorem dL_count_22 : decode cL_count 22 = .ok (.goto 8, 3) := by decide +kernel
theorem dL_count_25 : decode cL_count 25 = .ok (.iload 8, 2) := by decide +kernel
theorem dL_count_27 : decode cL_count 27 = .ok (.iload 8, 2) := by decide +kernel
theorem dL_count_29 : decode cL_count 29 = .ok (.imul, 1) := by decide +kernel
theorem dL_count_30 : decode cL_count 30 = .ok (.if_icmp .ge 88, 3) := by decide +kernel
theorem dL_count_33 : decode cL_count 33 = .ok (.lload_n 2, 1) := by decide +kernel
theorem dL_count_34 : decode cL_count 34 = .ok (.iload 10, 2) := by decide +kernel
theorem dL_count_36 : decode cL_count 36 = .ok (.iload 8, 2) := by decide +kernel
theorem dL_count_38 : decode cL_count 38 = .ok (.irem, 1) := by decide +kernel
theorem dL_count_39 : decode cL_count 39 = .ok (.lshr, 1) := by decide +kernel
theorem dL_count_40 : decode cL_count 40 = .ok (.lconst 1, 1) := by decide +kernel
theorem dL_count_41 : decode cL_count 41 = .ok (.land, 1) := by decide +kernel
theorem dL_count_42 : decode cL_count 42 = .ok (.lconst 1, 1) := by decide +kernel
theorem dL_count_43 : decode cL_count 43 = .ok (.lcmp, 1) := by decide +kernel
theorem dL_count_44 : decode cL_count 44 = .ok (.ifCond .ne 29, 3) := by decide +kernel
theorem dL_count_47 : decode cL_count 47 = .ok (.aload_n 0, 1) := by decide +kernel
theorem dL_count_48 : decode cL_count 48 = .ok (.iconst 1, 1) := by decide +kernel
theorem dL_count_49 : decode cL_count 49 = .ok (.iaload, 1) := by decide +kernel
theorem dL_count_50 : decode cL_count 50 = .ok (.iconst 2, 1) := by decide +kernel
theorem dL_count_51 : decode cL_count 51 = .ok (.if_icmp .eq 18, 3) := by decide +kernel
theorem dL_count_54 : decode cL_count 54 = .ok (.lload 4, 2) := by decide +kernel
theorem dL_count_56 : decode cL_count 56 = .ok (.iload 10, 2) := by decide +kernel
theorem dL_count_58 : decode cL_count 58 = .ok (.iload 8, 2) := by decide +kernel
theorem dL_count_60 : decode cL_count 60 = .ok (.idiv, 1) := by decide +kernel
theorem dL_count_61 : decode cL_count 61 = .ok (.lshr, 1) := by decide +kernel
theorem dL_count_62 : decode cL_count 62 = .ok (.lconst 1, 1) := by decide +kernel
theorem dL_count_63 : decode cL_count 63 = .ok (.land, 1) := by decide +kernel
theorem dL_count_64 : decode cL_count 64 = .ok (.lconst 1, 1) := by decide +kernel
theorem dL_count_65 : decode cL_count 65 = .ok (.lcmp, 1) := by decide +kernel
theorem dL_count_66 : decode cL_count 66 = .ok (.ifCond .ne 7, 3) := by decide +kernel
theorem dL_count_69 : decode cL_count 69 = .ok (.iconst 1, 1) := by decide +kernel
theorem dL_count_70 : decode cL_count 70 = .ok (.goto 4, 3) := by decide +kernel
theorem dL_count_73 : decode cL_count 73 = .ok (.iconst 0, 1) := by decide +kernel
theorem dL_count_74 : decode cL_count 74 = .ok (.istore 11, 2) := by decide +kernel
theorem dL_count_76 : decode cL_count 76 = .ok (.iload 9, 2) := by decide +kernel
theorem dL_count_78 : decode cL_count 78 = .ok (.iload 11, 2) := by decide +kernel
theorem dL_count_80 : decode cL_count 80 = .ok (.ifCond .eq 28, 3) := by decide +kernel
theorem dL_count_83 : decode cL_count 83 = .ok (.aload_n 1, 1) := by decide +kernel
theorem dL_count_84 : decode cL_count 84 = .ok (.iload 10, 2) := by decide +kernel
theorem dL_count_86 : decode cL_count 86 = .ok (.laload, 1) := by decide +kernel
theorem dL_count_87 : decode cL_count 87 = .ok (.aload_n 0, 1) := by decide +kernel
theorem dL_count_88 : decode cL_count 88 = .ok (.iconst 1, 1) := by decide +kernel
theorem dL_count_89 : decode cL_count 89 = .ok (.iaload, 1) := by decide +kernel
theorem dL_count_90 : decode cL_count 90 = .ok (.iconst 2, 1) := by decide +kernel
theorem dL_count_91 : decode cL_count 91 = .ok (.if_icmp .ne 8, 3) := by decide +kernel
theorem dL_count_94 : decode cL_count 94 = .ok (.lload 4, 2) := by decide +kernel
theorem dL_count_96 : decode cL_count 96 = .ok (.goto 5, 3) := by decide +kernel
theorem dL_count_99 : decode cL_count 99 = .ok (.lload 6, 2) := by decide +kernel
theorem dL_count_101 : decode cL_count 101 = .ok (.land, 1) := by decide +kernel
theorem dL_count_102 : decode cL_count 102 = .ok (.invokestatic 17, 3) := by decide +kernel
theorem dL_count_105 : decode cL_count 105 = .ok (.goto 4, 3) := by decide +kernel
theorem dL_count_108 : decode cL_count 108 = .ok (.iconst 0, 1) := by decide +kernel
theorem dL_count_109 : decode cL_count 109 = .ok (.iadd, 1) := by decide +kernel
theorem dL_count_110 : decode cL_count 110 = .ok (.istore 9, 2) := by decide +kernel
theorem dL_count_112 : decode cL_count 112 = .ok (.iinc 10 1, 3) := by decide +kernel
theorem dL_count_115 : decode cL_count 115 = .ok (.goto (-104), 3) := by decide +kernel
theorem dL_count_118 : decode cL_count 118 = .ok (.iload 9, 2) := by decide +kernel
theorem dL_count_120 : decode cL_count 120 = .ok (.ireturn, 1) := by decide +kernel
theorem dL_orders_0 : decode cL_orders 0 = .ok (.lconst 1, 1) := by decide +kernel
theorem dL_orders_1 : decode cL_orders 1 = .ok (.aload_n 0, 1) := by decide +kernel
theorem dL_orders_2 : decode cL_orders 2 = .ok (.iconst 3, 1) := by decide +kernel
theorem dL_orders_3 : decode cL_orders 3 = .ok (.iaload, 1) := by decide +kernel
theorem dL_orders_4 : decode cL_orders 4 = .ok (.lshl, 1) := by decide +kernel
theorem dL_orders_5 : decode cL_orders 5 = .ok (.lconst 1, 1) := by decide +kernel
theorem dL_orders_6 : decode cL_orders 6 = .ok (.lsub, 1) := by decide +kernel
theorem dL_orders_7 : decode cL_orders 7 = .ok (.lstore 4, 2) := by decide +kernel
theorem dL_orders_9 : decode cL_orders 9 = .ok (.iconst 0, 1) := by decide +kernel
theorem dL_orders_10 : decode cL_orders 10 = .ok (.istore 6, 2) := by decide +kernel
theorem dL_orders_12 : decode cL_orders 12 = .ok (.iload 6, 2) := by decide +kernel
theorem dL_orders_14 : decode cL_orders 14 = .ok (.aload_n 0, 1) := by decide +kernel
theorem dL_orders_15 : decode cL_orders 15 = .ok (.iconst 0, 1) := by decide +kernel
theorem dL_orders_16 : decode cL_orders 16 = .ok (.iaload, 1) := by decide +kernel
theorem dL_orders_17 : decode cL_orders 17 = .ok (.if_icmp .ge 52, 3) := by decide +kernel
theorem dL_orders_20 : decode cL_orders 20 = .ok (.iload_n 3, 1) := by decide +kernel
theorem dL_orders_21 : decode cL_orders 21 = .ok (.aload_n 0, 1) := by decide +kernel
theorem dL_orders_22 : decode cL_orders 22 = .ok (.iconst 1, 1) := by decide +kernel
theorem dL_orders_23 : decode cL_orders 23 = .ok (.iaload, 1) := by decide +kernel
theorem dL_orders_24 : decode cL_orders 24 = .ok (.if_icmp .ge 45, 3) := by decide +kernel
theorem dL_orders_27 : decode cL_orders 27 = .ok (.aload_n 1, 1) := by decide +kernel
theorem dL_orders_28 : decode cL_orders 28 = .ok (.aload_n 0, 1) := by decide +kernel
theorem dL_orders_29 : decode cL_orders 29 = .ok (.iconst 0, 1) := by decide +kernel
theorem dL_orders_30 : decode cL_orders 30 = .ok (.iaload, 1) := by decide +kernel
theorem dL_orders_31 : decode cL_orders 31 = .ok (.iload_n 3, 1) := by decide +kernel
theorem dL_orders_32 : decode cL_orders 32 = .ok (.imul, 1) := by decide +kernel
theorem dL_orders_33 : decode cL_orders 33 = .ok (.iload 6, 2) := by decide +kernel
theorem dL_orders_35 : decode cL_orders 35 = .ok (.iadd, 1) := by decide +kernel
theorem dL_orders_36 : decode cL_orders 36 = .ok (.iaload, 1) := by decide +kernel
theorem dL_orders_37 : decode cL_orders 37 = .ok (.istore 7, 2) := by decide +kernel
theorem dL_orders_39 : decode cL_orders 39 = .ok (.lload 4, 2) := by decide +kernel
theorem dL_orders_41 : decode cL_orders 41 = .ok (.iload 7, 2) := by decide +kernel
theorem dL_orders_43 : decode cL_orders 43 = .ok (.ifCond .ge 8, 3) := by decide +kernel
theorem dL_orders_46 : decode cL_orders 46 = .ok (.lload 4, 2) := by decide +kernel
theorem dL_orders_48 : decode cL_orders 48 = .ok (.goto 12, 3) := by decide +kernel
theorem dL_orders_51 : decode cL_orders 51 = .ok (.aload_n 2, 1) := by decide +kernel
theorem dL_orders_52 : decode cL_orders 52 = .ok (.iconst 4, 1) := by decide +kernel
theorem dL_orders_53 : decode cL_orders 53 = .ok (.iload 6, 2) := by decide +kernel
theorem dL_orders_55 : decode cL_orders 55 = .ok (.imul, 1) := by decide +kernel
theorem dL_orders_56 : decode cL_orders 56 = .ok (.iload 7, 2) := by decide +kernel
theorem dL_orders_58 : decode cL_orders 58 = .ok (.iadd, 1) := by decide +kernel
theorem dL_orders_59 : decode cL_orders 59 = .ok (.laload, 1) := by decide +kernel
theorem dL_orders_60 : decode cL_orders 60 = .ok (.land, 1) := by decide +kernel
theorem dL_orders_61 : decode cL_orders 61 = .ok (.lstore 4, 2) := by decide +kernel
theorem dL_orders_63 : decode cL_orders 63 = .ok (.iinc 6 1, 3) := by decide +kernel
theorem dL_orders_66 : decode cL_orders 66 = .ok (.goto (-54), 3) := by decide +kernel
theorem dL_orders_69 : decode cL_orders 69 = .ok (.lload 4, 2) := by decide +kernel
theorem dL_orders_71 : decode cL_orders 71 = .ok (.lreturn, 1) := by decide +kernel
set_option maxRecDepth 20000 in
theorem ggL_withTeam_L_count : GoodIn wsL_withTeam wsL_count := goodIn_r _ [4, 5, 6, 3, 7] (by decide +kernel) (by decide +kernel)
set_option maxRecDepth 20000 in
theorem gL_withTeam_L_count : GoodIn wsL_withTeam (va_wsS RL 21 yL_count wsL_count) := goodIn_app (goodIn_of _ (by decide +kernel)) ggL_withTeam_L_count
theorem dL_withTeam_0 : decode cL_withTeam 0 = .ok (.iload 4, 2) := by decide +kernel
theorem dL_withTeam_2 : decode cL_withTeam 2 = .ok (.aload_n 0, 1) := by decide +kernel
theorem dL_withTeam_3 : decode cL_withTeam 3 = .ok (.iconst 0, 1) := by decide +kernel
theorem dL_withTeam_4 : decode cL_withTeam 4 = .ok (.iaload, 1) := by decide +kernel
theorem dL_withTeam_5 : decode cL_withTeam 5 = .ok (.idiv, 1) := by decide +kernel
theorem dL_withTeam_6 : decode cL_withTeam 6 = .ok (.istore 6, 2) := by decide +kernel
theorem dL_withTeam_8 : decode cL_withTeam 8 = .ok (.aload_n 2, 1) := by decide +kernel
theorem dL_withTeam_9 : decode cL_withTeam 9 = .ok (.iconst 4, 1) := by decide +kernel
theorem dL_withTeam_10 : decode cL_withTeam 10 = .ok (.iload 4, 2) := by decide +kernel
theorem dL_withTeam_12 : decode cL_withTeam 12 = .ok (.aload_n 0, 1) := by decide +kernel
theorem dL_withTeam_13 : decode cL_withTeam 13 = .ok (.iconst 0, 1) := by decide +kernel
theorem dL_withTeam_14 : decode cL_withTeam 14 = .ok (.iaload, 1) := by decide +kernel
theorem dL_withTeam_15 : decode cL_withTeam 15 = .ok (.irem, 1) := by decide +kernel
theorem dL_withTeam_16 : decode cL_withTeam 16 = .ok (.imul, 1) := by decide +kernel
theorem dL_withTeam_17 : decode cL_withTeam 17 = .ok (.iload 5, 2) := by decide +kernel
theorem dL_withTeam_19 : decode cL_withTeam 19 = .ok (.iadd, 1) := by decide +kernel
theorem dL_withTeam_20 : decode cL_withTeam 20 = .ok (.laload, 1) := by decide +kernel
theorem dL_withTeam_21 : decode cL_withTeam 21 = .ok (.lstore 7, 2) := by decide +kernel
theorem dL_withTeam_23 : decode cL_withTeam 23 = .ok (.aload_n 0, 1) := by decide +kernel
theorem dL_withTeam_24 : decode cL_withTeam 24 = .ok (.aload_n 1, 1) := by decide +kernel
theorem dL_withTeam_25 : decode cL_withTeam 25 = .ok (.iload 6, 2) := by decide +kernel
theorem dL_withTeam_27 : decode cL_withTeam 27 = .ok (.ifCond .ne 12, 3) := by decide +kernel
theorem dL_withTeam_30 : decode cL_withTeam 30 = .ok (.aload_n 3, 1) := by decide +kernel
theorem dL_withTeam_31 : decode cL_withTeam 31 = .ok (.iconst 0, 1) := by decide +kernel
theorem dL_withTeam_32 : decode cL_withTeam 32 = .ok (.laload, 1) := by decide +kernel
theorem dL_withTeam_33 : decode cL_withTeam 33 = .ok (.lload 7, 2) := by decide +kernel
theorem dL_withTeam_35 : decode cL_withTeam 35 = .ok (.land, 1) := by decide +kernel
theorem dL_withTeam_36 : decode cL_withTeam 36 = .ok (.goto 6, 3) := by decide +kernel
theorem dL_withTeam_39 : decode cL_withTeam 39 = .ok (.aload_n 3, 1) := by decide +kernel
theorem dL_withTeam_40 : decode cL_withTeam 40 = .ok (.iconst 0, 1) := by decide +kernel
theorem dL_withTeam_41 : decode cL_withTeam 41 = .ok (.laload, 1) := by decide +kernel
theorem dL_withTeam_42 : decode cL_withTeam 42 = .ok (.iload 6, 2) := by decide +kernel
theorem dL_withTeam_44 : decode cL_withTeam 44 = .ok (.iconst 1, 1) := by decide +kernel
theorem dL_withTeam_45 : decode cL_withTeam 45 = .ok (.if_icmp .ne 12, 3) := by decide +kernel
theorem dL_withTeam_48 : decode cL_withTeam 48 = .ok (.aload_n 3, 1) := by decide +kernel
theorem dL_withTeam_49 : decode cL_withTeam 49 = .ok (.iconst 1, 1) := by decide +kernel
theorem dL_withTeam_50 : decode cL_withTeam 50 = .ok (.laload, 1) := by decide +kernel
theorem dL_withTeam_51 : decode cL_withTeam 51 = .ok (.lload 7, 2) := by decide +kernel
theorem dL_withTeam_53 : decode cL_withTeam 53 = .ok (.land, 1) := by decide +kernel
theorem dL_withTeam_54 : decode cL_withTeam 54 = .ok (.goto 6, 3) := by decide +kernel
theorem dL_withTeam_57 : decode cL_withTeam 57 = .ok (.aload_n 3, 1) := by decide +kernel
theorem dL_withTeam_58 : decode cL_withTeam 58 = .ok (.iconst 1, 1) := by decide +kernel
theorem dL_withTeam_59 : decode cL_withTeam 59 = .ok (.laload, 1) := by decide +kernel
theorem dL_withTeam_60 : decode cL_withTeam 60 = .ok (.iload 6, 2) := by decide +kernel
theorem dL_withTeam_62 : decode cL_withTeam 62 = .ok (.iconst 2, 1) := by decide +kernel
theorem dL_withTeam_63 : decode cL_withTeam 63 = .ok (.if_icmp .ne 12, 3) := by decide +kernel
theorem dL_withTeam_66 : decode cL_withTeam 66 = .ok (.aload_n 3, 1) := by decide +kernel
theorem dL_withTeam_67 : decode cL_withTeam 67 = .ok (.iconst 2, 1) := by decide +kernel
theorem dL_withTeam_68 : decode cL_withTeam 68 = .ok (.laload, 1) := by decide +kernel
theorem dL_withTeam_69 : decode cL_withTeam 69 = .ok (.lload 7, 2) := by decide +kernel
theorem dL_withTeam_71 : decode cL_withTeam 71 = .ok (.land, 1) := by decide +kernel
theorem dL_withTeam_72 : decode cL_withTeam 72 = .ok (.goto 6, 3) := by decide +kernel
theorem dL_withTeam_75 : decode cL_withTeam 75 = .ok (.aload_n 3, 1) := by decide +kernel
theorem dL_withTeam_76 : decode cL_withTeam 76 = .ok (.iconst 2, 1) := by decide +kernel
theorem dL_withTeam_77 : decode cL_withTeam 77 = .ok (.laload, 1) := by decide +kernel
theorem dL_withTeam_78 : decode cL_withTeam 78 = .ok (.invokestatic 21, 3) := by decide +kernel
theorem dL_withTeam_81 : decode cL_withTeam 81 = .ok (.ireturn, 1) := by decide +kernel
set_option maxRecDepth 20000 in
theorem ggL_lowest_L_withTeam : GoodIn wsL_lowest wsL_withTeam := goodIn_r _ [4, 5, 6, 3, 7, 8, 9, 10] (by decide +kernel) (by decide +kernel)
set_option maxRecDepth 20000 in
theorem gL_lowest_L_withTeam : GoodIn wsL_lowest (va_wsS RL 25 yL_withTeam wsL_withTeam) := goodIn_app (goodIn_of _ (by decide +kernel)) ggL_lowest_L_withTeam
theorem dL_lowest_0 : decode cL_lowest 0 = .ok (.iconst 0, 1) := by decide +kernel
theorem dL_lowest_1 : decode cL_lowest 1 = .ok (.istore 5, 2) := by decide +kernel
theorem dL_lowest_3 : decode cL_lowest 3 = .ok (.iload 5, 2) := by decide +kernel
theorem dL_lowest_5 : decode cL_lowest 5 = .ok (.aload_n 0, 1) := by decide +kernel
theorem dL_lowest_6 : decode cL_lowest 6 = .ok (.iconst 0, 1) := by decide +kernel
theorem dL_lowest_7 : decode cL_lowest 7 = .ok (.iaload, 1) := by decide +kernel
theorem dL_lowest_8 : decode cL_lowest 8 = .ok (.if_icmp .ge 23, 3) := by decide +kernel
theorem dL_lowest_11 : decode cL_lowest 11 = .ok (.aload_n 0, 1) := by decide +kernel
theorem dL_lowest_12 : decode cL_lowest 12 = .ok (.aload_n 1, 1) := by decide +kernel
theorem dL_lowest_13 : decode cL_lowest 13 = .ok (.aload_n 2, 1) := by decide +kernel
theorem dL_lowest_14 : decode cL_lowest 14 = .ok (.aload_n 3, 1) := by decide +kernel
theorem dL_lowest_15 : decode cL_lowest 15 = .ok (.iload 4, 2) := by decide +kernel
theorem dL_lowest_17 : decode cL_lowest 17 = .ok (.iload 5, 2) := by decide +kernel
theorem dL_lowest_19 : decode cL_lowest 19 = .ok (.invokestatic 25, 3) := by decide +kernel
theorem dL_lowest_22 : decode cL_lowest 22 = .ok (.ifCond .ne 9, 3) := by decide +kernel
theorem dL_lowest_25 : decode cL_lowest 25 = .ok (.iinc 5 1, 3) := by decide +kernel
theorem dL_lowest_28 : decode cL_lowest 28 = .ok (.goto (-25), 3) := by decide +kernel
theorem dL_lowest_31 : decode cL_lowest 31 = .ok (.iload 5, 2) := by decide +kernel
theorem dL_lowest_33 : decode cL_lowest 33 = .ok (.ireturn, 1) := by decide +kernel
set_option maxRecDepth 20000 in
theorem ggL_lays_L_orders : GoodIn wsL_lays wsL_orders := goodIn_r _ [4] (by decide +kernel) (by decide +kernel)
set_option maxRecDepth 20000 in
theorem gL_lays_L_orders : GoodIn wsL_lays (va_wsS RL 29 yL_orders wsL_orders) := goodIn_app (goodIn_of _ (by decide +kernel)) ggL_lays_L_orders
theorem dL_lays_0 : decode cL_lays 0 = .ok (.aload_n 3, 1) := by decide +kernel
theorem dL_lays_1 : decode cL_lays 1 = .ok (.iconst 0, 1) := by decide +kernel
theorem dL_lays_2 : decode cL_lays 2 = .ok (.aload_n 0, 1) := by decide +kernel
theorem dL_lays_3 : decode cL_lays 3 = .ok (.aload_n 1, 1) := by decide +kernel
theorem dL_lays_4 : decode cL_lays 4 = .ok (.aload_n 2, 1) := by decide +kernel
theorem dL_lays_5 : decode cL_lays 5 = .ok (.iconst 0, 1) := by decide +kernel
theorem dL_lays_6 : decode cL_lays 6 = .ok (.invokestatic 29, 3) := by decide +kernel
theorem dL_lays_9 : decode cL_lays 9 = .ok (.lastore, 1) := by decide +kernel
theorem dL_lays_10 : decode cL_lays 10 = .ok (.aload_n 3, 1) := by decide +kernel
theorem dL_lays_11 : decode cL_lays 11 = .ok (.iconst 1, 1) := by decide +kernel
theorem dL_lays_12 : decode cL_lays 12 = .ok (.aload_n 0, 1) := by decide +kernel
theorem dL_lays_13 : decode cL_lays 13 = .ok (.aload_n 1, 1) := by decide +kernel
theorem dL_lays_14 : decode cL_lays 14 = .ok (.aload_n 2, 1) := by decide +kernel
theorem dL_lays_15 : decode cL_lays 15 = .ok (.iconst 1, 1) := by decide +kernel
theorem dL_lays_16 : decode cL_lays 16 = .ok (.invokestatic 29, 3) := by decide +kernel
theorem dL_lays_19 : decode cL_lays 19 = .ok (.lastore, 1) := by decide +kernel
theorem dL_lays_20 : decode cL_lays 20 = .ok (.aload_n 3, 1) := by decide +kernel
theorem dL_lays_21 : decode cL_lays 21 = .ok (.iconst 2, 1) := by decide +kernel
theorem dL_lays_22 : decode cL_lays 22 = .ok (.aload_n 0, 1) := by decide +kernel
theorem dL_lays_23 : decode cL_lays 23 = .ok (.aload_n 1, 1) := by decide +kernel
theorem dL_lays_24 : decode cL_lays 24 = .ok (.aload_n 2, 1) := by decide +kernel
theorem dL_lays_25 : decode cL_lays 25 = .ok (.iconst 2, 1) := by decide +kernel
theorem dL_lays_26 : decode cL_lays 26 = .ok (.invokestatic 29, 3) := by decide +kernel
theorem dL_lays_29 : decode cL_lays 29 = .ok (.lastore, 1) := by decide +kernel
theorem dL_lays_30 : decode cL_lays 30 = .ok (.return_, 1) := by decide +kernel
theorem dL_left_0 : decode cL_left 0 = .ok (.iconst 0, 1) := by decide +kernel
theorem dL_left_1 : decode cL_left 1 = .ok (.istore_n 3, 1) := by decide +kernel
theorem dL_left_2 : decode cL_left 2 = .ok (.iconst 0, 1) := by decide +kernel
theorem dL_left_3 : decode cL_left 3 = .ok (.istore 4, 2) := by decide +kernel
theorem dL_left_5 : decode cL_left 5 = .ok (.iload 4, 2) := by decide +kernel
theorem dL_left_7 : decode cL_left 7 = .ok (.aload_n 0, 1) := by decide +kernel
theorem dL_left_8 : decode cL_left 8 = .ok (.iconst 0, 1) := by decide +kernel
theorem dL_left_9 : decode cL_left 9 = .ok (.iaload, 1) := by decide +kernel
theorem dL_left_10 : decode cL_left 10 = .ok (.if_icmp .ge 30, 3) := by decide +kernel
theorem dL_left_13 : decode cL_left 13 = .ok (.iload_n 3, 1) := by decide +kernel
theorem dL_left_14 : decode cL_left 14 = .ok (.aload_n 1, 1) := by decide +kernel
theorem dL_left_15 : decode cL_left 15 = .ok (.aload_n 0, 1) := by decide +kernel
theorem dL_left_16 : decode cL_left 16 = .ok (.iconst 0, 1) := by decide +kernel
theorem dL_left_17 : decode cL_left 17 = .ok (.iaload, 1) := by decide +kernel
theorem dL_left_18 : decode cL_left 18 = .ok (.iload_n 2, 1) := by decide +kernel
theorem dL_left_19 : decode cL_left 19 = .ok (.imul, 1) := by decide +kernel
theorem dL_left_20 : decode cL_left 20 = .ok (.iload 4, 2) := by decide +kernel
theorem dL_left_22 : decode cL_left 22 = .ok (.iadd, 1) := by decide +kernel
theorem dL_left_23 : decode cL_left 23 = .ok (.iaload, 1) := by decide +kernel
theorem dL_left_24 : decode cL_left 24 = .ok (.ifCond .ge 7, 3) := by decide +kernel
theorem dL_left_27 : decode cL_left 27 = .ok (.iconst 1, 1) := by decide +kernel
theorem dL_left_28 : decode cL_left 28 = .ok (.goto 4, 3) := by decide +kernel
theorem dL_left_31 : decode cL_left 31 = .ok (.iconst 0, 1) := by decide +kernel
theorem dL_left_32 : decode cL_left 32 = .ok (.iadd, 1) := by decide +kernel
theorem dL_left_33 : decode cL_left 33 = .ok (.istore_n 3, 1) := by decide +kernel
theorem dL_left_34 : decode cL_left 34 = .ok (.iinc 4 1, 3) := by decide +kernel
theorem dL_left_37 : decode cL_left 37 = .ok (.goto (-32), 3) := by decide +kernel
theorem dL_left_40 : decode cL_left 40 = .ok (.iload_n 3, 1) := by decide +kernel
theorem dL_left_41 : decode cL_left 41 = .ok (.ireturn, 1) := by decide +kernel
theorem dL_product_0 : decode cL_product 0 = .ok (.iload_n 0, 1) := by decide +kernel
theorem dL_product_1 : decode cL_product 1 = .ok (.iconst 2, 1) := by decide +kernel
theorem dL_product_2 : decode cL_product 2 = .ok (.if_icmp .ge 7, 3) := by decide +kernel
theorem dL_product_5 : decode cL_product 5 = .ok (.iconst 1, 1) := by decide +kernel
theorem dL_product_6 : decode cL_product 6 = .ok (.goto 24, 3) := by decide +kernel
theorem dL_product_9 : decode cL_product 9 = .ok (.iload_n 0, 1) := by decide +kernel
theorem dL_product_10 : decode cL_product 10 = .ok (.iconst 2, 1) := by decide +kernel
theorem dL_product_11 : decode cL_product 11 = .ok (.if_icmp .ne 7, 3) := by decide +kernel
theorem dL_product_14 : decode cL_product 14 = .ok (.iconst 2, 1) := by decide +kernel
theorem dL_product_15 : decode cL_product 15 = .ok (.goto 15, 3) := by decide +kernel
theorem dL_product_18 : decode cL_product 18 = .ok (.iload_n 0, 1) := by decide +kernel
theorem dL_product_19 : decode cL_product 19 = .ok (.iconst 3, 1) := by decide +kernel
theorem dL_product_20 : decode cL_product 20 = .ok (.if_icmp .ne 8, 3) := by decide +kernel
theorem dL_product_23 : decode cL_product 23 = .ok (.bipush 6, 2) := by decide +kernel
theorem dL_product_25 : decode cL_product 25 = .ok (.goto 5, 3) := by decide +kernel
theorem dL_product_28 : decode cL_product 28 = .ok (.bipush 24, 2) := by decide +kernel
theorem dL_product_30 : decode cL_product 30 = .ok (.ireturn, 1) := by decide +kernel
set_option maxRecDepth 20000 in
theorem ggL_all_L_left : GoodIn wsL_all wsL_left := goodIn_r _ [4] (by decide +kernel) (by decide +kernel)
set_option maxRecDepth 20000 in
theorem gL_all_L_left : GoodIn wsL_all (va_wsS RL 33 yL_left wsL_left) := goodIn_app (goodIn_of _ (by decide +kernel)) ggL_all_L_left
set_option maxRecDepth 20000 in
theorem ggL_all_L_product : GoodIn wsL_all wsL_product := goodIn_r _ [7] (by decide +kernel) (by decide +kernel)
set_option maxRecDepth 20000 in
theorem gL_all_L_product : GoodIn wsL_all (va_wsS RL 37 yL_product wsL_product) := goodIn_app (goodIn_of _ (by decide +kernel)) ggL_all_L_product
theorem dL_all_0 : decode cL_all 0 = .ok (.iconst 1, 1) := by decide +kernel
theorem dL_all_1 : decode cL_all 1 = .ok (.istore_n 2, 1) := by decide +kernel
theorem dL_all_2 : decode cL_all 2 = .ok (.iconst 0, 1) := by decide +kernel
theorem dL_all_3 : decode cL_all 3 = .ok (.istore_n 3, 1) := by decide +kernel
theorem dL_all_4 : decode cL_all 4 = .ok (.iload_n 3, 1) := by decide +kernel
theorem dL_all_5 : decode cL_all 5 = .ok (.aload_n 0, 1) := by decide +kernel
theorem dL_all_6 : decode cL_all 6 = .ok (.iconst 1, 1) := by decide +kernel
theorem dL_all_7 : decode cL_all 7 = .ok (.iaload, 1) := by decide +kernel
theorem dL_all_8 : decode cL_all 8 = .ok (.if_icmp .ge 21, 3) := by decide +kernel
theorem dL_all_11 : decode cL_all 11 = .ok (.iload_n 2, 1) := by decide +kernel
theorem dL_all_12 : decode cL_all 12 = .ok (.aload_n 0, 1) := by decide +kernel
theorem dL_all_13 : decode cL_all 13 = .ok (.aload_n 1, 1) := by decide +kernel
theorem dL_all_14 : decode cL_all 14 = .ok (.iload_n 3, 1) := by decide +kernel
theorem dL_all_15 : decode cL_all 15 = .ok (.invokestatic 33, 3) := by decide +kernel
theorem dL_all_18 : decode cL_all 18 = .ok (.invokestatic 37, 3) := by decide +kernel
theorem dL_all_21 : decode cL_all 21 = .ok (.imul, 1) := by decide +kernel
theorem dL_all_22 : decode cL_all 22 = .ok (.istore_n 2, 1) := by decide +kernel
theorem dL_all_23 : decode cL_all 23 = .ok (.iinc 3 1, 3) := by decide +kernel
theorem dL_all_26 : decode cL_all 26 = .ok (.goto (-22), 3) := by decide +kernel
theorem dL_all_29 : decode cL_all 29 = .ok (.iload_n 2, 1) := by decide +kernel
theorem dL_all_30 : decode cL_all 30 = .ok (.ireturn, 1) := by decide +kernel
set_option maxRecDepth 20000 in
theorem ggL_follows_L_lays : GoodIn wsL_follows wsL_lays := goodIn_r _ [5, 6, 7, 4, 8] (by decide +kernel) (by decide +kernel)
set_option maxRecDepth 20000 in
theorem gL_follows_L_lays : GoodIn wsL_follows (va_wsS RL 41 yL_lays wsL_lays) := goodIn_app (goodIn_of _ (by decide +kernel)) ggL_follows_L_lays
set_option maxRecDepth 20000 in
theorem ggL_follows_L_left : GoodIn wsL_follows wsL_left := goodIn_r _ [11] (by decide +kernel) (by decide +kernel)
set_option maxRecDepth 20000 in
theorem gL_follows_L_left : GoodIn wsL_follows (va_wsS RL 33 yL_left wsL_left) := goodIn_app (goodIn_of _ (by decide +kernel)) ggL_follows_L_left
set_option maxRecDepth 20000 in
theorem ggL_follows_L_product : GoodIn wsL_follows wsL_product := goodIn_r _ [14] (by decide +kernel) (by decide +kernel)
set_option maxRecDepth 20000 in
theorem gL_follows_L_product : GoodIn wsL_follows (va_wsS RL 37 yL_product wsL_product) := goodIn_app (goodIn_of _ (by decide +kernel)) ggL_follows_L_product
set_option maxRecDepth 20000 in
theorem ggL_follows_L_at : GoodIn wsL_follows wsL_at := goodIn_r _ [17] (by decide +kernel) (by decide +kernel)
set_option maxRecDepth 20000 in
theorem gL_follows_L_at : GoodIn wsL_follows (va_wsS RL 7 yL_at wsL_at) := goodIn_app (goodIn_of _ (by decide +kernel)) ggL_follows_L_at
set_option maxRecDepth 20000 in
theorem ggL_follows_L_lowest : GoodIn wsL_follows wsL_lowest := goodIn_r _ [20, 21, 22, 4, 23, 24, 25, 26, 27, 28, 29] (by decide +kernel) (by decide +kernel)
set_option maxRecDepth 20000 in
theorem gL_follows_L_lowest : GoodIn wsL_follows (va_wsS RL 45 yL_lowest wsL_lowest) := goodIn_app (goodIn_of _ (by decide +kernel)) ggL_follows_L_lowest
theorem dL_follows_0 : decode cL_follows 0 = .ok (.iconst 3, 1) := by decide +kernel
theorem dL_follows_1 : decode cL_follows 1 = .ok (.newarray .long, 2) := by decide +kernel
theorem dL_follows_3 : decode cL_follows 3 = .ok (.astore 6, 2) := by decide +kernel
theorem dL_follows_5 : decode cL_follows 5 = .ok (.aload_n 0, 1) := by decide +kernel
theorem dL_follows_6 : decode cL_follows 6 = .ok (.aload_n 1, 1) := by decide +kernel
theorem dL_follows_7 : decode cL_follows 7 = .ok (.aload_n 3, 1) := by decide +kernel
theorem dL_follows_8 : decode cL_follows 8 = .ok (.aload 6, 2) := by decide +kernel
theorem dL_follows_10 : decode cL_follows 10 = .ok (.invokestatic 41, 3) := by decide +kernel
theorem dL_follows_13 : decode cL_follows 13 = .ok (.iload 4, 2) := by decide +kernel
theorem dL_follows_15 : decode cL_follows 15 = .ok (.istore 7, 2) := by decide +kernel
theorem dL_follows_17 : decode cL_follows 17 = .ok (.iconst 0, 1) := by decide +kernel
theorem dL_follows_18 : decode cL_follows 18 = .ok (.istore 8, 2) := by decide +kernel
theorem dL_follows_20 : decode cL_follows 20 = .ok (.iload 8, 2) := by decide +kernel
theorem dL_follows_22 : decode cL_follows 22 = .ok (.aload_n 0, 1) := by decide +kernel
theorem dL_follows_23 : decode cL_follows 23 = .ok (.iconst 1, 1) := by decide +kernel
theorem dL_follows_24 : decode cL_follows 24 = .ok (.iaload, 1) := by decide +kernel
theorem dL_follows_25 : decode cL_follows 25 = .ok (.if_icmp .ge 147, 3) := by decide +kernel
theorem dL_follows_28 : decode cL_follows 28 = .ok (.aload_n 0, 1) := by decide +kernel
theorem dL_follows_29 : decode cL_follows 29 = .ok (.aload_n 1, 1) := by decide +kernel
theorem dL_follows_30 : decode cL_follows 30 = .ok (.iload 8, 2) := by decide +kernel
theorem dL_follows_32 : decode cL_follows 32 = .ok (.invokestatic 33, 3) := by decide +kernel
theorem dL_follows_35 : decode cL_follows 35 = .ok (.istore 9, 2) := by decide +kernel
theorem dL_follows_37 : decode cL_follows 37 = .ok (.iload 7, 2) := by decide +kernel
theorem dL_follows_39 : decode cL_follows 39 = .ok (.iload 9, 2) := by decide +kernel
theorem dL_follows_41 : decode cL_follows 41 = .ok (.invokestatic 37, 3) := by decide +kernel
theorem dL_follows_44 : decode cL_follows 44 = .ok (.irem, 1) := by decide +kernel
theorem dL_follows_45 : decode cL_follows 45 = .ok (.istore 10, 2) := by decide +kernel
theorem dL_follows_47 : decode cL_follows 47 = .ok (.iload 7, 2) := by decide +kernel
theorem dL_follows_49 : decode cL_follows 49 = .ok (.iload 9, 2) := by decide +kernel
theorem dL_follows_51 : decode cL_follows 51 = .ok (.invokestatic 37, 3) := by decide +kernel
theorem dL_follows_54 : decode cL_follows 54 = .ok (.idiv, 1) := by decide +kernel
theorem dL_follows_55 : decode cL_follows 55 = .ok (.istore 7, 2) := by decide +kernel
theorem dL_follows_57 : decode cL_follows 57 = .ok (.iconst 0, 1) := by decide +kernel
theorem dL_follows_58 : decode cL_follows 58 = .ok (.istore 11, 2) := by decide +kernel
theorem dL_follows_60 : decode cL_follows 60 = .ok (.iload 11, 2) := by decide +kernel
theorem dL_follows_62 : decode cL_follows 62 = .ok (.iload 9, 2) := by decide +kernel
theorem dL_follows_64 : decode cL_follows 64 = .ok (.if_icmp .ge 102, 3) := by decide +kernel
theorem dL_follows_67 : decode cL_follows 67 = .ok (.iload 9, 2) := by decide +kernel
theorem dL_follows_69 : decode cL_follows 69 = .ok (.iload 10, 2) := by decide +kernel
theorem dL_follows_71 : decode cL_follows 71 = .ok (.iload 11, 2) := by decide +kernel
theorem dL_follows_73 : decode cL_follows 73 = .ok (.invokestatic 7, 3) := by decide +kernel
theorem dL_follows_76 : decode cL_follows 76 = .ok (.istore 12, 2) := by decide +kernel
theorem dL_follows_78 : decode cL_follows 78 = .ok (.aload_n 0, 1) := by decide +kernel
theorem dL_follows_79 : decode cL_follows 79 = .ok (.iconst 0, 1) := by decide +kernel
theorem dL_follows_80 : decode cL_follows 80 = .ok (.iaload, 1) := by decide +kernel
theorem dL_follows_81 : decode cL_follows 81 = .ok (.iload 8, 2) := by decide +kernel
theorem dL_follows_83 : decode cL_follows 83 = .ok (.imul, 1) := by decide +kernel
theorem dL_follows_84 : decode cL_follows 84 = .ok (.istore 13, 2) := by decide +kernel
theorem dL_follows_86 : decode cL_follows 86 = .ok (.aload_n 1, 1) := by decide +kernel
theorem dL_follows_87 : decode cL_follows 87 = .ok (.iload 13, 2) := by decide +kernel
theorem dL_follows_89 : decode cL_follows 89 = .ok (.iaload, 1) := by decide +kernel
theorem dL_follows_90 : decode cL_follows 90 = .ok (.ifCond .ge 8, 3) := by decide +kernel
theorem dL_follows_93 : decode cL_follows 93 = .ok (.iload 12, 2) := by decide +kernel
theorem dL_follows_95 : decode cL_follows 95 = .ok (.ifCond .le 26, 3) := by decide +kernel
theorem dL_follows_98 : decode cL_follows 98 = .ok (.iload 12, 2) := by decide +kernel
theorem dL_follows_100 : decode cL_follows 100 = .ok (.aload_n 1, 1) := by decide +kernel
theorem dL_follows_101 : decode cL_follows 101 = .ok (.iload 13, 2) := by decide +kernel
theorem dL_follows_103 : decode cL_follows 103 = .ok (.iaload, 1) := by decide +kernel
theorem dL_follows_104 : decode cL_follows 104 = .ok (.ifCond .lt 7, 3) := by decide +kernel
theorem dL_follows_107 : decode cL_follows 107 = .ok (.iconst 0, 1) := by decide +kernel
theorem dL_follows_108 : decode cL_follows 108 = .ok (.goto 4, 3) := by decide +kernel
theorem dL_follows_111 : decode cL_follows 111 = .ok (.iconst 1, 1) := by decide +kernel
theorem dL_follows_112 : decode cL_follows 112 = .ok (.isub, 1) := by decide +kernel
theorem dL_follows_113 : decode cL_follows 113 = .ok (.istore 12, 2) := by decide +kernel
theorem dL_follows_115 : decode cL_follows 115 = .ok (.iinc 13 1, 3) := by decide +kernel
theorem dL_follows_118 : decode cL_follows 118 = .ok (.goto (-32), 3) := by decide +kernel
theorem dL_follows_121 : decode cL_follows 121 = .ok (.aload 5, 2) := by decide +kernel
theorem dL_follows_123 : decode cL_follows 123 = .ok (.iload 13, 2) := by decide +kernel
theorem dL_follows_125 : decode cL_follows 125 = .ok (.aload_n 0, 1) := by decide +kernel
theorem dL_follows_126 : decode cL_follows 126 = .ok (.aload_n 2, 1) := by decide +kernel
theorem dL_follows_127 : decode cL_follows 127 = .ok (.aload_n 3, 1) := by decide +kernel
theorem dL_follows_128 : decode cL_follows 128 = .ok (.aload 6, 2) := by decide +kernel
theorem dL_follows_130 : decode cL_follows 130 = .ok (.iload 13, 2) := by decide +kernel
theorem dL_follows_132 : decode cL_follows 132 = .ok (.invokestatic 45, 3) := by decide +kernel
theorem dL_follows_135 : decode cL_follows 135 = .ok (.iastore, 1) := by decide +kernel
theorem dL_follows_136 : decode cL_follows 136 = .ok (.aload 6, 2) := by decide +kernel
theorem dL_follows_138 : decode cL_follows 138 = .ok (.iload 8, 2) := by decide +kernel
theorem dL_follows_140 : decode cL_follows 140 = .ok (.dup2, 1) := by decide +kernel
theorem dL_follows_141 : decode cL_follows 141 = .ok (.laload, 1) := by decide +kernel
theorem dL_follows_142 : decode cL_follows 142 = .ok (.aload_n 3, 1) := by decide +kernel
theorem dL_follows_143 : decode cL_follows 143 = .ok (.iconst 4, 1) := by decide +kernel
theorem dL_follows_144 : decode cL_follows 144 = .ok (.iload 13, 2) := by decide +kernel
theorem dL_follows_146 : decode cL_follows 146 = .ok (.aload_n 0, 1) := by decide +kernel
theorem dL_follows_147 : decode cL_follows 147 = .ok (.iconst 0, 1) := by decide +kernel
theorem dL_follows_148 : decode cL_follows 148 = .ok (.iaload, 1) := by decide +kernel
theorem dL_follows_149 : decode cL_follows 149 = .ok (.irem, 1) := by decide +kernel
theorem dL_follows_150 : decode cL_follows 150 = .ok (.imul, 1) := by decide +kernel
theorem dL_follows_151 : decode cL_follows 151 = .ok (.aload 5, 2) := by decide +kernel
theorem dL_follows_153 : decode cL_follows 153 = .ok (.iload 13, 2) := by decide +kernel
theorem dL_follows_155 : decode cL_follows 155 = .ok (.iaload, 1) := by decide +kernel
theorem dL_follows_156 : decode cL_follows 156 = .ok (.iadd, 1) := by decide +kernel
theorem dL_follows_157 : decode cL_follows 157 = .ok (.laload, 1) := by decide +kernel
theorem dL_follows_158 : decode cL_follows 158 = .ok (.land, 1) := by decide +kernel
theorem dL_follows_159 : decode cL_follows 159 = .ok (.lastore, 1) := by decide +kernel
theorem dL_follows_160 : decode cL_follows 160 = .ok (.iinc 11 1, 3) := by decide +kernel
theorem dL_follows_163 : decode cL_follows 163 = .ok (.goto (-103), 3) := by decide +kernel
theorem dL_follows_166 : decode cL_follows 166 = .ok (.iinc 8 1, 3) := by decide +kernel
theorem dL_follows_169 : decode cL_follows 169 = .ok (.goto (-149), 3) := by decide +kernel
theorem dL_follows_172 : decode cL_follows 172 = .ok (.iconst 0, 1) := by decide +kernel
theorem dL_follows_173 : decode cL_follows 173 = .ok (.istore 8, 2) := by decide +kernel
theorem dL_follows_175 : decode cL_follows 175 = .ok (.iload 8, 2) := by decide +kernel
theorem dL_follows_177 : decode cL_follows 177 = .ok (.aload_n 0, 1) := by decide +kernel
theorem dL_follows_178 : decode cL_follows 178 = .ok (.iconst 0, 1) := by decide +kernel
theorem dL_follows_179 : decode cL_follows 179 = .ok (.iaload, 1) := by decide +kernel
theorem dL_follows_180 : decode cL_follows 180 = .ok (.aload_n 0, 1) := by decide +kernel
theorem dL_follows_181 : decode cL_follows 181 = .ok (.iconst 1, 1) := by decide +kernel
theorem dL_follows_182 : decode cL_follows 182 = .ok (.iaload, 1) := by decide +kernel
theorem dL_follows_183 : decode cL_follows 183 = .ok (.imul, 1) := by decide +kernel
theorem dL_follows_184 : decode cL_follows 184 = .ok (.if_icmp .ge 33, 3) := by decide +kernel
theorem dL_follows_187 : decode cL_follows 187 = .ok (.aload 5, 2) := by decide +kernel
theorem dL_follows_189 : decode cL_follows 189 = .ok (.iload 8, 2) := by decide +kernel
theorem dL_follows_191 : decode cL_follows 191 = .ok (.aload_n 1, 1) := by decide +kernel
theorem dL_follows_192 : decode cL_follows 192 = .ok (.iload 8, 2) := by decide +kernel
theorem dL_follows_194 : decode cL_follows 194 = .ok (.iaload, 1) := by decide +kernel
theorem dL_follows_195 : decode cL_follows 195 = .ok (.ifCond .lt 10, 3) := by decide +kernel
theorem dL_follows_198 : decode cL_follows 198 = .ok (.aload_n 1, 1) := by decide +kernel
theorem dL_follows_199 : decode cL_follows 199 = .ok (.iload 8, 2) := by decide +kernel
theorem dL_follows_201 : decode cL_follows 201 = .ok (.iaload, 1) := by decide +kernel
theorem dL_follows_202 : decode cL_follows 202 = .ok (.goto 8, 3) := by decide +kernel
theorem dL_follows_205 : decode cL_follows 205 = .ok (.aload 5, 2) := by decide +kernel
theorem dL_follows_207 : decode cL_follows 207 = .ok (.iload 8, 2) := by decide +kernel
theorem dL_follows_209 : decode cL_follows 209 = .ok (.iaload, 1) := by decide +kernel
theorem dL_follows_210 : decode cL_follows 210 = .ok (.iastore, 1) := by decide +kernel
theorem dL_follows_211 : decode cL_follows 211 = .ok (.iinc 8 1, 3) := by decide +kernel
theorem dL_follows_214 : decode cL_follows 214 = .ok (.goto (-39), 3) := by decide +kernel
theorem dL_follows_217 : decode cL_follows 217 = .ok (.return_, 1) := by decide +kernel
set_option maxRecDepth 20000 in
theorem ggL_does_X2_setRegion : GoodIn wsL_does wsX2_setRegion := goodIn_ca (goodIn_ca (goodIn_r _ [7, 8, 9, 10, 11, 12, 13, 14, 15, 16, 17, 18, 19, 20, 21, 22, 23, 6, 24, 25, 26, 27, 28, 29, 30, 31, 32, 33, 136, 137, 138, 139, 140, 141, 142, 143, 144, 145, 146, 147, 148, 149, 150, 151, 152, 153] (by decide +kernel) (by decide +kernel)) (goodIn_sub (fun _ h => List.mem_cons_of_mem _ (List.mem_append_left _ (List.mem_append_left _ (List.mem_append_right _ h)))) (by decide +kernel))) (goodIn_sub (fun _ h => List.mem_cons_of_mem _ (List.mem_append_left _ (List.mem_append_right _ h))) (by decide +kernel))
set_option maxRecDepth 20000 in
theorem gL_does_X2_setRegion : GoodIn wsL_does (wsV RL 49 RX2 yX2_setRegion wsX2_setRegion) := goodIn_app (goodIn_of _ (by decide +kernel)) ggL_does_X2_setRegion
set_option maxRecDepth 20000 in
theorem ggL_does_X2_setBound : GoodIn wsL_does wsX2_setBound := goodIn_ca (goodIn_ca (goodIn_ca (goodIn_r _ [37, 8, 9, 38, 39, 10, 17, 18, 19, 14, 20, 21, 22, 23, 6, 24, 25, 26, 27, 28, 29, 30, 31, 32, 33, 136, 137, 138, 139, 140, 141, 142, 143, 144, 145, 146, 147, 148, 149, 150, 151, 152, 153] (by decide +kernel) (by decide +kernel)) (goodIn_sub (fun _ h => List.mem_cons_of_mem _ (List.mem_append_left _ (List.mem_append_left _ (List.mem_append_right _ h)))) (by decide +kernel))) (goodIn_sub (fun _ h => List.mem_cons_of_mem _ (List.mem_append_right _ h)) (by decide +kernel))) (goodIn_sub (fun _ h => List.mem_cons_of_mem _ (List.mem_append_left _ (List.mem_append_right _ h))) (by decide +kernel))
set_option maxRecDepth 20000 in
theorem gL_does_X2_setBound : GoodIn wsL_does (wsV RL 55 RX2 yX2_setBound wsX2_setBound) := goodIn_app (goodIn_of _ (by decide +kernel)) ggL_does_X2_setBound
set_option maxRecDepth 20000 in
theorem ggL_does_X2_draw : GoodIn wsL_does wsX2_draw := goodIn_ca (goodIn_ca (goodIn_r _ [43, 25, 26, 8, 9, 27, 10, 33, 44, 45, 46, 47, 6, 48, 32, 49, 50, 51, 52, 53, 54, 55, 56, 57, 58, 14, 59, 60, 61, 62, 63, 16, 64, 65, 66, 67, 68, 69, 70, 71, 72, 73, 74, 75, 76, 77, 78, 79, 80, 81, 82, 83, 84, 85, 86, 87, 88, 89, 90, 91, 92, 93, 94, 95, 96, 97, 98, 99, 100, 101, 102, 103, 104, 105, 106, 107, 108, 109, 110, 111, 112, 113, 114, 115, 116, 117, 118, 119, 120, 121, 122, 123, 136, 137, 138, 139, 140, 141, 142, 143, 144, 145, 146, 147, 148, 149, 150, 151, 152, 153, 154, 155] (by decide +kernel) (by decide +kernel)) (goodIn_sub (fun _ h => List.mem_cons_of_mem _ (List.mem_append_left _ (List.mem_append_right _ h))) (by decide +kernel))) (goodIn_sub (fun _ h => List.mem_cons_of_mem _ (List.mem_append_left _ (List.mem_append_left _ (List.mem_append_right _ h)))) (by decide +kernel))
set_option maxRecDepth 20000 in
theorem gL_does_X2_draw : GoodIn wsL_does (wsV RL 58 RX2 yX2_draw wsX2_draw) := goodIn_app (goodIn_of _ (by decide +kernel)) ggL_does_X2_draw
set_option maxRecDepth 20000 in
theorem ggL_does_X2_undo : GoodIn wsL_does wsX2_undo := goodIn_ca (goodIn_r _ [127, 25, 26, 27, 33, 128, 129, 130, 6, 131, 112, 44, 49, 111, 132, 133, 134, 53, 135, 55, 136, 137, 138, 139, 140, 141, 142, 143, 144, 154, 155] (by decide +kernel) (by decide +kernel)) (goodIn_sub (fun _ h => List.mem_cons_of_mem _ (List.mem_append_left _ (List.mem_append_right _ h))) (by decide +kernel))
set_option maxRecDepth 20000 in
theorem gL_does_X2_undo : GoodIn wsL_does (wsV RL 61 RX2 yX2_undo wsX2_undo) := goodIn_app (goodIn_of _ (by decide +kernel)) ggL_does_X2_undo
theorem dL_does_0 : decode cL_does 0 = .ok (.iload_n 1, 1) := by decide +kernel
theorem dL_does_1 : decode cL_does 1 = .ok (.ifCond .ne 12, 3) := by decide +kernel
theorem dL_does_4 : decode cL_does 4 = .ok (.aload_n 0, 1) := by decide +kernel
theorem dL_does_5 : decode cL_does 5 = .ok (.iload_n 2, 1) := by decide +kernel
theorem dL_does_6 : decode cL_does 6 = .ok (.iload_n 3, 1) := by decide +kernel
theorem dL_does_7 : decode cL_does 7 = .ok (.invokevirtual 49, 3) := by decide +kernel
theorem dL_does_10 : decode cL_does 10 = .ok (.goto 34, 3) := by decide +kernel
theorem dL_does_13 : decode cL_does 13 = .ok (.iload_n 1, 1) := by decide +kernel
theorem dL_does_14 : decode cL_does 14 = .ok (.iconst 1, 1) := by decide +kernel
theorem dL_does_15 : decode cL_does 15 = .ok (.if_icmp .ne 12, 3) := by decide +kernel
theorem dL_does_18 : decode cL_does 18 = .ok (.aload_n 0, 1) := by decide +kernel
theorem dL_does_19 : decode cL_does 19 = .ok (.iload_n 2, 1) := by decide +kernel
theorem dL_does_20 : decode cL_does 20 = .ok (.iload_n 3, 1) := by decide +kernel
theorem dL_does_21 : decode cL_does 21 = .ok (.invokevirtual 55, 3) := by decide +kernel
theorem dL_does_24 : decode cL_does 24 = .ok (.goto 20, 3) := by decide +kernel
theorem dL_does_27 : decode cL_does 27 = .ok (.iload_n 1, 1) := by decide +kernel
theorem dL_does_28 : decode cL_does 28 = .ok (.iconst 2, 1) := by decide +kernel
theorem dL_does_29 : decode cL_does 29 = .ok (.if_icmp .ne 11, 3) := by decide +kernel
theorem dL_does_32 : decode cL_does 32 = .ok (.aload_n 0, 1) := by decide +kernel
theorem dL_does_33 : decode cL_does 33 = .ok (.iload_n 2, 1) := by decide +kernel
theorem dL_does_34 : decode cL_does 34 = .ok (.invokevirtual 58, 3) := by decide +kernel
theorem dL_does_37 : decode cL_does 37 = .ok (.goto 7, 3) := by decide +kernel
theorem dL_does_40 : decode cL_does 40 = .ok (.aload_n 0, 1) := by decide +kernel
theorem dL_does_41 : decode cL_does 41 = .ok (.invokevirtual 61, 3) := by decide +kernel
theorem dL_does_44 : decode cL_does 44 = .ok (.ireturn, 1) := by decide +kernel
theorem dL_does_45 : decode cL_does 45 = .ok (.astore 4, 2) := by decide +kernel
theorem dL_does_47 : decode cL_does 47 = .ok (.bipush (-13), 2) := by decide +kernel
theorem dL_does_49 : decode cL_does 49 = .ok (.ireturn, 1) := by decide +kernel
theorem dL_does_50 : decode cL_does 50 = .ok (.astore 4, 2) := by decide +kernel
theorem dL_does_52 : decode cL_does 52 = .ok (.bipush (-11), 2) := by decide +kernel
theorem dL_does_54 : decode cL_does 54 = .ok (.ireturn, 1) := by decide +kernel
set_option maxRecDepth 20000 in
theorem ggL_pairs_X2_setApart : GoodIn wsL_pairs wsX2_setApart := goodIn_ca (goodIn_ca (goodIn_ca (goodIn_r _ [7, 8, 9, 10, 11, 6, 12, 13, 14, 15, 16, 17, 18, 19, 20, 21, 22, 23, 24, 25, 26, 27, 28, 29, 30, 31, 32, 33, 34, 35, 36, 37, 38, 39, 40, 41, 42, 47, 48, 49, 50, 51, 52, 53, 54, 55, 56, 57, 58, 59, 60, 61, 62, 63, 64] (by decide +kernel) (by decide +kernel)) (goodIn_sub (fun _ h => List.mem_cons_of_mem _ (List.mem_append_left _ (List.mem_append_left _ (List.mem_append_right _ h)))) (by decide +kernel))) (goodIn_sub (fun _ h => List.mem_cons_of_mem _ (List.mem_append_left _ (List.mem_append_right _ h))) (by decide +kernel))) (goodIn_sub (fun _ h => List.mem_cons_of_mem _ (List.mem_append_right _ h)) (by decide +kernel))
set_option maxRecDepth 20000 in
theorem gL_pairs_X2_setApart : GoodIn wsL_pairs (wsV RL 69 RX2 yX2_setApart wsX2_setApart) := goodIn_app (goodIn_of _ (by decide +kernel)) ggL_pairs_X2_setApart
set_option maxRecDepth 20000 in
theorem ggL_pairs_X2_setOtherDays : GoodIn wsL_pairs wsX2_setOtherDays := goodIn_ca (goodIn_ca (goodIn_ca (goodIn_r _ [46, 8, 9, 10, 11, 6, 12, 13, 14, 15, 16, 17, 18, 19, 20, 21, 22, 23, 24, 25, 26, 27, 28, 29, 30, 31, 32, 33, 34, 35, 36, 37, 38, 39, 40, 41, 42, 47, 48, 49, 50, 51, 52, 53, 54, 55, 56, 57, 58, 59, 60, 61, 62, 63, 64] (by decide +kernel) (by decide +kernel)) (goodIn_sub (fun _ h => List.mem_cons_of_mem _ (List.mem_append_left _ (List.mem_append_left _ (List.mem_append_right _ h)))) (by decide +kernel))) (goodIn_sub (fun _ h => List.mem_cons_of_mem _ (List.mem_append_left _ (List.mem_append_right _ h))) (by decide +kernel))) (goodIn_sub (fun _ h => List.mem_cons_of_mem _ (List.mem_append_right _ h)) (by decide +kernel))
set_option maxRecDepth 20000 in
theorem gL_pairs_X2_setOtherDays : GoodIn wsL_pairs (wsV RL 73 RX2 yX2_setOtherDays wsX2_setOtherDays) := goodIn_app (goodIn_of _ (by decide +kernel)) ggL_pairs_X2_setOtherDays
theorem dL_pairs_0 : decode cL_pairs 0 = .ok (.iload_n 1, 1) := by decide +kernel
theorem dL_pairs_1 : decode cL_pairs 1 = .ok (.ifCond .eq 17, 3) := by decide +kernel
theorem dL_pairs_4 : decode cL_pairs 4 = .ok (.aload_n 0, 1) := by decide +kernel
theorem dL_pairs_5 : decode cL_pairs 5 = .ok (.iload_n 2, 1) := by decide +kernel
theorem dL_pairs_6 : decode cL_pairs 6 = .ok (.iload_n 3, 1) := by decide +kernel
theorem dL_pairs_7 : decode cL_pairs 7 = .ok (.iload 4, 2) := by decide +kernel
theorem dL_pairs_9 : decode cL_pairs 9 = .ok (.invokevirtual 69, 3) := by decide +kernel
theorem dL_pairs_12 : decode cL_pairs 12 = .ok (.ifCond .eq 21, 3) := by decide +kernel
theorem dL_pairs_15 : decode cL_pairs 15 = .ok (.goto 14, 3) := by decide +kernel
theorem dL_pairs_18 : decode cL_pairs 18 = .ok (.aload_n 0, 1) := by decide +kernel
theorem dL_pairs_19 : decode cL_pairs 19 = .ok (.iload_n 2, 1) := by decide +kernel
theorem dL_pairs_20 : decode cL_pairs 20 = .ok (.iload_n 3, 1) := by decide +kernel
theorem dL_pairs_21 : decode cL_pairs 21 = .ok (.iload 4, 2) := by decide +kernel
theorem dL_pairs_23 : decode cL_pairs 23 = .ok (.invokevirtual 73, 3) := by decide +kernel
theorem dL_pairs_26 : decode cL_pairs 26 = .ok (.ifCond .eq 7, 3) := by decide +kernel
theorem dL_pairs_29 : decode cL_pairs 29 = .ok (.iconst 1, 1) := by decide +kernel
theorem dL_pairs_30 : decode cL_pairs 30 = .ok (.goto 4, 3) := by decide +kernel
theorem dL_pairs_33 : decode cL_pairs 33 = .ok (.iconst 0, 1) := by decide +kernel
theorem dL_pairs_34 : decode cL_pairs 34 = .ok (.ireturn, 1) := by decide +kernel
theorem dL_pairs_35 : decode cL_pairs 35 = .ok (.astore 5, 2) := by decide +kernel
theorem dL_pairs_37 : decode cL_pairs 37 = .ok (.bipush (-12), 2) := by decide +kernel
theorem dL_pairs_39 : decode cL_pairs 39 = .ok (.ireturn, 1) := by decide +kernel
theorem dL_pairs_40 : decode cL_pairs 40 = .ok (.astore 5, 2) := by decide +kernel
theorem dL_pairs_42 : decode cL_pairs 42 = .ok (.bipush (-13), 2) := by decide +kernel
theorem dL_pairs_44 : decode cL_pairs 44 = .ok (.ireturn, 1) := by decide +kernel
