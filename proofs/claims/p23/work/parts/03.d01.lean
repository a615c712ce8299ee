theorem dX0_init_0 : decode cX0_init 0 = .ok (.aload_n 0, 1) := by decide +kernel
theorem dX0_init_1 : decode cX0_init 1 = .ok (.invokespecial 3, 3) := by decide +kernel
theorem dX0_init_4 : decode cX0_init 4 = .ok (.aload_n 0, 1) := by decide +kernel
theorem dX0_init_5 : decode cX0_init 5 = .ok (.bipush 9, 2) := by decide +kernel
theorem dX0_init_7 : decode cX0_init 7 = .ok (.newarray .int, 2) := by decide +kernel
theorem dX0_init_9 : decode cX0_init 9 = .ok (.putfield 9, 3) := by decide +kernel
theorem dX0_init_12 : decode cX0_init 12 = .ok (.aload_n 0, 1) := by decide +kernel
theorem dX0_init_13 : decode cX0_init 13 = .ok (.bipush 6, 2) := by decide +kernel
theorem dX0_init_15 : decode cX0_init 15 = .ok (.newarray .int, 2) := by decide +kernel
theorem dX0_init_17 : decode cX0_init 17 = .ok (.putfield 15, 3) := by decide +kernel
theorem dX0_init_20 : decode cX0_init 20 = .ok (.aload_n 0, 1) := by decide +kernel
theorem dX0_init_21 : decode cX0_init 21 = .ok (.bipush 9, 2) := by decide +kernel
theorem dX0_init_23 : decode cX0_init 23 = .ok (.newarray .int, 2) := by decide +kernel
theorem dX0_init_25 : decode cX0_init 25 = .ok (.putfield 18, 3) := by decide +kernel
theorem dX0_init_28 : decode cX0_init 28 = .ok (.aload_n 0, 1) := by decide +kernel
theorem dX0_init_29 : decode cX0_init 29 = .ok (.bipush 9, 2) := by decide +kernel
theorem dX0_init_31 : decode cX0_init 31 = .ok (.newarray .int, 2) := by decide +kernel
theorem dX0_init_33 : decode cX0_init 33 = .ok (.putfield 21, 3) := by decide +kernel
theorem dX0_init_36 : decode cX0_init 36 = .ok (.aload_n 0, 1) := by decide +kernel
theorem dX0_init_37 : decode cX0_init 37 = .ok (.bipush 9, 2) := by decide +kernel
theorem dX0_init_39 : decode cX0_init 39 = .ok (.newarray .int, 2) := by decide +kernel
theorem dX0_init_41 : decode cX0_init 41 = .ok (.putfield 24, 3) := by decide +kernel
theorem dX0_init_44 : decode cX0_init 44 = .ok (.aload_n 0, 1) := by decide +kernel
theorem dX0_init_45 : decode cX0_init 45 = .ok (.iconst 4, 1) := by decide +kernel
theorem dX0_init_46 : decode cX0_init 46 = .ok (.newarray .int, 2) := by decide +kernel
theorem dX0_init_48 : decode cX0_init 48 = .ok (.putfield 27, 3) := by decide +kernel
theorem dX0_init_51 : decode cX0_init 51 = .ok (.return_, 1) := by decide +kernel
set_option maxRecDepth 20000 in
theorem ggX0_reset_X0_resetPot : GoodIn wsX0_reset wsX0_resetPot := goodIn_r _ [12, 1, 13, 14, 15, 16, 17, 18, 19, 20, 21, 22] (by decide +kernel) (by decide +kernel)
set_option maxRecDepth 20000 in
theorem gX0_reset_X0_resetPot : GoodIn wsX0_reset (wsV RX0 40 RX0 yX0_resetPot wsX0_resetPot) := goodIn_app (goodIn_of _ (by decide +kernel)) ggX0_reset_X0_resetPot
theorem dX0_reset_0 : decode cX0_reset 0 = .ok (.aload_n 0, 1) := by decide +kernel
theorem dX0_reset_1 : decode cX0_reset 1 = .ok (.iload_n 1, 1) := by decide +kernel
theorem dX0_reset_2 : decode cX0_reset 2 = .ok (.putfield 30, 3) := by decide +kernel
theorem dX0_reset_5 : decode cX0_reset 5 = .ok (.aload_n 0, 1) := by decide +kernel
theorem dX0_reset_6 : decode cX0_reset 6 = .ok (.iload_n 2, 1) := by decide +kernel
theorem dX0_reset_7 : decode cX0_reset 7 = .ok (.putfield 34, 3) := by decide +kernel
theorem dX0_reset_10 : decode cX0_reset 10 = .ok (.aload_n 0, 1) := by decide +kernel
theorem dX0_reset_11 : decode cX0_reset 11 = .ok (.iload_n 1, 1) := by decide +kernel
theorem dX0_reset_12 : decode cX0_reset 12 = .ok (.iload_n 2, 1) := by decide +kernel
theorem dX0_reset_13 : decode cX0_reset 13 = .ok (.imul, 1) := by decide +kernel
theorem dX0_reset_14 : decode cX0_reset 14 = .ok (.putfield 37, 3) := by decide +kernel
theorem dX0_reset_17 : decode cX0_reset 17 = .ok (.iconst 0, 1) := by decide +kernel
theorem dX0_reset_18 : decode cX0_reset 18 = .ok (.istore_n 3, 1) := by decide +kernel
theorem dX0_reset_19 : decode cX0_reset 19 = .ok (.iload_n 3, 1) := by decide +kernel
theorem dX0_reset_20 : decode cX0_reset 20 = .ok (.bipush 6, 2) := by decide +kernel
theorem dX0_reset_22 : decode cX0_reset 22 = .ok (.if_icmp .ge 16, 3) := by decide +kernel
theorem dX0_reset_25 : decode cX0_reset 25 = .ok (.aload_n 0, 1) := by decide +kernel
theorem dX0_reset_26 : decode cX0_reset 26 = .ok (.getfield 15, 3) := by decide +kernel
theorem dX0_reset_29 : decode cX0_reset 29 = .ok (.iload_n 3, 1) := by decide +kernel
theorem dX0_reset_30 : decode cX0_reset 30 = .ok (.iconst 3, 1) := by decide +kernel
theorem dX0_reset_31 : decode cX0_reset 31 = .ok (.iastore, 1) := by decide +kernel
theorem dX0_reset_32 : decode cX0_reset 32 = .ok (.iinc 3 1, 3) := by decide +kernel
theorem dX0_reset_35 : decode cX0_reset 35 = .ok (.goto (-16), 3) := by decide +kernel
theorem dX0_reset_38 : decode cX0_reset 38 = .ok (.iconst 0, 1) := by decide +kernel
theorem dX0_reset_39 : decode cX0_reset 39 = .ok (.istore_n 3, 1) := by decide +kernel
theorem dX0_reset_40 : decode cX0_reset 40 = .ok (.iload_n 3, 1) := by decide +kernel
theorem dX0_reset_41 : decode cX0_reset 41 = .ok (.bipush 9, 2) := by decide +kernel
theorem dX0_reset_43 : decode cX0_reset 43 = .ok (.if_icmp .ge 30, 3) := by decide +kernel
theorem dX0_reset_46 : decode cX0_reset 46 = .ok (.aload_n 0, 1) := by decide +kernel
theorem dX0_reset_47 : decode cX0_reset 47 = .ok (.getfield 9, 3) := by decide +kernel
theorem dX0_reset_50 : decode cX0_reset 50 = .ok (.iload_n 3, 1) := by decide +kernel
theorem dX0_reset_51 : decode cX0_reset 51 = .ok (.iconst 0, 1) := by decide +kernel
theorem dX0_reset_52 : decode cX0_reset 52 = .ok (.iastore, 1) := by decide +kernel
theorem dX0_reset_53 : decode cX0_reset 53 = .ok (.aload_n 0, 1) := by decide +kernel
theorem dX0_reset_54 : decode cX0_reset 54 = .ok (.getfield 18, 3) := by decide +kernel
theorem dX0_reset_57 : decode cX0_reset 57 = .ok (.iload_n 3, 1) := by decide +kernel
theorem dX0_reset_58 : decode cX0_reset 58 = .ok (.iconst 0, 1) := by decide +kernel
theorem dX0_reset_59 : decode cX0_reset 59 = .ok (.iastore, 1) := by decide +kernel
theorem dX0_reset_60 : decode cX0_reset 60 = .ok (.aload_n 0, 1) := by decide +kernel
theorem dX0_reset_61 : decode cX0_reset 61 = .ok (.getfield 21, 3) := by decide +kernel
theorem dX0_reset_64 : decode cX0_reset 64 = .ok (.iload_n 3, 1) := by decide +kernel
theorem dX0_reset_65 : decode cX0_reset 65 = .ok (.iconst 0, 1) := by decide +kernel
theorem dX0_reset_66 : decode cX0_reset 66 = .ok (.iastore, 1) := by decide +kernel
theorem dX0_reset_67 : decode cX0_reset 67 = .ok (.iinc 3 1, 3) := by decide +kernel
theorem dX0_reset_70 : decode cX0_reset 70 = .ok (.goto (-30), 3) := by decide +kernel
theorem dX0_reset_73 : decode cX0_reset 73 = .ok (.iconst 0, 1) := by decide +kernel
theorem dX0_reset_74 : decode cX0_reset 74 = .ok (.istore_n 3, 1) := by decide +kernel
theorem dX0_reset_75 : decode cX0_reset 75 = .ok (.iload_n 3, 1) := by decide +kernel
theorem dX0_reset_76 : decode cX0_reset 76 = .ok (.aload_n 0, 1) := by decide +kernel
theorem dX0_reset_77 : decode cX0_reset 77 = .ok (.getfield 34, 3) := by decide +kernel
theorem dX0_reset_80 : decode cX0_reset 80 = .ok (.if_icmp .ge 19, 3) := by decide +kernel
theorem dX0_reset_83 : decode cX0_reset 83 = .ok (.aload_n 0, 1) := by decide +kernel
theorem dX0_reset_84 : decode cX0_reset 84 = .ok (.iload_n 3, 1) := by decide +kernel
theorem dX0_reset_85 : decode cX0_reset 85 = .ok (.aload_n 0, 1) := by decide +kernel
theorem dX0_reset_86 : decode cX0_reset 86 = .ok (.getfield 30, 3) := by decide +kernel
theorem dX0_reset_89 : decode cX0_reset 89 = .ok (.imul, 1) := by decide +kernel
theorem dX0_reset_90 : decode cX0_reset 90 = .ok (.invokevirtual 40, 3) := by decide +kernel
theorem dX0_reset_93 : decode cX0_reset 93 = .ok (.iinc 3 1, 3) := by decide +kernel
theorem dX0_reset_96 : decode cX0_reset 96 = .ok (.goto (-21), 3) := by decide +kernel
theorem dX0_reset_99 : decode cX0_reset 99 = .ok (.return_, 1) := by decide +kernel
theorem dX0_resetPot_0 : decode cX0_resetPot 0 = .ok (.iconst 1, 1) := by decide +kernel
theorem dX0_resetPot_1 : decode cX0_resetPot 1 = .ok (.aload_n 0, 1) := by decide +kernel
theorem dX0_resetPot_2 : decode cX0_resetPot 2 = .ok (.getfield 30, 3) := by decide +kernel
theorem dX0_resetPot_5 : decode cX0_resetPot 5 = .ok (.ishl, 1) := by decide +kernel
theorem dX0_resetPot_6 : decode cX0_resetPot 6 = .ok (.iconst 1, 1) := by decide +kernel
theorem dX0_resetPot_7 : decode cX0_resetPot 7 = .ok (.isub, 1) := by decide +kernel
theorem dX0_resetPot_8 : decode cX0_resetPot 8 = .ok (.iload_n 1, 1) := by decide +kernel
theorem dX0_resetPot_9 : decode cX0_resetPot 9 = .ok (.ishl, 1) := by decide +kernel
theorem dX0_resetPot_10 : decode cX0_resetPot 10 = .ok (.istore_n 2, 1) := by decide +kernel
theorem dX0_resetPot_11 : decode cX0_resetPot 11 = .ok (.iload_n 1, 1) := by decide +kernel
theorem dX0_resetPot_12 : decode cX0_resetPot 12 = .ok (.istore_n 3, 1) := by decide +kernel
theorem dX0_resetPot_13 : decode cX0_resetPot 13 = .ok (.iload_n 3, 1) := by decide +kernel
theorem dX0_resetPot_14 : decode cX0_resetPot 14 = .ok (.iload_n 1, 1) := by decide +kernel
theorem dX0_resetPot_15 : decode cX0_resetPot 15 = .ok (.aload_n 0, 1) := by decide +kernel
theorem dX0_resetPot_16 : decode cX0_resetPot 16 = .ok (.getfield 30, 3) := by decide +kernel
theorem dX0_resetPot_19 : decode cX0_resetPot 19 = .ok (.iadd, 1) := by decide +kernel
theorem dX0_resetPot_20 : decode cX0_resetPot 20 = .ok (.if_icmp .ge 16, 3) := by decide +kernel
theorem dX0_resetPot_23 : decode cX0_resetPot 23 = .ok (.aload_n 0, 1) := by decide +kernel
theorem dX0_resetPot_24 : decode cX0_resetPot 24 = .ok (.getfield 24, 3) := by decide +kernel
theorem dX0_resetPot_27 : decode cX0_resetPot 27 = .ok (.iload_n 3, 1) := by decide +kernel
theorem dX0_resetPot_28 : decode cX0_resetPot 28 = .ok (.iload_n 2, 1) := by decide +kernel
theorem dX0_resetPot_29 : decode cX0_resetPot 29 = .ok (.iastore, 1) := by decide +kernel
theorem dX0_resetPot_30 : decode cX0_resetPot 30 = .ok (.iinc 3 1, 3) := by decide +kernel
theorem dX0_resetPot_33 : decode cX0_resetPot 33 = .ok (.goto (-20), 3) := by decide +kernel
theorem dX0_resetPot_36 : decode cX0_resetPot 36 = .ok (.return_, 1) := by decide +kernel
theorem dX0_hasTeam_0 : decode cX0_hasTeam 0 = .ok (.iload_n 1, 1) := by decide +kernel
theorem dX0_hasTeam_1 : decode cX0_hasTeam 1 = .ok (.ifCond .lt 15, 3) := by decide +kernel
theorem dX0_hasTeam_4 : decode cX0_hasTeam 4 = .ok (.iload_n 1, 1) := by decide +kernel
theorem dX0_hasTeam_5 : decode cX0_hasTeam 5 = .ok (.aload_n 0, 1) := by decide +kernel
theorem dX0_hasTeam_6 : decode cX0_hasTeam 6 = .ok (.getfield 37, 3) := by decide +kernel
theorem dX0_hasTeam_9 : decode cX0_hasTeam 9 = .ok (.if_icmp .ge 7, 3) := by decide +kernel
theorem dX0_hasTeam_12 : decode cX0_hasTeam 12 = .ok (.iconst 1, 1) := by decide +kernel
theorem dX0_hasTeam_13 : decode cX0_hasTeam 13 = .ok (.goto 4, 3) := by decide +kernel
theorem dX0_hasTeam_16 : decode cX0_hasTeam 16 = .ok (.iconst 0, 1) := by decide +kernel
theorem dX0_hasTeam_17 : decode cX0_hasTeam 17 = .ok (.ireturn, 1) := by decide +kernel
theorem dX0_hasRegion_0 : decode cX0_hasRegion 0 = .ok (.iload_n 1, 1) := by decide +kernel
theorem dX0_hasRegion_1 : decode cX0_hasRegion 1 = .ok (.ifCond .lt 13, 3) := by decide +kernel
theorem dX0_hasRegion_4 : decode cX0_hasRegion 4 = .ok (.iload_n 1, 1) := by decide +kernel
theorem dX0_hasRegion_5 : decode cX0_hasRegion 5 = .ok (.bipush 6, 2) := by decide +kernel
theorem dX0_hasRegion_7 : decode cX0_hasRegion 7 = .ok (.if_icmp .ge 7, 3) := by decide +kernel
theorem dX0_hasRegion_10 : decode cX0_hasRegion 10 = .ok (.iconst 1, 1) := by decide +kernel
theorem dX0_hasRegion_11 : decode cX0_hasRegion 11 = .ok (.goto 4, 3) := by decide +kernel
theorem dX0_hasRegion_14 : decode cX0_hasRegion 14 = .ok (.iconst 0, 1) := by decide +kernel
theorem dX0_hasRegion_15 : decode cX0_hasRegion 15 = .ok (.ireturn, 1) := by decide +kernel
theorem dX0_hasGroup_0 : decode cX0_hasGroup 0 = .ok (.iload_n 1, 1) := by decide +kernel
theorem dX0_hasGroup_1 : decode cX0_hasGroup 1 = .ok (.ifCond .lt 15, 3) := by decide +kernel
theorem dX0_hasGroup_4 : decode cX0_hasGroup 4 = .ok (.iload_n 1, 1) := by decide +kernel
theorem dX0_hasGroup_5 : decode cX0_hasGroup 5 = .ok (.aload_n 0, 1) := by decide +kernel
theorem dX0_hasGroup_6 : decode cX0_hasGroup 6 = .ok (.getfield 30, 3) := by decide +kernel
theorem dX0_hasGroup_9 : decode cX0_hasGroup 9 = .ok (.if_icmp .ge 7, 3) := by decide +kernel
theorem dX0_hasGroup_12 : decode cX0_hasGroup 12 = .ok (.iconst 1, 1) := by decide +kernel
theorem dX0_hasGroup_13 : decode cX0_hasGroup 13 = .ok (.goto 4, 3) := by decide +kernel
theorem dX0_hasGroup_16 : decode cX0_hasGroup 16 = .ok (.iconst 0, 1) := by decide +kernel
theorem dX0_hasGroup_17 : decode cX0_hasGroup 17 = .ok (.ireturn, 1) := by decide +kernel
theorem dX0_hasPot_0 : decode cX0_hasPot 0 = .ok (.iload_n 1, 1) := by decide +kernel
theorem dX0_hasPot_1 : decode cX0_hasPot 1 = .ok (.ifCond .lt 15, 3) := by decide +kernel
theorem dX0_hasPot_4 : decode cX0_hasPot 4 = .ok (.iload_n 1, 1) := by decide +kernel
theorem dX0_hasPot_5 : decode cX0_hasPot 5 = .ok (.aload_n 0, 1) := by decide +kernel
theorem dX0_hasPot_6 : decode cX0_hasPot 6 = .ok (.getfield 34, 3) := by decide +kernel
theorem dX0_hasPot_9 : decode cX0_hasPot 9 = .ok (.if_icmp .ge 7, 3) := by decide +kernel
theorem dX0_hasPot_12 : decode cX0_hasPot 12 = .ok (.iconst 1, 1) := by decide +kernel
theorem dX0_hasPot_13 : decode cX0_hasPot 13 = .ok (.goto 4, 3) := by decide +kernel
theorem dX0_hasPot_16 : decode cX0_hasPot 16 = .ok (.iconst 0, 1) := by decide +kernel
theorem dX0_hasPot_17 : decode cX0_hasPot 17 = .ok (.ireturn, 1) := by decide +kernel
theorem dX0_setPair_0 : decode cX0_setPair 0 = .ok (.aload_n 0, 1) := by decide +kernel
theorem dX0_setPair_1 : decode cX0_setPair 1 = .ok (.iload_n 1, 1) := by decide +kernel
theorem dX0_setPair_2 : decode cX0_setPair 2 = .ok (.iaload, 1) := by decide +kernel
theorem dX0_setPair_3 : decode cX0_setPair 3 = .ok (.iload_n 2, 1) := by decide +kernel
theorem dX0_setPair_4 : decode cX0_setPair 4 = .ok (.ishr, 1) := by decide +kernel
theorem dX0_setPair_5 : decode cX0_setPair 5 = .ok (.iconst 1, 1) := by decide +kernel
theorem dX0_setPair_6 : decode cX0_setPair 6 = .ok (.iand, 1) := by decide +kernel
theorem dX0_setPair_7 : decode cX0_setPair 7 = .ok (.ifCond .eq 7, 3) := by decide +kernel
theorem dX0_setPair_10 : decode cX0_setPair 10 = .ok (.iconst 1, 1) := by decide +kernel
theorem dX0_setPair_11 : decode cX0_setPair 11 = .ok (.goto 4, 3) := by decide +kernel
theorem dX0_setPair_14 : decode cX0_setPair 14 = .ok (.iconst 0, 1) := by decide +kernel
theorem dX0_setPair_15 : decode cX0_setPair 15 = .ok (.istore 4, 2) := by decide +kernel
theorem dX0_setPair_17 : decode cX0_setPair 17 = .ok (.iload_n 3, 1) := by decide +kernel
theorem dX0_setPair_18 : decode cX0_setPair 18 = .ok (.ifCond .eq 24, 3) := by decide +kernel
theorem dX0_setPair_21 : decode cX0_setPair 21 = .ok (.aload_n 0, 1) := by decide +kernel
theorem dX0_setPair_22 : decode cX0_setPair 22 = .ok (.iload_n 1, 1) := by decide +kernel
theorem dX0_setPair_23 : decode cX0_setPair 23 = .ok (.dup2, 1) := by decide +kernel
theorem dX0_setPair_24 : decode cX0_setPair 24 = .ok (.iaload, 1) := by decide +kernel
theorem dX0_setPair_25 : decode cX0_setPair 25 = .ok (.iconst 1, 1) := by decide +kernel
theorem dX0_setPair_26 : decode cX0_setPair 26 = .ok (.iload_n 2, 1) := by decide +kernel
theorem dX0_setPair_27 : decode cX0_setPair 27 = .ok (.ishl, 1) := by decide +kernel
theorem dX0_setPair_28 : decode cX0_setPair 28 = .ok (.ior, 1) := by decide +kernel
theorem dX0_setPair_29 : decode cX0_setPair 29 = .ok (.iastore, 1) := by decide +kernel
theorem dX0_setPair_30 : decode cX0_setPair 30 = .ok (.aload_n 0, 1) := by decide +kernel
theorem dX0_setPair_31 : decode cX0_setPair 31 = .ok (.iload_n 2, 1) := by decide +kernel
theorem dX0_setPair_32 : decode cX0_setPair 32 = .ok (.dup2, 1) := by decide +kernel
theorem dX0_setPair_33 : decode cX0_setPair 33 = .ok (.iaload, 1) := by decide +kernel
theorem dX0_setPair_34 : decode cX0_setPair 34 = .ok (.iconst 1, 1) := by decide +kernel
theorem dX0_setPair_35 : decode cX0_setPair 35 = .ok (.iload_n 1, 1) := by decide +kernel
theorem dX0_setPair_36 : decode cX0_setPair 36 = .ok (.ishl, 1) := by decide +kernel
theorem dX0_setPair_37 : decode cX0_setPair 37 = .ok (.ior, 1) := by decide +kernel
theorem dX0_setPair_38 : decode cX0_setPair 38 = .ok (.iastore, 1) := by decide +kernel
theorem dX0_setPair_39 : decode cX0_setPair 39 = .ok (.goto 25, 3) := by decide +kernel
theorem dX0_setPair_42 : decode cX0_setPair 42 = .ok (.aload_n 0, 1) := by decide +kernel
theorem dX0_setPair_43 : decode cX0_setPair 43 = .ok (.iload_n 1, 1) := by decide +kernel
theorem dX0_setPair_44 : decode cX0_setPair 44 = .ok (.dup2, 1) := by decide +kernel
theorem dX0_setPair_45 : decode cX0_setPair 45 = .ok (.iaload, 1) := by decide +kernel
theorem dX0_setPair_46 : decode cX0_setPair 46 = .ok (.iconst 1, 1) := by decide +kernel
theorem dX0_setPair_47 : decode cX0_setPair 47 = .ok (.iload_n 2, 1) := by decide +kernel
theorem dX0_setPair_48 : decode cX0_setPair 48 = .ok (.ishl, 1) := by decide +kernel
theorem dX0_setPair_49 : decode cX0_setPair 49 = .ok (.iconst (-1), 1) := by decide +kernel
theorem dX0_setPair_50 : decode cX0_setPair 50 = .ok (.ixor, 1) := by decide +kernel
theorem dX0_setPair_51 : decode cX0_setPair 51 = .ok (.iand, 1) := by decide +kernel
theorem dX0_setPair_52 : decode cX0_setPair 52 = .ok (.iastore, 1) := by decide +kernel
theorem dX0_setPair_53 : decode cX0_setPair 53 = .ok (.aload_n 0, 1) := by decide +kernel
theorem dX0_setPair_54 : decode cX0_setPair 54 = .ok (.iload_n 2, 1) := by decide +kernel
theorem dX0_setPair_55 : decode cX0_setPair 55 = .ok (.dup2, 1) := by decide +kernel
theorem dX0_setPair_56 : decode cX0_setPair 56 = .ok (.iaload, 1) := by decide +kernel
theorem dX0_setPair_57 : decode cX0_setPair 57 = .ok (.iconst 1, 1) := by decide +kernel
theorem dX0_setPair_58 : decode cX0_setPair 58 = .ok (.iload_n 1, 1) := by decide +kernel
theorem dX0_setPair_59 : decode cX0_setPair 59 = .ok (.ishl, 1) := by decide +kernel
theorem dX0_setPair_60 : decode cX0_setPair 60 = .ok (.iconst (-1), 1) := by decide +kernel
theorem dX0_setPair_61 : decode cX0_setPair 61 = .ok (.ixor, 1) := by decide +kernel
theorem dX0_setPair_62 : decode cX0_setPair 62 = .ok (.iand, 1) := by decide +kernel
theorem dX0_setPair_63 : decode cX0_setPair 63 = .ok (.iastore, 1) := by decide +kernel
theorem dX0_setPair_64 : decode cX0_setPair 64 = .ok (.iload 4, 2) := by decide +kernel
theorem dX0_setPair_66 : decode cX0_setPair 66 = .ok (.ireturn, 1) := by decide +kernel
set_option maxRecDepth 20000 in
theorem ggX0_addLawful_X0_placeFrom : GoodIn wsX0_addLawful wsX0_placeFrom := goodIn_r _ [5, 6, 7, 8, 9, 10, 11, 12, 13, 14, 15, 16, 17, 4, 18, 19, 20, 21, 22, 23, 24, 25, 26, 27, 28, 29, 30, 31, 32, 33, 34, 35, 36, 37, 38, 39, 1, 2, 3, 40, 41, 42, 43, 44, 45, 46, 47, 48, 49, 50] (by decide +kernel) (by decide +kernel)
set_option maxRecDepth 20000 in
theorem gX0_addLawful_X0_placeFrom : GoodIn wsX0_addLawful (wsV RX0 44 RX0 yX0_placeFrom wsX0_placeFrom) := goodIn_app (goodIn_of _ (by decide +kernel)) ggX0_addLawful_X0_placeFrom
theorem dX0_addLawful_0 : decode cX0_addLawful 0 = .ok (.aload_n 0, 1) := by decide +kernel
theorem dX0_addLawful_1 : decode cX0_addLawful 1 = .ok (.iconst 0, 1) := by decide +kernel
theorem dX0_addLawful_2 : decode cX0_addLawful 2 = .ok (.iconst 0, 1) := by decide +kernel
theorem dX0_addLawful_3 : decode cX0_addLawful 3 = .ok (.aload_n 1, 1) := by decide +kernel
theorem dX0_addLawful_4 : decode cX0_addLawful 4 = .ok (.invokevirtual 44, 3) := by decide +kernel
theorem dX0_addLawful_7 : decode cX0_addLawful 7 = .ok (.return_, 1) := by decide +kernel
set_option maxRecDepth 20000 in
theorem ggX0_placeFrom_X1_add : GoodIn wsX0_placeFrom wsX1_add := goodIn_r _ [7, 8, 9, 48, 49] (by decide +kernel) (by decide +kernel)
set_option maxRecDepth 20000 in
theorem gX0_placeFrom_X1_add : GoodIn wsX0_placeFrom (wsV RX0 48 RX1 yX1_add wsX1_add) := goodIn_app (goodIn_of _ (by decide +kernel)) ggX0_placeFrom_X1_add
set_option maxRecDepth 20000 in
theorem ggX0_placeFrom_X0_placeIn : GoodIn wsX0_placeFrom wsX0_placeIn := goodIn_r _ [14, 15, 16, 17, 18, 13, 19, 20, 21, 22, 23, 24, 25, 26, 27, 28, 2, 29, 30, 31, 32, 1, 33, 34, 6, 35, 36, 37, 38, 0, 3, 4, 5, 7, 8, 9, 10, 11, 12, 39, 40, 41, 42, 43, 44, 45, 46, 47, 48, 49] (by decide +kernel) (by decide +kernel)
set_option maxRecDepth 20000 in
theorem gX0_placeFrom_X0_placeIn : GoodIn wsX0_placeFrom (wsV RX0 53 RX0 yX0_placeIn wsX0_placeIn) := goodIn_app (goodIn_of _ (by decide +kernel)) ggX0_placeFrom_X0_placeIn
theorem dX0_placeFrom_0 : decode cX0_placeFrom 0 = .ok (.iload_n 1, 1) := by decide +kernel
theorem dX0_placeFrom_1 : decode cX0_placeFrom 1 = .ok (.aload_n 0, 1) := by decide +kernel
theorem dX0_placeFrom_2 : decode cX0_placeFrom 2 = .ok (.getfield 37, 3) := by decide +kernel
theorem dX0_placeFrom_5 : decode cX0_placeFrom 5 = .ok (.if_icmp .lt 9, 3) := by decide +kernel
theorem dX0_placeFrom_8 : decode cX0_placeFrom 8 = .ok (.aload_n 3, 1) := by decide +kernel
theorem dX0_placeFrom_9 : decode cX0_placeFrom 9 = .ok (.iload_n 2, 1) := by decide +kernel
theorem dX0_placeFrom_10 : decode cX0_placeFrom 10 = .ok (.invokevirtual 48, 3) := by decide +kernel
theorem dX0_placeFrom_13 : decode cX0_placeFrom 13 = .ok (.return_, 1) := by decide +kernel
theorem dX0_placeFrom_14 : decode cX0_placeFrom 14 = .ok (.iconst 0, 1) := by decide +kernel
theorem dX0_placeFrom_15 : decode cX0_placeFrom 15 = .ok (.istore 4, 2) := by decide +kernel
theorem dX0_placeFrom_17 : decode cX0_placeFrom 17 = .ok (.iload 4, 2) := by decide +kernel
theorem dX0_placeFrom_19 : decode cX0_placeFrom 19 = .ok (.aload_n 0, 1) := by decide +kernel
theorem dX0_placeFrom_20 : decode cX0_placeFrom 20 = .ok (.getfield 30, 3) := by decide +kernel
theorem dX0_placeFrom_23 : decode cX0_placeFrom 23 = .ok (.if_icmp .ge 18, 3) := by decide +kernel
theorem dX0_placeFrom_26 : decode cX0_placeFrom 26 = .ok (.aload_n 0, 1) := by decide +kernel
theorem dX0_placeFrom_27 : decode cX0_placeFrom 27 = .ok (.iload 4, 2) := by decide +kernel
theorem dX0_placeFrom_29 : decode cX0_placeFrom 29 = .ok (.iload_n 1, 1) := by decide +kernel
theorem dX0_placeFrom_30 : decode cX0_placeFrom 30 = .ok (.iload_n 2, 1) := by decide +kernel
theorem dX0_placeFrom_31 : decode cX0_placeFrom 31 = .ok (.aload_n 3, 1) := by decide +kernel
theorem dX0_placeFrom_32 : decode cX0_placeFrom 32 = .ok (.invokevirtual 53, 3) := by decide +kernel
theorem dX0_placeFrom_35 : decode cX0_placeFrom 35 = .ok (.iinc 4 1, 3) := by decide +kernel
theorem dX0_placeFrom_38 : decode cX0_placeFrom 38 = .ok (.goto (-21), 3) := by decide +kernel
theorem dX0_placeFrom_41 : decode cX0_placeFrom 41 = .ok (.return_, 1) := by decide +kernel
set_option maxRecDepth 20000 in
theorem ggX0_placeIn_X0_admits : GoodIn wsX0_placeIn wsX0_admits := goodIn_r _ [6, 1, 7, 8, 9, 10, 11, 12, 13, 14, 5, 15, 16, 17, 18, 19, 20, 21, 39, 40, 41, 42, 43, 44, 45, 46, 47] (by decide +kernel) (by decide +kernel)
set_option maxRecDepth 20000 in
theorem gX0_placeIn_X0_admits : GoodIn wsX0_placeIn (wsV RX0 57 RX0 yX0_admits wsX0_admits) := goodIn_app (goodIn_of _ (by decide +kernel)) ggX0_placeIn_X0_admits
set_option maxRecDepth 20000 in
theorem ggX0_placeIn_X1_with : GoodIn wsX0_placeIn wsX1_with := goodIn_r _ [25] (by decide +kernel) (by decide +kernel)
set_option maxRecDepth 20000 in
theorem gX0_placeIn_X1_with : GoodIn wsX0_placeIn (va_wsS RX0 61 yX1_with wsX1_with) := goodIn_app (goodIn_of _ (by decide +kernel)) ggX0_placeIn_X1_with
set_option maxRecDepth 20000 in
theorem ggX0_placeIn_X0_placeFrom : GoodIn wsX0_placeIn wsX0_placeFrom := goodIn_r _ [29, 21, 16, 30, 31, 32, 24, 33, 34, 35, 36, 37, 38, 5, 0, 1, 2, 3, 4, 6, 7, 8, 9, 10, 11, 12, 13, 14, 15, 17, 18, 19, 20, 22, 23, 25, 26, 27, 28, 39, 40, 41, 42, 43, 44, 45, 46, 47, 48, 49] (by decide +kernel) (by decide +kernel)
set_option maxRecDepth 20000 in
theorem gX0_placeIn_X0_placeFrom : GoodIn wsX0_placeIn (wsV RX0 44 RX0 yX0_placeFrom wsX0_placeFrom) := goodIn_app (goodIn_of _ (by decide +kernel)) ggX0_placeIn_X0_placeFrom
theorem dX0_placeIn_0 : decode cX0_placeIn 0 = .ok (.aload_n 0, 1) := by decide +kernel
theorem dX0_placeIn_1 : decode cX0_placeIn 1 = .ok (.iload_n 1, 1) := by decide +kernel
theorem dX0_placeIn_2 : decode cX0_placeIn 2 = .ok (.iload_n 2, 1) := by decide +kernel
theorem dX0_placeIn_3 : decode cX0_placeIn 3 = .ok (.invokevirtual 57, 3) := by decide +kernel
theorem dX0_placeIn_6 : decode cX0_placeIn 6 = .ok (.ifCond .eq 44, 3) := by decide +kernel
theorem dX0_placeIn_9 : decode cX0_placeIn 9 = .ok (.aload_n 0, 1) := by decide +kernel
theorem dX0_placeIn_10 : decode cX0_placeIn 10 = .ok (.getfield 27, 3) := by decide +kernel
theorem dX0_placeIn_13 : decode cX0_placeIn 13 = .ok (.iload_n 1, 1) := by decide +kernel
theorem dX0_placeIn_14 : decode cX0_placeIn 14 = .ok (.dup2, 1) := by decide +kernel
theorem dX0_placeIn_15 : decode cX0_placeIn 15 = .ok (.iaload, 1) := by decide +kernel
theorem dX0_placeIn_16 : decode cX0_placeIn 16 = .ok (.iconst 1, 1) := by decide +kernel
theorem dX0_placeIn_17 : decode cX0_placeIn 17 = .ok (.iload_n 2, 1) := by decide +kernel
theorem dX0_placeIn_18 : decode cX0_placeIn 18 = .ok (.ishl, 1) := by decide +kernel
theorem dX0_placeIn_19 : decode cX0_placeIn 19 = .ok (.ior, 1) := by decide +kernel
theorem dX0_placeIn_20 : decode cX0_placeIn 20 = .ok (.iastore, 1) := by decide +kernel
theorem dX0_placeIn_21 : decode cX0_placeIn 21 = .ok (.aload_n 0, 1) := by decide +kernel
theorem dX0_placeIn_22 : decode cX0_placeIn 22 = .ok (.iload_n 2, 1) := by decide +kernel
theorem dX0_placeIn_23 : decode cX0_placeIn 23 = .ok (.iconst 1, 1) := by decide +kernel
theorem dX0_placeIn_24 : decode cX0_placeIn 24 = .ok (.iadd, 1) := by decide +kernel
theorem dX0_placeIn_25 : decode cX0_placeIn 25 = .ok (.iload_n 3, 1) := by decide +kernel
theorem dX0_placeIn_26 : decode cX0_placeIn 26 = .ok (.iload_n 2, 1) := by decide +kernel
theorem dX0_placeIn_27 : decode cX0_placeIn 27 = .ok (.iload_n 1, 1) := by decide +kernel
theorem dX0_placeIn_28 : decode cX0_placeIn 28 = .ok (.invokestatic 61, 3) := by decide +kernel
theorem dX0_placeIn_31 : decode cX0_placeIn 31 = .ok (.aload 4, 2) := by decide +kernel
theorem dX0_placeIn_33 : decode cX0_placeIn 33 = .ok (.invokevirtual 44, 3) := by decide +kernel
theorem dX0_placeIn_36 : decode cX0_placeIn 36 = .ok (.aload_n 0, 1) := by decide +kernel
theorem dX0_placeIn_37 : decode cX0_placeIn 37 = .ok (.getfield 27, 3) := by decide +kernel
theorem dX0_placeIn_40 : decode cX0_placeIn 40 = .ok (.iload_n 1, 1) := by decide +kernel
theorem dX0_placeIn_41 : decode cX0_placeIn 41 = .ok (.dup2, 1) := by decide +kernel
theorem dX0_placeIn_42 : decode cX0_placeIn 42 = .ok (.iaload, 1) := by decide +kernel
theorem dX0_placeIn_43 : decode cX0_placeIn 43 = .ok (.iconst 1, 1) := by decide +kernel
theorem dX0_placeIn_44 : decode cX0_placeIn 44 = .ok (.iload_n 2, 1) := by decide +kernel
theorem dX0_placeIn_45 : decode cX0_placeIn 45 = .ok (.ishl, 1) := by decide +kernel
theorem dX0_placeIn_46 : decode cX0_placeIn 46 = .ok (.iconst (-1), 1) := by decide +kernel
theorem dX0_placeIn_47 : decode cX0_placeIn 47 = .ok (.ixor, 1) := by decide +kernel
theorem dX0_placeIn_48 : decode cX0_placeIn 48 = .ok (.iand, 1) := by decide +kernel
theorem dX0_placeIn_49 : decode cX0_placeIn 49 = .ok (.iastore, 1) := by decide +kernel
theorem dX0_placeIn_50 : decode cX0_placeIn 50 = .ok (.return_, 1) := by decide +kernel
set_option maxRecDepth 20000 in
theorem ggX0_admits_X0_playersOnDay : GoodIn wsX0_admits wsX0_playersOnDay := goodIn_r _ [11, 12, 1, 18, 19, 20, 21, 22, 23, 24, 25, 26] (by decide +kernel) (by decide +kernel)
set_option maxRecDepth 20000 in
theorem gX0_admits_X0_playersOnDay : GoodIn wsX0_admits (wsV RX0 65 RX0 yX0_playersOnDay wsX0_playersOnDay) := goodIn_app (goodIn_of _ (by decide +kernel)) ggX0_admits_X0_playersOnDay
set_option maxRecDepth 20000 in
theorem ggX0_admits_X0_countOfRegion : GoodIn wsX0_admits wsX0_countOfRegion := goodIn_r _ [16, 17, 1, 5, 18, 19, 20, 21, 22, 23, 24, 25, 26] (by decide +kernel) (by decide +kernel)
set_option maxRecDepth 20000 in
theorem gX0_admits_X0_countOfRegion : GoodIn wsX0_admits (wsV RX0 69 RX0 yX0_countOfRegion wsX0_countOfRegion) := goodIn_app (goodIn_of _ (by decide +kernel)) ggX0_admits_X0_countOfRegion
theorem dX0_admits_0 : decode cX0_admits 0 = .ok (.aload_n 0, 1) := by decide +kernel
theorem dX0_admits_1 : decode cX0_admits 1 = .ok (.getfield 27, 3) := by decide +kernel
theorem dX0_admits_4 : decode cX0_admits 4 = .ok (.iload_n 1, 1) := by decide +kernel
theorem dX0_admits_5 : decode cX0_admits 5 = .ok (.iaload, 1) := by decide +kernel
theorem dX0_admits_6 : decode cX0_admits 6 = .ok (.aload_n 0, 1) := by decide +kernel
theorem dX0_admits_7 : decode cX0_admits 7 = .ok (.getfield 24, 3) := by decide +kernel
theorem dX0_admits_10 : decode cX0_admits 10 = .ok (.iload_n 2, 1) := by decide +kernel
theorem dX0_admits_11 : decode cX0_admits 11 = .ok (.iaload, 1) := by decide +kernel
theorem dX0_admits_12 : decode cX0_admits 12 = .ok (.aload_n 0, 1) := by decide +kernel
theorem dX0_admits_13 : decode cX0_admits 13 = .ok (.getfield 18, 3) := by decide +kernel
theorem dX0_admits_16 : decode cX0_admits 16 = .ok (.iload_n 2, 1) := by decide +kernel
theorem dX0_admits_17 : decode cX0_admits 17 = .ok (.iaload, 1) := by decide +kernel
theorem dX0_admits_18 : decode cX0_admits 18 = .ok (.ior, 1) := by decide +kernel
theorem dX0_admits_19 : decode cX0_admits 19 = .ok (.iand, 1) := by decide +kernel
theorem dX0_admits_20 : decode cX0_admits 20 = .ok (.ifCond .ne 47, 3) := by decide +kernel
theorem dX0_admits_23 : decode cX0_admits 23 = .ok (.aload_n 0, 1) := by decide +kernel
theorem dX0_admits_24 : decode cX0_admits 24 = .ok (.iload_n 1, 1) := by decide +kernel
theorem dX0_admits_25 : decode cX0_admits 25 = .ok (.invokevirtual 65, 3) := by decide +kernel
theorem dX0_admits_28 : decode cX0_admits 28 = .ok (.aload_n 0, 1) := by decide +kernel
theorem dX0_admits_29 : decode cX0_admits 29 = .ok (.getfield 21, 3) := by decide +kernel
theorem dX0_admits_32 : decode cX0_admits 32 = .ok (.iload_n 2, 1) := by decide +kernel
theorem dX0_admits_33 : decode cX0_admits 33 = .ok (.iaload, 1) := by decide +kernel
theorem dX0_admits_34 : decode cX0_admits 34 = .ok (.iand, 1) := by decide +kernel
theorem dX0_admits_35 : decode cX0_admits 35 = .ok (.ifCond .ne 32, 3) := by decide +kernel
theorem dX0_admits_38 : decode cX0_admits 38 = .ok (.aload_n 0, 1) := by decide +kernel
theorem dX0_admits_39 : decode cX0_admits 39 = .ok (.iload_n 1, 1) := by decide +kernel
theorem dX0_admits_40 : decode cX0_admits 40 = .ok (.aload_n 0, 1) := by decide +kernel
theorem dX0_admits_41 : decode cX0_admits 41 = .ok (.getfield 9, 3) := by decide +kernel
theorem dX0_admits_44 : decode cX0_admits 44 = .ok (.iload_n 2, 1) := by decide +kernel
theorem dX0_admits_45 : decode cX0_admits 45 = .ok (.iaload, 1) := by decide +kernel
theorem dX0_admits_46 : decode cX0_admits 46 = .ok (.invokevirtual 69, 3) := by decide +kernel
theorem dX0_admits_49 : decode cX0_admits 49 = .ok (.aload_n 0, 1) := by decide +kernel
theorem dX0_admits_50 : decode cX0_admits 50 = .ok (.getfield 15, 3) := by decide +kernel
theorem dX0_admits_53 : decode cX0_admits 53 = .ok (.aload_n 0, 1) := by decide +kernel
theorem dX0_admits_54 : decode cX0_admits 54 = .ok (.getfield 9, 3) := by decide +kernel
theorem dX0_admits_57 : decode cX0_admits 57 = .ok (.iload_n 2, 1) := by decide +kernel
theorem dX0_admits_58 : decode cX0_admits 58 = .ok (.iaload, 1) := by decide +kernel
theorem dX0_admits_59 : decode cX0_admits 59 = .ok (.iaload, 1) := by decide +kernel
theorem dX0_admits_60 : decode cX0_admits 60 = .ok (.if_icmp .ge 7, 3) := by decide +kernel
theorem dX0_admits_63 : decode cX0_admits 63 = .ok (.iconst 1, 1) := by decide +kernel
theorem dX0_admits_64 : decode cX0_admits 64 = .ok (.goto 4, 3) := by decide +kernel
theorem dX0_admits_67 : decode cX0_admits 67 = .ok (.iconst 0, 1) := by decide +kernel
theorem dX0_admits_68 : decode cX0_admits 68 = .ok (.ireturn, 1) := by decide +kernel
theorem dX0_playersOnDay_0 : decode cX0_playersOnDay 0 = .ok (.iconst 0, 1) := by decide +kernel
theorem dX0_playersOnDay_1 : decode cX0_playersOnDay 1 = .ok (.istore_n 2, 1) := by decide +kernel
theorem dX0_playersOnDay_2 : decode cX0_playersOnDay 2 = .ok (.iload_n 1, 1) := by decide +kernel
theorem dX0_playersOnDay_3 : decode cX0_playersOnDay 3 = .ok (.iconst 1, 1) := by decide +kernel
theorem dX0_playersOnDay_4 : decode cX0_playersOnDay 4 = .ok (.iand, 1) := by decide +kernel
theorem dX0_playersOnDay_5 : decode cX0_playersOnDay 5 = .ok (.istore_n 3, 1) := by decide +kernel
theorem dX0_playersOnDay_6 : decode cX0_playersOnDay 6 = .ok (.iload_n 3, 1) := by decide +kernel
theorem dX0_playersOnDay_7 : decode cX0_playersOnDay 7 = .ok (.aload_n 0, 1) := by decide +kernel
theorem dX0_playersOnDay_8 : decode cX0_playersOnDay 8 = .ok (.getfield 30, 3) := by decide +kernel
theorem dX0_playersOnDay_11 : decode cX0_playersOnDay 11 = .ok (.if_icmp .ge 18, 3) := by decide +kernel
theorem dX0_playersOnDay_14 : decode cX0_playersOnDay 14 = .ok (.iload_n 2, 1) := by decide +kernel
theorem dX0_playersOnDay_15 : decode cX0_playersOnDay 15 = .ok (.aload_n 0, 1) := by decide +kernel
theorem dX0_playersOnDay_16 : decode cX0_playersOnDay 16 = .ok (.getfield 27, 3) := by decide +kernel
theorem dX0_playersOnDay_19 : decode cX0_playersOnDay 19 = .ok (.iload_n 3, 1) := by decide +kernel
theorem dX0_playersOnDay_20 : decode cX0_playersOnDay 20 = .ok (.iaload, 1) := by decide +kernel
theorem dX0_playersOnDay_21 : decode cX0_playersOnDay 21 = .ok (.ior, 1) := by decide +kernel
theorem dX0_playersOnDay_22 : decode cX0_playersOnDay 22 = .ok (.istore_n 2, 1) := by decide +kernel
theorem dX0_playersOnDay_23 : decode cX0_playersOnDay 23 = .ok (.iinc 3 2, 3) := by decide +kernel
theorem dX0_playersOnDay_26 : decode cX0_playersOnDay 26 = .ok (.goto (-20), 3) := by decide +kernel
theorem dX0_playersOnDay_29 : decode cX0_playersOnDay 29 = .ok (.iload_n 2, 1) := by decide +kernel
theorem dX0_playersOnDay_30 : decode cX0_playersOnDay 30 = .ok (.ireturn, 1) := by decide +kernel
theorem dX0_countOfRegion_0 : decode cX0_countOfRegion 0 = .ok (.iconst 0, 1) := by decide +kernel
theorem dX0_countOfRegion_1 : decode cX0_countOfRegion 1 = .ok (.istore_n 3, 1) := by decide +kernel
theorem dX0_countOfRegion_2 : decode cX0_countOfRegion 2 = .ok (.iconst 0, 1) := by decide +kernel
theorem dX0_countOfRegion_3 : decode cX0_countOfRegion 3 = .ok (.istore 4, 2) := by decide +kernel
theorem dX0_countOfRegion_5 : decode cX0_countOfRegion 5 = .ok (.iload 4, 2) := by decide +kernel
theorem dX0_countOfRegion_7 : decode cX0_countOfRegion 7 = .ok (.aload_n 0, 1) := by decide +kernel
theorem dX0_countOfRegion_8 : decode cX0_countOfRegion 8 = .ok (.getfield 37, 3) := by decide +kernel
theorem dX0_countOfRegion_11 : decode cX0_countOfRegion 11 = .ok (.if_icmp .ge 37, 3) := by decide +kernel
theorem dX0_countOfRegion_14 : decode cX0_countOfRegion 14 = .ok (.aload_n 0, 1) := by decide +kernel
theorem dX0_countOfRegion_15 : decode cX0_countOfRegion 15 = .ok (.getfield 27, 3) := by decide +kernel
theorem dX0_countOfRegion_18 : decode cX0_countOfRegion 18 = .ok (.iload_n 1, 1) := by decide +kernel
theorem dX0_countOfRegion_19 : decode cX0_countOfRegion 19 = .ok (.iaload, 1) := by decide +kernel
theorem dX0_countOfRegion_20 : decode cX0_countOfRegion 20 = .ok (.iload 4, 2) := by decide +kernel
theorem dX0_countOfRegion_22 : decode cX0_countOfRegion 22 = .ok (.ishr, 1) := by decide +kernel
theorem dX0_countOfRegion_23 : decode cX0_countOfRegion 23 = .ok (.iconst 1, 1) := by decide +kernel
theorem dX0_countOfRegion_24 : decode cX0_countOfRegion 24 = .ok (.iand, 1) := by decide +kernel
theorem dX0_countOfRegion_25 : decode cX0_countOfRegion 25 = .ok (.ifCond .eq 17, 3) := by decide +kernel
theorem dX0_countOfRegion_28 : decode cX0_countOfRegion 28 = .ok (.aload_n 0, 1) := by decide +kernel
theorem dX0_countOfRegion_29 : decode cX0_countOfRegion 29 = .ok (.getfield 9, 3) := by decide +kernel
theorem dX0_countOfRegion_32 : decode cX0_countOfRegion 32 = .ok (.iload 4, 2) := by decide +kernel
theorem dX0_countOfRegion_34 : decode cX0_countOfRegion 34 = .ok (.iaload, 1) := by decide +kernel
theorem dX0_countOfRegion_35 : decode cX0_countOfRegion 35 = .ok (.iload_n 2, 1) := by decide +kernel
theorem dX0_countOfRegion_36 : decode cX0_countOfRegion 36 = .ok (.if_icmp .ne 6, 3) := by decide +kernel
theorem dX0_countOfRegion_39 : decode cX0_countOfRegion 39 = .ok (.iinc 3 1, 3) := by decide +kernel
theorem dX0_countOfRegion_42 : decode cX0_countOfRegion 42 = .ok (.iinc 4 1, 3) := by decide +kernel
theorem dX0_countOfRegion_45 : decode cX0_countOfRegion 45 = .ok (.goto (-40), 3) := by decide +kernel
theorem dX0_countOfRegion_48 : decode cX0_countOfRegion 48 = .ok (.iload_n 3, 1) := by decide +kernel
theorem dX0_countOfRegion_49 : decode cX0_countOfRegion 49 = .ok (.ireturn, 1) := by decide +kernel
theorem dX1_init_0 : decode cX1_init 0 = .ok (.aload_n 0, 1) := by decide +kernel
theorem dX1_init_1 : decode cX1_init 1 = .ok (.invokespecial 3, 3) := by decide +kernel
theorem dX1_init_4 : decode cX1_init 4 = .ok (.aload_n 0, 1) := by decide +kernel
theorem dX1_init_5 : decode cX1_init 5 = .ok (.sipush 576, 3) := by decide +kernel
theorem dX1_init_8 : decode cX1_init 8 = .ok (.newarray .int, 2) := by decide +kernel
theorem dX1_init_10 : decode cX1_init 10 = .ok (.putfield 9, 3) := by decide +kernel
theorem dX1_init_13 : decode cX1_init 13 = .ok (.return_, 1) := by decide +kernel
theorem dX1_with_0 : decode cX1_with 0 = .ok (.iload_n 0, 1) := by decide +kernel
theorem dX1_with_1 : decode cX1_with 1 = .ok (.iload_n 2, 1) := by decide +kernel
theorem dX1_with_2 : decode cX1_with 2 = .ok (.iconst 2, 1) := by decide +kernel
theorem dX1_with_3 : decode cX1_with 3 = .ok (.iload_n 1, 1) := by decide +kernel
theorem dX1_with_4 : decode cX1_with 4 = .ok (.imul, 1) := by decide +kernel
theorem dX1_with_5 : decode cX1_with 5 = .ok (.ishl, 1) := by decide +kernel
theorem dX1_with_6 : decode cX1_with 6 = .ok (.ior, 1) := by decide +kernel
theorem dX1_with_7 : decode cX1_with 7 = .ok (.ireturn, 1) := by decide +kernel
theorem dX1_groupIn_0 : decode cX1_groupIn 0 = .ok (.iload_n 0, 1) := by decide +kernel
theorem dX1_groupIn_1 : decode cX1_groupIn 1 = .ok (.iconst 2, 1) := by decide +kernel
theorem dX1_groupIn_2 : decode cX1_groupIn 2 = .ok (.iload_n 1, 1) := by decide +kernel
theorem dX1_groupIn_3 : decode cX1_groupIn 3 = .ok (.imul, 1) := by decide +kernel
theorem dX1_groupIn_4 : decode cX1_groupIn 4 = .ok (.ishr, 1) := by decide +kernel
theorem dX1_groupIn_5 : decode cX1_groupIn 5 = .ok (.iconst 3, 1) := by decide +kernel
theorem dX1_groupIn_6 : decode cX1_groupIn 6 = .ok (.iand, 1) := by decide +kernel
theorem dX1_groupIn_7 : decode cX1_groupIn 7 = .ok (.ireturn, 1) := by decide +kernel
theorem dX1_clear_0 : decode cX1_clear 0 = .ok (.aload_n 0, 1) := by decide +kernel
theorem dX1_clear_1 : decode cX1_clear 1 = .ok (.iconst 0, 1) := by decide +kernel
theorem dX1_clear_2 : decode cX1_clear 2 = .ok (.putfield 15, 3) := by decide +kernel
theorem dX1_clear_5 : decode cX1_clear 5 = .ok (.return_, 1) := by decide +kernel
theorem dX1_add_0 : decode cX1_add 0 = .ok (.aload_n 0, 1) := by decide +kernel
theorem dX1_add_1 : decode cX1_add 1 = .ok (.getfield 15, 3) := by decide +kernel
theorem dX1_add_4 : decode cX1_add 4 = .ok (.aload_n 0, 1) := by decide +kernel
theorem dX1_add_5 : decode cX1_add 5 = .ok (.getfield 9, 3) := by decide +kernel
theorem dX1_add_8 : decode cX1_add 8 = .ok (.arraylength, 1) := by decide +kernel
theorem dX1_add_9 : decode cX1_add 9 = .ok (.if_icmp .ge 23, 3) := by decide +kernel
theorem dX1_add_12 : decode cX1_add 12 = .ok (.aload_n 0, 1) := by decide +kernel
theorem dX1_add_13 : decode cX1_add 13 = .ok (.getfield 9, 3) := by decide +kernel
theorem dX1_add_16 : decode cX1_add 16 = .ok (.aload_n 0, 1) := by decide +kernel
theorem dX1_add_17 : decode cX1_add 17 = .ok (.getfield 15, 3) := by decide +kernel
theorem dX1_add_20 : decode cX1_add 20 = .ok (.iload_n 1, 1) := by decide +kernel
theorem dX1_add_21 : decode cX1_add 21 = .ok (.iastore, 1) := by decide +kernel
theorem dX1_add_22 : decode cX1_add 22 = .ok (.aload_n 0, 1) := by decide +kernel
theorem dX1_add_23 : decode cX1_add 23 = .ok (.dup, 1) := by decide +kernel
theorem dX1_add_24 : decode cX1_add 24 = .ok (.getfield 15, 3) := by decide +kernel
theorem dX1_add_27 : decode cX1_add 27 = .ok (.iconst 1, 1) := by decide +kernel
theorem dX1_add_28 : decode cX1_add 28 = .ok (.iadd, 1) := by decide +kernel
theorem dX1_add_29 : decode cX1_add 29 = .ok (.putfield 15, 3) := by decide +kernel
theorem dX1_add_32 : decode cX1_add 32 = .ok (.return_, 1) := by decide +kernel
theorem dX1_first_0 : decode cX1_first 0 = .ok (.aload_n 0, 1) := by decide +kernel
theorem dX1_first_1 : decode cX1_first 1 = .ok (.getfield 9, 3) := by decide +kernel
theorem dX1_first_4 : decode cX1_first 4 = .ok (.iconst 0, 1) := by decide +kernel
theorem dX1_first_5 : decode cX1_first 5 = .ok (.iaload, 1) := by decide +kernel
theorem dX1_first_6 : decode cX1_first 6 = .ok (.ireturn, 1) := by decide +kernel
set_option maxRecDepth 20000 in
theorem ggX1_countInGroup_X1_groupIn : GoodIn wsX1_countInGroup wsX1_groupIn := goodIn_r _ [6] (by decide +kernel) (by decide +kernel)
set_option maxRecDepth 20000 in
theorem gX1_countInGroup_X1_groupIn : GoodIn wsX1_countInGroup (va_wsS RX1 19 yX1_groupIn wsX1_groupIn) := goodIn_app (goodIn_of _ (by decide +kernel)) ggX1_countInGroup_X1_groupIn
theorem dX1_countInGroup_0 : decode cX1_countInGroup 0 = .ok (.iconst 0, 1) := by decide +kernel
theorem dX1_countInGroup_1 : decode cX1_countInGroup 1 = .ok (.istore_n 3, 1) := by decide +kernel
theorem dX1_countInGroup_2 : decode cX1_countInGroup 2 = .ok (.iconst 0, 1) := by decide +kernel
theorem dX1_countInGroup_3 : decode cX1_countInGroup 3 = .ok (.istore 4, 2) := by decide +kernel
theorem dX1_countInGroup_5 : decode cX1_countInGroup 5 = .ok (.iload 4, 2) := by decide +kernel
theorem dX1_countInGroup_7 : decode cX1_countInGroup 7 = .ok (.aload_n 0, 1) := by decide +kernel
theorem dX1_countInGroup_8 : decode cX1_countInGroup 8 = .ok (.getfield 15, 3) := by decide +kernel
theorem dX1_countInGroup_11 : decode cX1_countInGroup 11 = .ok (.if_icmp .ge 27, 3) := by decide +kernel
theorem dX1_countInGroup_14 : decode cX1_countInGroup 14 = .ok (.aload_n 0, 1) := by decide +kernel
theorem dX1_countInGroup_15 : decode cX1_countInGroup 15 = .ok (.getfield 9, 3) := by decide +kernel
theorem dX1_countInGroup_18 : decode cX1_countInGroup 18 = .ok (.iload 4, 2) := by decide +kernel
theorem dX1_countInGroup_20 : decode cX1_countInGroup 20 = .ok (.iaload, 1) := by decide +kernel
theorem dX1_countInGroup_21 : decode cX1_countInGroup 21 = .ok (.iload_n 1, 1) := by decide +kernel
theorem dX1_countInGroup_22 : decode cX1_countInGroup 22 = .ok (.invokestatic 19, 3) := by decide +kernel
theorem dX1_countInGroup_25 : decode cX1_countInGroup 25 = .ok (.iload_n 2, 1) := by decide +kernel
theorem dX1_countInGroup_26 : decode cX1_countInGroup 26 = .ok (.if_icmp .ne 6, 3) := by decide +kernel
theorem dX1_countInGroup_29 : decode cX1_countInGroup 29 = .ok (.iinc 3 1, 3) := by decide +kernel
theorem dX1_countInGroup_32 : decode cX1_countInGroup 32 = .ok (.iinc 4 1, 3) := by decide +kernel
theorem dX1_countInGroup_35 : decode cX1_countInGroup 35 = .ok (.goto (-30), 3) := by decide +kernel
theorem dX1_countInGroup_38 : decode cX1_countInGroup 38 = .ok (.iload_n 3, 1) := by decide +kernel
theorem dX1_countInGroup_39 : decode cX1_countInGroup 39 = .ok (.ireturn, 1) := by decide +kernel
set_option maxRecDepth 20000 in
theorem ggX1_countTogether_X1_groupIn : GoodIn wsX1_countTogether wsX1_groupIn := goodIn_r _ [6] (by decide +kernel) (by decide +kernel)
set_option maxRecDepth 20000 in
theorem gX1_countTogether_X1_groupIn : GoodIn wsX1_countTogether (va_wsS RX1 19 yX1_groupIn wsX1_groupIn) := goodIn_app (goodIn_of _ (by decide +kernel)) ggX1_countTogether_X1_groupIn
theorem dX1_countTogether_0 : decode cX1_countTogether 0 = .ok (.iconst 0, 1) := by decide +kernel
theorem dX1_countTogether_1 : decode cX1_countTogether 1 = .ok (.istore_n 3, 1) := by decide +kernel
theorem dX1_countTogether_2 : decode cX1_countTogether 2 = .ok (.iconst 0, 1) := by decide +kernel
theorem dX1_countTogether_3 : decode cX1_countTogether 3 = .ok (.istore 4, 2) := by decide +kernel
theorem dX1_countTogether_5 : decode cX1_countTogether 5 = .ok (.iload 4, 2) := by decide +kernel
theorem dX1_countTogether_7 : decode cX1_countTogether 7 = .ok (.aload_n 0, 1) := by decide +kernel
theorem dX1_countTogether_8 : decode cX1_countTogether 8 = .ok (.getfield 15, 3) := by decide +kernel
theorem dX1_countTogether_11 : decode cX1_countTogether 11 = .ok (.if_icmp .ge 37, 3) := by decide +kernel
theorem dX1_countTogether_14 : decode cX1_countTogether 14 = .ok (.aload_n 0, 1) := by decide +kernel
theorem dX1_countTogether_15 : decode cX1_countTogether 15 = .ok (.getfield 9, 3) := by decide +kernel
theorem dX1_countTogether_18 : decode cX1_countTogether 18 = .ok (.iload 4, 2) := by decide +kernel
theorem dX1_countTogether_20 : decode cX1_countTogether 20 = .ok (.iaload, 1) := by decide +kernel
theorem dX1_countTogether_21 : decode cX1_countTogether 21 = .ok (.iload_n 1, 1) := by decide +kernel
theorem dX1_countTogether_22 : decode cX1_countTogether 22 = .ok (.invokestatic 19, 3) := by decide +kernel
theorem dX1_countTogether_25 : decode cX1_countTogether 25 = .ok (.aload_n 0, 1) := by decide +kernel
theorem dX1_countTogether_26 : decode cX1_countTogether 26 = .ok (.getfield 9, 3) := by decide +kernel
theorem dX1_countTogether_29 : decode cX1_countTogether 29 = .ok (.iload 4, 2) := by decide +kernel
theorem dX1_countTogether_31 : decode cX1_countTogether 31 = .ok (.iaload, 1) := by decide +kernel
theorem dX1_countTogether_32 : decode cX1_countTogether 32 = .ok (.iload_n 2, 1) := by decide +kernel
theorem dX1_countTogether_33 : decode cX1_countTogether 33 = .ok (.invokestatic 19, 3) := by decide +kernel
theorem dX1_countTogether_36 : decode cX1_countTogether 36 = .ok (.if_icmp .ne 6, 3) := by decide +kernel
theorem dX1_countTogether_39 : decode cX1_countTogether 39 = .ok (.iinc 3 1, 3) := by decide +kernel
theorem dX1_countTogether_42 : decode cX1_countTogether 42 = .ok (.iinc 4 1, 3) := by decide +kernel
theorem dX1_countTogether_45 : decode cX1_countTogether 45 = .ok (.goto (-40), 3) := by decide +kernel
theorem dX1_countTogether_48 : decode cX1_countTogether 48 = .ok (.iload_n 3, 1) := by decide +kernel
theorem dX1_countTogether_49 : decode cX1_countTogether 49 = .ok (.ireturn, 1) := by decide +kernel
set_option maxRecDepth 20000 in
theorem ggX1_lowestGroup_X1_groupIn : GoodIn wsX1_lowestGroup wsX1_groupIn := goodIn_r _ [6] (by decide +kernel) (by decide +kernel)
set_option maxRecDepth 20000 in
theorem gX1_lowestGroup_X1_groupIn : GoodIn wsX1_lowestGroup (va_wsS RX1 19 yX1_groupIn wsX1_groupIn) := goodIn_app (goodIn_of _ (by decide +kernel)) ggX1_lowestGroup_X1_groupIn
theorem dX1_lowestGroup_0 : decode cX1_lowestGroup 0 = .ok (.iconst (-1), 1) := by decide +kernel
theorem dX1_lowestGroup_1 : decode cX1_lowestGroup 1 = .ok (.istore_n 2, 1) := by decide +kernel
theorem dX1_lowestGroup_2 : decode cX1_lowestGroup 2 = .ok (.iconst 0, 1) := by decide +kernel
theorem dX1_lowestGroup_3 : decode cX1_lowestGroup 3 = .ok (.istore_n 3, 1) := by decide +kernel
theorem dX1_lowestGroup_4 : decode cX1_lowestGroup 4 = .ok (.iload_n 3, 1) := by decide +kernel
theorem dX1_lowestGroup_5 : decode cX1_lowestGroup 5 = .ok (.aload_n 0, 1) := by decide +kernel
theorem dX1_lowestGroup_6 : decode cX1_lowestGroup 6 = .ok (.getfield 15, 3) := by decide +kernel
theorem dX1_lowestGroup_9 : decode cX1_lowestGroup 9 = .ok (.if_icmp .ge 35, 3) := by decide +kernel
theorem dX1_lowestGroup_12 : decode cX1_lowestGroup 12 = .ok (.aload_n 0, 1) := by decide +kernel
theorem dX1_lowestGroup_13 : decode cX1_lowestGroup 13 = .ok (.getfield 9, 3) := by decide +kernel
theorem dX1_lowestGroup_16 : decode cX1_lowestGroup 16 = .ok (.iload_n 3, 1) := by decide +kernel
theorem dX1_lowestGroup_17 : decode cX1_lowestGroup 17 = .ok (.iaload, 1) := by decide +kernel
theorem dX1_lowestGroup_18 : decode cX1_lowestGroup 18 = .ok (.iload_n 1, 1) := by decide +kernel
theorem dX1_lowestGroup_19 : decode cX1_lowestGroup 19 = .ok (.invokestatic 19, 3) := by decide +kernel
theorem dX1_lowestGroup_22 : decode cX1_lowestGroup 22 = .ok (.istore 4, 2) := by decide +kernel
theorem dX1_lowestGroup_24 : decode cX1_lowestGroup 24 = .ok (.iload_n 2, 1) := by decide +kernel
theorem dX1_lowestGroup_25 : decode cX1_lowestGroup 25 = .ok (.iconst (-1), 1) := by decide +kernel
theorem dX1_lowestGroup_26 : decode cX1_lowestGroup 26 = .ok (.if_icmp .eq 9, 3) := by decide +kernel
theorem dX1_lowestGroup_29 : decode cX1_lowestGroup 29 = .ok (.iload 4, 2) := by decide +kernel
theorem dX1_lowestGroup_31 : decode cX1_lowestGroup 31 = .ok (.iload_n 2, 1) := by decide +kernel
theorem dX1_lowestGroup_32 : decode cX1_lowestGroup 32 = .ok (.if_icmp .ge 6, 3) := by decide +kernel
theorem dX1_lowestGroup_35 : decode cX1_lowestGroup 35 = .ok (.iload 4, 2) := by decide +kernel
theorem dX1_lowestGroup_37 : decode cX1_lowestGroup 37 = .ok (.istore_n 2, 1) := by decide +kernel
theorem dX1_lowestGroup_38 : decode cX1_lowestGroup 38 = .ok (.iinc 3 1, 3) := by decide +kernel
theorem dX1_lowestGroup_41 : decode cX1_lowestGroup 41 = .ok (.goto (-37), 3) := by decide +kernel
theorem dX1_lowestGroup_44 : decode cX1_lowestGroup 44 = .ok (.iload_n 2, 1) := by decide +kernel
theorem dX1_lowestGroup_45 : decode cX1_lowestGroup 45 = .ok (.ireturn, 1) := by decide +kernel
set_option maxRecDepth 20000 in
theorem ggX1_narrow_X1_groupIn : GoodIn wsX1_narrow wsX1_groupIn := goodIn_r _ [6] (by decide +kernel) (by decide +kernel)
set_option maxRecDepth 20000 in
theorem gX1_narrow_X1_groupIn : GoodIn wsX1_narrow (va_wsS RX1 19 yX1_groupIn wsX1_groupIn) := goodIn_app (goodIn_of _ (by decide +kernel)) ggX1_narrow_X1_groupIn
theorem dX1_narrow_0 : decode cX1_narrow 0 = .ok (.iconst 0, 1) := by decide +kernel
theorem dX1_narrow_1 : decode cX1_narrow 1 = .ok (.istore_n 3, 1) := by decide +kernel
theorem dX1_narrow_2 : decode cX1_narrow 2 = .ok (.iconst 0, 1) := by decide +kernel
theorem dX1_narrow_3 : decode cX1_narrow 3 = .ok (.istore 4, 2) := by decide +kernel
theorem dX1_narrow_5 : decode cX1_narrow 5 = .ok (.iload 4, 2) := by decide +kernel
theorem dX1_narrow_7 : decode cX1_narrow 7 = .ok (.aload_n 0, 1) := by decide +kernel
theorem dX1_narrow_8 : decode cX1_narrow 8 = .ok (.getfield 15, 3) := by decide +kernel
theorem dX1_narrow_11 : decode cX1_narrow 11 = .ok (.if_icmp .ge 52, 3) := by decide +kernel
theorem dX1_narrow_14 : decode cX1_narrow 14 = .ok (.aload_n 0, 1) := by decide +kernel
theorem dX1_narrow_15 : decode cX1_narrow 15 = .ok (.getfield 9, 3) := by decide +kernel
theorem dX1_narrow_18 : decode cX1_narrow 18 = .ok (.iload 4, 2) := by decide +kernel
theorem dX1_narrow_20 : decode cX1_narrow 20 = .ok (.iaload, 1) := by decide +kernel
theorem dX1_narrow_21 : decode cX1_narrow 21 = .ok (.istore 5, 2) := by decide +kernel
theorem dX1_narrow_23 : decode cX1_narrow 23 = .ok (.iload 5, 2) := by decide +kernel
theorem dX1_narrow_25 : decode cX1_narrow 25 = .ok (.iload_n 1, 1) := by decide +kernel
theorem dX1_narrow_26 : decode cX1_narrow 26 = .ok (.invokestatic 19, 3) := by decide +kernel
theorem dX1_narrow_29 : decode cX1_narrow 29 = .ok (.iload_n 2, 1) := by decide +kernel
theorem dX1_narrow_30 : decode cX1_narrow 30 = .ok (.if_icmp .ne 27, 3) := by decide +kernel
theorem dX1_narrow_33 : decode cX1_narrow 33 = .ok (.aload_n 0, 1) := by decide +kernel
theorem dX1_narrow_34 : decode cX1_narrow 34 = .ok (.getfield 9, 3) := by decide +kernel
theorem dX1_narrow_37 : decode cX1_narrow 37 = .ok (.iload 4, 2) := by decide +kernel
theorem dX1_narrow_39 : decode cX1_narrow 39 = .ok (.aload_n 0, 1) := by decide +kernel
theorem dX1_narrow_40 : decode cX1_narrow 40 = .ok (.getfield 9, 3) := by decide +kernel
theorem dX1_narrow_43 : decode cX1_narrow 43 = .ok (.iload_n 3, 1) := by decide +kernel
theorem dX1_narrow_44 : decode cX1_narrow 44 = .ok (.iaload, 1) := by decide +kernel
theorem dX1_narrow_45 : decode cX1_narrow 45 = .ok (.iastore, 1) := by decide +kernel
theorem dX1_narrow_46 : decode cX1_narrow 46 = .ok (.aload_n 0, 1) := by decide +kernel
theorem dX1_narrow_47 : decode cX1_narrow 47 = .ok (.getfield 9, 3) := by decide +kernel
theorem dX1_narrow_50 : decode cX1_narrow 50 = .ok (.iload_n 3, 1) := by decide +kernel
theorem dX1_narrow_51 : decode cX1_narrow 51 = .ok (.iload 5, 2) := by decide +kernel
theorem dX1_narrow_53 : decode cX1_narrow 53 = .ok (.iastore, 1) := by decide +kernel
theorem dX1_narrow_54 : decode cX1_narrow 54 = .ok (.iinc 3 1, 3) := by decide +kernel
theorem dX1_narrow_57 : decode cX1_narrow 57 = .ok (.iinc 4 1, 3) := by decide +kernel
theorem dX1_narrow_60 : decode cX1_narrow 60 = .ok (.goto (-55), 3) := by decide +kernel
theorem dX1_narrow_63 : decode cX1_narrow 63 = .ok (.aload_n 0, 1) := by decide +kernel
theorem dX1_narrow_64 : decode cX1_narrow 64 = .ok (.iload_n 3, 1) := by decide +kernel
theorem dX1_narrow_65 : decode cX1_narrow 65 = .ok (.putfield 15, 3) := by decide +kernel
theorem dX1_narrow_68 : decode cX1_narrow 68 = .ok (.return_, 1) := by decide +kernel
theorem dX1_widen_0 : decode cX1_widen 0 = .ok (.aload_n 0, 1) := by decide +kernel
theorem dX1_widen_1 : decode cX1_widen 1 = .ok (.iload_n 1, 1) := by decide +kernel
theorem dX1_widen_2 : decode cX1_widen 2 = .ok (.putfield 15, 3) := by decide +kernel
theorem dX1_widen_5 : decode cX1_widen 5 = .ok (.return_, 1) := by decide +kernel
set_option maxRecDepth 20000 in
theorem ggX2_init_X0_init : GoodIn wsX2_init wsX0_init := goodIn_r _ [18, 19, 2, 3, 13, 20, 21, 22, 23, 24, 25, 53, 54, 55, 56, 57, 58, 59, 60, 61] (by decide +kernel) (by decide +kernel)
set_option maxRecDepth 20000 in
theorem gX2_init_X0_init_n9 : GoodIn wsX2_init (wsX0_init) := ggX2_init_X0_init
set_option maxRecDepth 20000 in
theorem ggX2_init_X1_init : GoodIn wsX2_init wsX1_init := goodIn_r _ [27, 28, 2, 3, 13, 29, 71, 72] (by decide +kernel) (by decide +kernel)
set_option maxRecDepth 20000 in
theorem gX2_init_X1_init_n18 : GoodIn wsX2_init (wsX1_init) := ggX2_init_X1_init
set_option maxRecDepth 20000 in
theorem ggX2_init_X2_startWith : GoodIn wsX2_init wsX2_startWith := goodIn_r _ [34, 7, 14, 35, 36, 37, 38, 6, 39, 40, 41, 42, 21, 20, 22, 23, 43, 44, 45, 46, 24, 47, 48, 49, 33, 50, 51, 52, 62, 63, 64, 65, 66, 67, 68, 69, 70, 53, 54, 55, 56, 57, 58, 59, 60, 61] (by decide +kernel) (by decide +kernel)
set_option maxRecDepth 20000 in
theorem gX2_init_X2_startWith : GoodIn wsX2_init (wsV RX2 36 RX2 yX2_startWith wsX2_startWith) := goodIn_app (goodIn_of _ (by decide +kernel)) ggX2_init_X2_startWith
