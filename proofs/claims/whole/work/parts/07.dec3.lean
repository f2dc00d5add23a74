theorem d_MO_init_0 : decode b_MO_init 0 = .ok (.aload_n 0, 1) := by decide +kernel
theorem d_MO_init_1 : decode b_MO_init 1 = .ok (.invokespecial 1, 3) := by decide +kernel
theorem d_MO_init_4 : decode b_MO_init 4 = .ok (.aload_n 0, 1) := by decide +kernel
theorem d_MO_init_5 : decode b_MO_init 5 = .ok (.bipush 40, 2) := by decide +kernel
theorem d_MO_init_7 : decode b_MO_init 7 = .ok (.newarray .int, 2) := by decide +kernel
theorem d_MO_init_9 : decode b_MO_init 9 = .ok (.putfield 7, 3) := by decide +kernel
theorem d_MO_init_12 : decode b_MO_init 12 = .ok (.aload_n 0, 1) := by decide +kernel
theorem d_MO_init_13 : decode b_MO_init 13 = .ok (.sipush 160, 3) := by decide +kernel
theorem d_MO_init_16 : decode b_MO_init 16 = .ok (.newarray .int, 2) := by decide +kernel
theorem d_MO_init_18 : decode b_MO_init 18 = .ok (.putfield 13, 3) := by decide +kernel
theorem d_MO_init_21 : decode b_MO_init 21 = .ok (.aload_n 0, 1) := by decide +kernel
theorem d_MO_init_22 : decode b_MO_init 22 = .ok (.sipush 160, 3) := by decide +kernel
theorem d_MO_init_25 : decode b_MO_init 25 = .ok (.newarray .int, 2) := by decide +kernel
theorem d_MO_init_27 : decode b_MO_init 27 = .ok (.putfield 16, 3) := by decide +kernel
theorem d_MO_init_30 : decode b_MO_init 30 = .ok (.aload_n 0, 1) := by decide +kernel
theorem d_MO_init_31 : decode b_MO_init 31 = .ok (.sipush 160, 3) := by decide +kernel
theorem d_MO_init_34 : decode b_MO_init 34 = .ok (.newarray .long, 2) := by decide +kernel
theorem d_MO_init_36 : decode b_MO_init 36 = .ok (.putfield 19, 3) := by decide +kernel
theorem d_MO_init_39 : decode b_MO_init 39 = .ok (.aload_n 0, 1) := by decide +kernel
theorem d_MO_init_40 : decode b_MO_init 40 = .ok (.sipush 160, 3) := by decide +kernel
theorem d_MO_init_43 : decode b_MO_init 43 = .ok (.newarray .boolean, 2) := by decide +kernel
theorem d_MO_init_45 : decode b_MO_init 45 = .ok (.putfield 23, 3) := by decide +kernel
theorem d_MO_init_48 : decode b_MO_init 48 = .ok (.aload_n 0, 1) := by decide +kernel
theorem d_MO_init_49 : decode b_MO_init 49 = .ok (.sipush 160, 3) := by decide +kernel
theorem d_MO_init_52 : decode b_MO_init 52 = .ok (.newarray .boolean, 2) := by decide +kernel
theorem d_MO_init_54 : decode b_MO_init 54 = .ok (.putfield 27, 3) := by decide +kernel
theorem d_MO_init_57 : decode b_MO_init 57 = .ok (.aload_n 0, 1) := by decide +kernel
theorem d_MO_init_58 : decode b_MO_init 58 = .ok (.bipush 80, 2) := by decide +kernel
theorem d_MO_init_60 : decode b_MO_init 60 = .ok (.newarray .int, 2) := by decide +kernel
theorem d_MO_init_62 : decode b_MO_init 62 = .ok (.putfield 30, 3) := by decide +kernel
theorem d_MO_init_65 : decode b_MO_init 65 = .ok (.aload_n 0, 1) := by decide +kernel
theorem d_MO_init_66 : decode b_MO_init 66 = .ok (.bipush 80, 2) := by decide +kernel
theorem d_MO_init_68 : decode b_MO_init 68 = .ok (.newarray .int, 2) := by decide +kernel
theorem d_MO_init_70 : decode b_MO_init 70 = .ok (.putfield 33, 3) := by decide +kernel
theorem d_MO_init_73 : decode b_MO_init 73 = .ok (.aload_n 0, 1) := by decide +kernel
theorem d_MO_init_74 : decode b_MO_init 74 = .ok (.bipush 80, 2) := by decide +kernel
theorem d_MO_init_76 : decode b_MO_init 76 = .ok (.newarray .int, 2) := by decide +kernel
theorem d_MO_init_78 : decode b_MO_init 78 = .ok (.putfield 36, 3) := by decide +kernel
theorem d_MO_init_81 : decode b_MO_init 81 = .ok (.aload_n 0, 1) := by decide +kernel
theorem d_MO_init_82 : decode b_MO_init 82 = .ok (.bipush 80, 2) := by decide +kernel
theorem d_MO_init_84 : decode b_MO_init 84 = .ok (.newarray .int, 2) := by decide +kernel
theorem d_MO_init_86 : decode b_MO_init 86 = .ok (.putfield 39, 3) := by decide +kernel
theorem d_MO_init_89 : decode b_MO_init 89 = .ok (.aload_n 0, 1) := by decide +kernel
theorem d_MO_init_90 : decode b_MO_init 90 = .ok (.bipush 80, 2) := by decide +kernel
theorem d_MO_init_92 : decode b_MO_init 92 = .ok (.newarray .boolean, 2) := by decide +kernel
theorem d_MO_init_94 : decode b_MO_init 94 = .ok (.putfield 42, 3) := by decide +kernel
theorem d_MO_init_97 : decode b_MO_init 97 = .ok (.aload_n 0, 1) := by decide +kernel
theorem d_MO_init_98 : decode b_MO_init 98 = .ok (.sipush 960, 3) := by decide +kernel
theorem d_MO_init_101 : decode b_MO_init 101 = .ok (.newarray .int, 2) := by decide +kernel
theorem d_MO_init_103 : decode b_MO_init 103 = .ok (.putfield 45, 3) := by decide +kernel
theorem d_MO_init_106 : decode b_MO_init 106 = .ok (.aload_n 0, 1) := by decide +kernel
theorem d_MO_init_107 : decode b_MO_init 107 = .ok (.sipush 960, 3) := by decide +kernel
theorem d_MO_init_110 : decode b_MO_init 110 = .ok (.newarray .long, 2) := by decide +kernel
theorem d_MO_init_112 : decode b_MO_init 112 = .ok (.putfield 48, 3) := by decide +kernel
theorem d_MO_init_115 : decode b_MO_init 115 = .ok (.aload_n 0, 1) := by decide +kernel
theorem d_MO_init_116 : decode b_MO_init 116 = .ok (.sipush 960, 3) := by decide +kernel
theorem d_MO_init_119 : decode b_MO_init 119 = .ok (.newarray .boolean, 2) := by decide +kernel
theorem d_MO_init_121 : decode b_MO_init 121 = .ok (.putfield 51, 3) := by decide +kernel
theorem d_MO_init_124 : decode b_MO_init 124 = .ok (.aload_n 0, 1) := by decide +kernel
theorem d_MO_init_125 : decode b_MO_init 125 = .ok (.sipush 960, 3) := by decide +kernel
theorem d_MO_init_128 : decode b_MO_init 128 = .ok (.newarray .boolean, 2) := by decide +kernel
theorem d_MO_init_130 : decode b_MO_init 130 = .ok (.putfield 54, 3) := by decide +kernel
theorem d_MO_init_133 : decode b_MO_init 133 = .ok (.aload_n 0, 1) := by decide +kernel
theorem d_MO_init_134 : decode b_MO_init 134 = .ok (.bipush 48, 2) := by decide +kernel
theorem d_MO_init_136 : decode b_MO_init 136 = .ok (.newarray .boolean, 2) := by decide +kernel
theorem d_MO_init_138 : decode b_MO_init 138 = .ok (.putfield 57, 3) := by decide +kernel
theorem d_MO_init_141 : decode b_MO_init 141 = .ok (.aload_n 0, 1) := by decide +kernel
theorem d_MO_init_142 : decode b_MO_init 142 = .ok (.bipush 60, 2) := by decide +kernel
theorem d_MO_init_144 : decode b_MO_init 144 = .ok (.newarray .long, 2) := by decide +kernel
theorem d_MO_init_146 : decode b_MO_init 146 = .ok (.putfield 60, 3) := by decide +kernel
theorem d_MO_init_149 : decode b_MO_init 149 = .ok (.aload_n 0, 1) := by decide +kernel
theorem d_MO_init_150 : decode b_MO_init 150 = .ok (.bipush 100, 2) := by decide +kernel
theorem d_MO_init_152 : decode b_MO_init 152 = .ok (.newarray .long, 2) := by decide +kernel
theorem d_MO_init_154 : decode b_MO_init 154 = .ok (.putfield 63, 3) := by decide +kernel
theorem d_MO_init_157 : decode b_MO_init 157 = .ok (.aload_n 0, 1) := by decide +kernel
theorem d_MO_init_158 : decode b_MO_init 158 = .ok (.sipush 1220, 3) := by decide +kernel
theorem d_MO_init_161 : decode b_MO_init 161 = .ok (.newarray .long, 2) := by decide +kernel
theorem d_MO_init_163 : decode b_MO_init 163 = .ok (.putfield 66, 3) := by decide +kernel
theorem d_MO_init_166 : decode b_MO_init 166 = .ok (.return_, 1) := by decide +kernel
theorem d_MO_within_0 : decode b_MO_within 0 = .ok (.iload_n 0, 1) := by decide +kernel
theorem d_MO_within_1 : decode b_MO_within 1 = .ok (.ifCond .lt 12, 3) := by decide +kernel
theorem d_MO_within_4 : decode b_MO_within 4 = .ok (.iload_n 0, 1) := by decide +kernel
theorem d_MO_within_5 : decode b_MO_within 5 = .ok (.iload_n 1, 1) := by decide +kernel
theorem d_MO_within_6 : decode b_MO_within 6 = .ok (.if_icmp .gt 7, 3) := by decide +kernel
theorem d_MO_within_9 : decode b_MO_within 9 = .ok (.iconst 1, 1) := by decide +kernel
theorem d_MO_within_10 : decode b_MO_within 10 = .ok (.goto 4, 3) := by decide +kernel
theorem d_MO_within_13 : decode b_MO_within 13 = .ok (.iconst 0, 1) := by decide +kernel
theorem d_MO_within_14 : decode b_MO_within 14 = .ok (.ireturn, 1) := by decide +kernel
theorem d_MO_isPath_0 : decode b_MO_isPath 0 = .ok (.iload_n 1, 1) := by decide +kernel
theorem d_MO_isPath_1 : decode b_MO_isPath 1 = .ok (.ifCond .lt 15, 3) := by decide +kernel
theorem d_MO_isPath_4 : decode b_MO_isPath 4 = .ok (.iload_n 1, 1) := by decide +kernel
theorem d_MO_isPath_5 : decode b_MO_isPath 5 = .ok (.aload_n 0, 1) := by decide +kernel
theorem d_MO_isPath_6 : decode b_MO_isPath 6 = .ok (.getfield 69, 3) := by decide +kernel
theorem d_MO_isPath_9 : decode b_MO_isPath 9 = .ok (.if_icmp .ge 7, 3) := by decide +kernel
theorem d_MO_isPath_12 : decode b_MO_isPath 12 = .ok (.iconst 1, 1) := by decide +kernel
theorem d_MO_isPath_13 : decode b_MO_isPath 13 = .ok (.goto 4, 3) := by decide +kernel
theorem d_MO_isPath_16 : decode b_MO_isPath 16 = .ok (.iconst 0, 1) := by decide +kernel
theorem d_MO_isPath_17 : decode b_MO_isPath 17 = .ok (.ireturn, 1) := by decide +kernel
theorem d_MO_isOpenStep_0 : decode b_MO_isOpenStep 0 = .ok (.iload_n 1, 1) := by decide +kernel
theorem d_MO_isOpenStep_1 : decode b_MO_isOpenStep 1 = .ok (.ifCond .lt 40, 3) := by decide +kernel
theorem d_MO_isOpenStep_4 : decode b_MO_isOpenStep 4 = .ok (.iload_n 1, 1) := by decide +kernel
theorem d_MO_isOpenStep_5 : decode b_MO_isOpenStep 5 = .ok (.aload_n 0, 1) := by decide +kernel
theorem d_MO_isOpenStep_6 : decode b_MO_isOpenStep 6 = .ok (.getfield 73, 3) := by decide +kernel
theorem d_MO_isOpenStep_9 : decode b_MO_isOpenStep 9 = .ok (.if_icmp .ge 32, 3) := by decide +kernel
theorem d_MO_isOpenStep_12 : decode b_MO_isOpenStep 12 = .ok (.aload_n 0, 1) := by decide +kernel
theorem d_MO_isOpenStep_13 : decode b_MO_isOpenStep 13 = .ok (.getfield 42, 3) := by decide +kernel
theorem d_MO_isOpenStep_16 : decode b_MO_isOpenStep 16 = .ok (.iload_n 1, 1) := by decide +kernel
theorem d_MO_isOpenStep_17 : decode b_MO_isOpenStep 17 = .ok (.ifCond .lt 15, 3) := by decide +kernel
theorem d_MO_isOpenStep_20 : decode b_MO_isOpenStep 20 = .ok (.iload_n 1, 1) := by decide +kernel
theorem d_MO_isOpenStep_21 : decode b_MO_isOpenStep 21 = .ok (.aload_n 0, 1) := by decide +kernel
theorem d_MO_isOpenStep_22 : decode b_MO_isOpenStep 22 = .ok (.getfield 73, 3) := by decide +kernel
theorem d_MO_isOpenStep_25 : decode b_MO_isOpenStep 25 = .ok (.if_icmp .ge 7, 3) := by decide +kernel
theorem d_MO_isOpenStep_28 : decode b_MO_isOpenStep 28 = .ok (.iload_n 1, 1) := by decide +kernel
theorem d_MO_isOpenStep_29 : decode b_MO_isOpenStep 29 = .ok (.goto 4, 3) := by decide +kernel
theorem d_MO_isOpenStep_32 : decode b_MO_isOpenStep 32 = .ok (.iconst 0, 1) := by decide +kernel
theorem d_MO_isOpenStep_33 : decode b_MO_isOpenStep 33 = .ok (.baload, 1) := by decide +kernel
theorem d_MO_isOpenStep_34 : decode b_MO_isOpenStep 34 = .ok (.ifCond .eq 7, 3) := by decide +kernel
theorem d_MO_isOpenStep_37 : decode b_MO_isOpenStep 37 = .ok (.iconst 1, 1) := by decide +kernel
theorem d_MO_isOpenStep_38 : decode b_MO_isOpenStep 38 = .ok (.goto 4, 3) := by decide +kernel
theorem d_MO_isOpenStep_41 : decode b_MO_isOpenStep 41 = .ok (.iconst 0, 1) := by decide +kernel
theorem d_MO_isOpenStep_42 : decode b_MO_isOpenStep 42 = .ok (.ireturn, 1) := by decide +kernel
theorem d_MO_path_0 : decode b_MO_path 0 = .ok (.aload_n 0, 1) := by decide +kernel
theorem d_MO_path_1 : decode b_MO_path 1 = .ok (.getfield 69, 3) := by decide +kernel
theorem d_MO_path_4 : decode b_MO_path 4 = .ok (.bipush 40, 2) := by decide +kernel
theorem d_MO_path_6 : decode b_MO_path 6 = .ok (.if_icmp .eq 16, 3) := by decide +kernel
theorem d_MO_path_9 : decode b_MO_path 9 = .ok (.iload_n 1, 1) := by decide +kernel
theorem d_MO_path_10 : decode b_MO_path 10 = .ok (.iconst (-1), 1) := by decide +kernel
theorem d_MO_path_11 : decode b_MO_path 11 = .ok (.if_icmp .eq 13, 3) := by decide +kernel
theorem d_MO_path_14 : decode b_MO_path 14 = .ok (.aload_n 0, 1) := by decide +kernel
theorem d_MO_path_15 : decode b_MO_path 15 = .ok (.iload_n 1, 1) := by decide +kernel
theorem d_MO_path_16 : decode b_MO_path 16 = .ok (.invokevirtual 76, 3) := by decide +kernel
theorem d_MO_path_19 : decode b_MO_path 19 = .ok (.ifCond .ne 5, 3) := by decide +kernel
theorem d_MO_path_22 : decode b_MO_path 22 = .ok (.iconst (-1), 1) := by decide +kernel
theorem d_MO_path_23 : decode b_MO_path 23 = .ok (.ireturn, 1) := by decide +kernel
theorem d_MO_path_24 : decode b_MO_path 24 = .ok (.aload_n 0, 1) := by decide +kernel
theorem d_MO_path_25 : decode b_MO_path 25 = .ok (.getfield 7, 3) := by decide +kernel
theorem d_MO_path_28 : decode b_MO_path 28 = .ok (.aload_n 0, 1) := by decide +kernel
theorem d_MO_path_29 : decode b_MO_path 29 = .ok (.getfield 69, 3) := by decide +kernel
theorem d_MO_path_32 : decode b_MO_path 32 = .ok (.iload_n 1, 1) := by decide +kernel
theorem d_MO_path_33 : decode b_MO_path 33 = .ok (.iastore, 1) := by decide +kernel
theorem d_MO_path_34 : decode b_MO_path 34 = .ok (.aload_n 0, 1) := by decide +kernel
theorem d_MO_path_35 : decode b_MO_path 35 = .ok (.dup, 1) := by decide +kernel
theorem d_MO_path_36 : decode b_MO_path 36 = .ok (.getfield 69, 3) := by decide +kernel
theorem d_MO_path_39 : decode b_MO_path 39 = .ok (.iconst 1, 1) := by decide +kernel
theorem d_MO_path_40 : decode b_MO_path 40 = .ok (.iadd, 1) := by decide +kernel
theorem d_MO_path_41 : decode b_MO_path 41 = .ok (.putfield 69, 3) := by decide +kernel
theorem d_MO_path_44 : decode b_MO_path 44 = .ok (.aload_n 0, 1) := by decide +kernel
theorem d_MO_path_45 : decode b_MO_path 45 = .ok (.getfield 69, 3) := by decide +kernel
theorem d_MO_path_48 : decode b_MO_path 48 = .ok (.iconst 1, 1) := by decide +kernel
theorem d_MO_path_49 : decode b_MO_path 49 = .ok (.isub, 1) := by decide +kernel
theorem d_MO_path_50 : decode b_MO_path 50 = .ok (.ireturn, 1) := by decide +kernel
theorem d_MO_isWithin_0 : decode b_MO_isWithin 0 = .ok (.aload_n 0, 1) := by decide +kernel
theorem d_MO_isWithin_1 : decode b_MO_isWithin 1 = .ok (.getfield 7, 3) := by decide +kernel
theorem d_MO_isWithin_4 : decode b_MO_isWithin 4 = .ok (.iload_n 1, 1) := by decide +kernel
theorem d_MO_isWithin_5 : decode b_MO_isWithin 5 = .ok (.iaload, 1) := by decide +kernel
theorem d_MO_isWithin_6 : decode b_MO_isWithin 6 = .ok (.istore_n 3, 1) := by decide +kernel
theorem d_MO_isWithin_7 : decode b_MO_isWithin 7 = .ok (.iload_n 3, 1) := by decide +kernel
theorem d_MO_isWithin_8 : decode b_MO_isWithin 8 = .ok (.iconst (-1), 1) := by decide +kernel
theorem d_MO_isWithin_9 : decode b_MO_isWithin 9 = .ok (.if_icmp .eq 18, 3) := by decide +kernel
theorem d_MO_isWithin_12 : decode b_MO_isWithin 12 = .ok (.iload_n 3, 1) := by decide +kernel
theorem d_MO_isWithin_13 : decode b_MO_isWithin 13 = .ok (.iload_n 2, 1) := by decide +kernel
theorem d_MO_isWithin_14 : decode b_MO_isWithin 14 = .ok (.if_icmp .eq 13, 3) := by decide +kernel
theorem d_MO_isWithin_17 : decode b_MO_isWithin 17 = .ok (.aload_n 0, 1) := by decide +kernel
theorem d_MO_isWithin_18 : decode b_MO_isWithin 18 = .ok (.getfield 7, 3) := by decide +kernel
theorem d_MO_isWithin_21 : decode b_MO_isWithin 21 = .ok (.iload_n 3, 1) := by decide +kernel
theorem d_MO_isWithin_22 : decode b_MO_isWithin 22 = .ok (.iaload, 1) := by decide +kernel
theorem d_MO_isWithin_23 : decode b_MO_isWithin 23 = .ok (.istore_n 3, 1) := by decide +kernel
theorem d_MO_isWithin_24 : decode b_MO_isWithin 24 = .ok (.goto (-17), 3) := by decide +kernel
theorem d_MO_isWithin_27 : decode b_MO_isWithin 27 = .ok (.iload_n 3, 1) := by decide +kernel
theorem d_MO_isWithin_28 : decode b_MO_isWithin 28 = .ok (.iload_n 2, 1) := by decide +kernel
theorem d_MO_isWithin_29 : decode b_MO_isWithin 29 = .ok (.if_icmp .ne 7, 3) := by decide +kernel
theorem d_MO_isWithin_32 : decode b_MO_isWithin 32 = .ok (.iconst 1, 1) := by decide +kernel
theorem d_MO_isWithin_33 : decode b_MO_isWithin 33 = .ok (.goto 4, 3) := by decide +kernel
theorem d_MO_isWithin_36 : decode b_MO_isWithin 36 = .ok (.iconst 0, 1) := by decide +kernel
theorem d_MO_isWithin_37 : decode b_MO_isWithin 37 = .ok (.ireturn, 1) := by decide +kernel
theorem d_MO_meet_0 : decode b_MO_meet 0 = .ok (.iload_n 1, 1) := by decide +kernel
theorem d_MO_meet_1 : decode b_MO_meet 1 = .ok (.iload_n 2, 1) := by decide +kernel
theorem d_MO_meet_2 : decode b_MO_meet 2 = .ok (.if_icmp .eq 21, 3) := by decide +kernel
theorem d_MO_meet_5 : decode b_MO_meet 5 = .ok (.aload_n 0, 1) := by decide +kernel
theorem d_MO_meet_6 : decode b_MO_meet 6 = .ok (.iload_n 1, 1) := by decide +kernel
theorem d_MO_meet_7 : decode b_MO_meet 7 = .ok (.iload_n 2, 1) := by decide +kernel
theorem d_MO_meet_8 : decode b_MO_meet 8 = .ok (.invokevirtual 80, 3) := by decide +kernel
theorem d_MO_meet_11 : decode b_MO_meet 11 = .ok (.ifCond .ne 12, 3) := by decide +kernel
theorem d_MO_meet_14 : decode b_MO_meet 14 = .ok (.aload_n 0, 1) := by decide +kernel
theorem d_MO_meet_15 : decode b_MO_meet 15 = .ok (.iload_n 2, 1) := by decide +kernel
theorem d_MO_meet_16 : decode b_MO_meet 16 = .ok (.iload_n 1, 1) := by decide +kernel
theorem d_MO_meet_17 : decode b_MO_meet 17 = .ok (.invokevirtual 80, 3) := by decide +kernel
theorem d_MO_meet_20 : decode b_MO_meet 20 = .ok (.ifCond .eq 7, 3) := by decide +kernel
theorem d_MO_meet_23 : decode b_MO_meet 23 = .ok (.iconst 1, 1) := by decide +kernel
theorem d_MO_meet_24 : decode b_MO_meet 24 = .ok (.goto 4, 3) := by decide +kernel
theorem d_MO_meet_27 : decode b_MO_meet 27 = .ok (.iconst 0, 1) := by decide +kernel
theorem d_MO_meet_28 : decode b_MO_meet 28 = .ok (.ireturn, 1) := by decide +kernel
theorem d_MO_begin_0 : decode b_MO_begin 0 = .ok (.iload_n 1, 1) := by decide +kernel
theorem d_MO_begin_1 : decode b_MO_begin 1 = .ok (.bipush 11, 2) := by decide +kernel
theorem d_MO_begin_3 : decode b_MO_begin 3 = .ok (.invokestatic 84, 3) := by decide +kernel
theorem d_MO_begin_6 : decode b_MO_begin 6 = .ok (.ifCond .eq 29, 3) := by decide +kernel
theorem d_MO_begin_9 : decode b_MO_begin 9 = .ok (.iload_n 2, 1) := by decide +kernel
theorem d_MO_begin_10 : decode b_MO_begin 10 = .ok (.iconst 3, 1) := by decide +kernel
theorem d_MO_begin_11 : decode b_MO_begin 11 = .ok (.invokestatic 84, 3) := by decide +kernel
theorem d_MO_begin_14 : decode b_MO_begin 14 = .ok (.ifCond .eq 21, 3) := by decide +kernel
theorem d_MO_begin_17 : decode b_MO_begin 17 = .ok (.iload_n 3, 1) := by decide +kernel
theorem d_MO_begin_18 : decode b_MO_begin 18 = .ok (.bipush 7, 2) := by decide +kernel
theorem d_MO_begin_20 : decode b_MO_begin 20 = .ok (.invokestatic 84, 3) := by decide +kernel
theorem d_MO_begin_23 : decode b_MO_begin 23 = .ok (.ifCond .eq 12, 3) := by decide +kernel
theorem d_MO_begin_26 : decode b_MO_begin 26 = .ok (.aload_n 0, 1) := by decide +kernel
theorem d_MO_begin_27 : decode b_MO_begin 27 = .ok (.getfield 73, 3) := by decide +kernel
theorem d_MO_begin_30 : decode b_MO_begin 30 = .ok (.bipush 80, 2) := by decide +kernel
theorem d_MO_begin_32 : decode b_MO_begin 32 = .ok (.if_icmp .ne 5, 3) := by decide +kernel
theorem d_MO_begin_35 : decode b_MO_begin 35 = .ok (.iconst (-1), 1) := by decide +kernel
theorem d_MO_begin_36 : decode b_MO_begin 36 = .ok (.ireturn, 1) := by decide +kernel
theorem d_MO_begin_37 : decode b_MO_begin 37 = .ok (.iconst 0, 1) := by decide +kernel
theorem d_MO_begin_38 : decode b_MO_begin 38 = .ok (.istore 4, 2) := by decide +kernel
theorem d_MO_begin_40 : decode b_MO_begin 40 = .ok (.iload 4, 2) := by decide +kernel
theorem d_MO_begin_42 : decode b_MO_begin 42 = .ok (.aload_n 0, 1) := by decide +kernel
theorem d_MO_begin_43 : decode b_MO_begin 43 = .ok (.getfield 73, 3) := by decide +kernel
theorem d_MO_begin_46 : decode b_MO_begin 46 = .ok (.if_icmp .ge 44, 3) := by decide +kernel
theorem d_MO_begin_49 : decode b_MO_begin 49 = .ok (.aload_n 0, 1) := by decide +kernel
theorem d_MO_begin_50 : decode b_MO_begin 50 = .ok (.getfield 42, 3) := by decide +kernel
theorem d_MO_begin_53 : decode b_MO_begin 53 = .ok (.iload 4, 2) := by decide +kernel
theorem d_MO_begin_55 : decode b_MO_begin 55 = .ok (.baload, 1) := by decide +kernel
theorem d_MO_begin_56 : decode b_MO_begin 56 = .ok (.ifCond .eq 28, 3) := by decide +kernel
theorem d_MO_begin_59 : decode b_MO_begin 59 = .ok (.aload_n 0, 1) := by decide +kernel
theorem d_MO_begin_60 : decode b_MO_begin 60 = .ok (.getfield 30, 3) := by decide +kernel
theorem d_MO_begin_63 : decode b_MO_begin 63 = .ok (.iload 4, 2) := by decide +kernel
theorem d_MO_begin_65 : decode b_MO_begin 65 = .ok (.iaload, 1) := by decide +kernel
theorem d_MO_begin_66 : decode b_MO_begin 66 = .ok (.iload_n 1, 1) := by decide +kernel
theorem d_MO_begin_67 : decode b_MO_begin 67 = .ok (.if_icmp .ne 17, 3) := by decide +kernel
theorem d_MO_begin_70 : decode b_MO_begin 70 = .ok (.aload_n 0, 1) := by decide +kernel
theorem d_MO_begin_71 : decode b_MO_begin 71 = .ok (.getfield 33, 3) := by decide +kernel
theorem d_MO_begin_74 : decode b_MO_begin 74 = .ok (.iload 4, 2) := by decide +kernel
theorem d_MO_begin_76 : decode b_MO_begin 76 = .ok (.iaload, 1) := by decide +kernel
theorem d_MO_begin_77 : decode b_MO_begin 77 = .ok (.iload_n 2, 1) := by decide +kernel
theorem d_MO_begin_78 : decode b_MO_begin 78 = .ok (.if_icmp .ne 6, 3) := by decide +kernel
theorem d_MO_begin_81 : decode b_MO_begin 81 = .ok (.bipush (-2), 2) := by decide +kernel
theorem d_MO_begin_83 : decode b_MO_begin 83 = .ok (.ireturn, 1) := by decide +kernel
theorem d_MO_begin_84 : decode b_MO_begin 84 = .ok (.iinc 4 1, 3) := by decide +kernel
theorem d_MO_begin_87 : decode b_MO_begin 87 = .ok (.goto (-47), 3) := by decide +kernel
theorem d_MO_begin_90 : decode b_MO_begin 90 = .ok (.aload_n 0, 1) := by decide +kernel
theorem d_MO_begin_91 : decode b_MO_begin 91 = .ok (.getfield 30, 3) := by decide +kernel
theorem d_MO_begin_94 : decode b_MO_begin 94 = .ok (.aload_n 0, 1) := by decide +kernel
theorem d_MO_begin_95 : decode b_MO_begin 95 = .ok (.getfield 73, 3) := by decide +kernel
theorem d_MO_begin_98 : decode b_MO_begin 98 = .ok (.iload_n 1, 1) := by decide +kernel
theorem d_MO_begin_99 : decode b_MO_begin 99 = .ok (.iastore, 1) := by decide +kernel
theorem d_MO_begin_100 : decode b_MO_begin 100 = .ok (.aload_n 0, 1) := by decide +kernel
theorem d_MO_begin_101 : decode b_MO_begin 101 = .ok (.getfield 33, 3) := by decide +kernel
theorem d_MO_begin_104 : decode b_MO_begin 104 = .ok (.aload_n 0, 1) := by decide +kernel
theorem d_MO_begin_105 : decode b_MO_begin 105 = .ok (.getfield 73, 3) := by decide +kernel
theorem d_MO_begin_108 : decode b_MO_begin 108 = .ok (.iload_n 2, 1) := by decide +kernel
theorem d_MO_begin_109 : decode b_MO_begin 109 = .ok (.iastore, 1) := by decide +kernel
theorem d_MO_begin_110 : decode b_MO_begin 110 = .ok (.aload_n 0, 1) := by decide +kernel
theorem d_MO_begin_111 : decode b_MO_begin 111 = .ok (.getfield 36, 3) := by decide +kernel
theorem d_MO_begin_114 : decode b_MO_begin 114 = .ok (.aload_n 0, 1) := by decide +kernel
theorem d_MO_begin_115 : decode b_MO_begin 115 = .ok (.getfield 73, 3) := by decide +kernel
theorem d_MO_begin_118 : decode b_MO_begin 118 = .ok (.iload_n 3, 1) := by decide +kernel
theorem d_MO_begin_119 : decode b_MO_begin 119 = .ok (.iastore, 1) := by decide +kernel
theorem d_MO_begin_120 : decode b_MO_begin 120 = .ok (.aload_n 0, 1) := by decide +kernel
theorem d_MO_begin_121 : decode b_MO_begin 121 = .ok (.getfield 39, 3) := by decide +kernel
theorem d_MO_begin_124 : decode b_MO_begin 124 = .ok (.aload_n 0, 1) := by decide +kernel
theorem d_MO_begin_125 : decode b_MO_begin 125 = .ok (.getfield 73, 3) := by decide +kernel
theorem d_MO_begin_128 : decode b_MO_begin 128 = .ok (.iconst 0, 1) := by decide +kernel
theorem d_MO_begin_129 : decode b_MO_begin 129 = .ok (.iastore, 1) := by decide +kernel
theorem d_MO_begin_130 : decode b_MO_begin 130 = .ok (.aload_n 0, 1) := by decide +kernel
theorem d_MO_begin_131 : decode b_MO_begin 131 = .ok (.getfield 42, 3) := by decide +kernel
theorem d_MO_begin_134 : decode b_MO_begin 134 = .ok (.aload_n 0, 1) := by decide +kernel
theorem d_MO_begin_135 : decode b_MO_begin 135 = .ok (.getfield 73, 3) := by decide +kernel
theorem d_MO_begin_138 : decode b_MO_begin 138 = .ok (.iconst 1, 1) := by decide +kernel
theorem d_MO_begin_139 : decode b_MO_begin 139 = .ok (.bastore, 1) := by decide +kernel
theorem d_MO_begin_140 : decode b_MO_begin 140 = .ok (.aload_n 0, 1) := by decide +kernel
theorem d_MO_begin_141 : decode b_MO_begin 141 = .ok (.dup, 1) := by decide +kernel
theorem d_MO_begin_142 : decode b_MO_begin 142 = .ok (.getfield 73, 3) := by decide +kernel
theorem d_MO_begin_145 : decode b_MO_begin 145 = .ok (.iconst 1, 1) := by decide +kernel
theorem d_MO_begin_146 : decode b_MO_begin 146 = .ok (.iadd, 1) := by decide +kernel
theorem d_MO_begin_147 : decode b_MO_begin 147 = .ok (.putfield 73, 3) := by decide +kernel
theorem d_MO_begin_150 : decode b_MO_begin 150 = .ok (.aload_n 0, 1) := by decide +kernel
theorem d_MO_begin_151 : decode b_MO_begin 151 = .ok (.getfield 73, 3) := by decide +kernel
theorem d_MO_begin_154 : decode b_MO_begin 154 = .ok (.iconst 1, 1) := by decide +kernel
theorem d_MO_begin_155 : decode b_MO_begin 155 = .ok (.isub, 1) := by decide +kernel
theorem d_MO_begin_156 : decode b_MO_begin 156 = .ok (.ireturn, 1) := by decide +kernel
theorem d_MO_placeOf_0 : decode b_MO_placeOf 0 = .ok (.iconst (-1), 1) := by decide +kernel
theorem d_MO_placeOf_1 : decode b_MO_placeOf 1 = .ok (.istore_n 3, 1) := by decide +kernel
theorem d_MO_placeOf_2 : decode b_MO_placeOf 2 = .ok (.iconst 0, 1) := by decide +kernel
theorem d_MO_placeOf_3 : decode b_MO_placeOf 3 = .ok (.istore 4, 2) := by decide +kernel
theorem d_MO_placeOf_5 : decode b_MO_placeOf 5 = .ok (.iload 4, 2) := by decide +kernel
theorem d_MO_placeOf_7 : decode b_MO_placeOf 7 = .ok (.aload_n 0, 1) := by decide +kernel
theorem d_MO_placeOf_8 : decode b_MO_placeOf 8 = .ok (.getfield 39, 3) := by decide +kernel
theorem d_MO_placeOf_11 : decode b_MO_placeOf 11 = .ok (.iload_n 1, 1) := by decide +kernel
theorem d_MO_placeOf_12 : decode b_MO_placeOf 12 = .ok (.iaload, 1) := by decide +kernel
theorem d_MO_placeOf_13 : decode b_MO_placeOf 13 = .ok (.if_icmp .ge 37, 3) := by decide +kernel
theorem d_MO_placeOf_16 : decode b_MO_placeOf 16 = .ok (.aload_n 0, 1) := by decide +kernel
theorem d_MO_placeOf_17 : decode b_MO_placeOf 17 = .ok (.getfield 45, 3) := by decide +kernel
theorem d_MO_placeOf_20 : decode b_MO_placeOf 20 = .ok (.bipush 12, 2) := by decide +kernel
theorem d_MO_placeOf_22 : decode b_MO_placeOf 22 = .ok (.iload_n 1, 1) := by decide +kernel
theorem d_MO_placeOf_23 : decode b_MO_placeOf 23 = .ok (.imul, 1) := by decide +kernel
theorem d_MO_placeOf_24 : decode b_MO_placeOf 24 = .ok (.iload 4, 2) := by decide +kernel
theorem d_MO_placeOf_26 : decode b_MO_placeOf 26 = .ok (.iadd, 1) := by decide +kernel
theorem d_MO_placeOf_27 : decode b_MO_placeOf 27 = .ok (.iaload, 1) := by decide +kernel
theorem d_MO_placeOf_28 : decode b_MO_placeOf 28 = .ok (.iload_n 2, 1) := by decide +kernel
theorem d_MO_placeOf_29 : decode b_MO_placeOf 29 = .ok (.if_icmp .ne 13, 3) := by decide +kernel
theorem d_MO_placeOf_32 : decode b_MO_placeOf 32 = .ok (.bipush 12, 2) := by decide +kernel
theorem d_MO_placeOf_34 : decode b_MO_placeOf 34 = .ok (.iload_n 1, 1) := by decide +kernel
theorem d_MO_placeOf_35 : decode b_MO_placeOf 35 = .ok (.imul, 1) := by decide +kernel
theorem d_MO_placeOf_36 : decode b_MO_placeOf 36 = .ok (.iload 4, 2) := by decide +kernel
theorem d_MO_placeOf_38 : decode b_MO_placeOf 38 = .ok (.iadd, 1) := by decide +kernel
theorem d_MO_placeOf_39 : decode b_MO_placeOf 39 = .ok (.goto 4, 3) := by decide +kernel
theorem d_MO_placeOf_42 : decode b_MO_placeOf 42 = .ok (.iload_n 3, 1) := by decide +kernel
theorem d_MO_placeOf_43 : decode b_MO_placeOf 43 = .ok (.istore_n 3, 1) := by decide +kernel
theorem d_MO_placeOf_44 : decode b_MO_placeOf 44 = .ok (.iinc 4 1, 3) := by decide +kernel
theorem d_MO_placeOf_47 : decode b_MO_placeOf 47 = .ok (.goto (-42), 3) := by decide +kernel
theorem d_MO_placeOf_50 : decode b_MO_placeOf 50 = .ok (.iload_n 3, 1) := by decide +kernel
theorem d_MO_placeOf_51 : decode b_MO_placeOf 51 = .ok (.ireturn, 1) := by decide +kernel
theorem d_MO_meetsOutput_0 : decode b_MO_meetsOutput 0 = .ok (.iconst 0, 1) := by decide +kernel
theorem d_MO_meetsOutput_1 : decode b_MO_meetsOutput 1 = .ok (.istore_n 3, 1) := by decide +kernel
theorem d_MO_meetsOutput_2 : decode b_MO_meetsOutput 2 = .ok (.iload_n 3, 1) := by decide +kernel
theorem d_MO_meetsOutput_3 : decode b_MO_meetsOutput 3 = .ok (.aload_n 0, 1) := by decide +kernel
theorem d_MO_meetsOutput_4 : decode b_MO_meetsOutput 4 = .ok (.getfield 69, 3) := by decide +kernel
theorem d_MO_meetsOutput_7 : decode b_MO_meetsOutput 7 = .ok (.if_icmp .ge 56, 3) := by decide +kernel
theorem d_MO_meetsOutput_10 : decode b_MO_meetsOutput 10 = .ok (.aload_n 0, 1) := by decide +kernel
theorem d_MO_meetsOutput_11 : decode b_MO_meetsOutput 11 = .ok (.getfield 13, 3) := by decide +kernel
theorem d_MO_meetsOutput_14 : decode b_MO_meetsOutput 14 = .ok (.bipush 40, 2) := by decide +kernel
theorem d_MO_meetsOutput_16 : decode b_MO_meetsOutput 16 = .ok (.aload_n 0, 1) := by decide +kernel
theorem d_MO_meetsOutput_17 : decode b_MO_meetsOutput 17 = .ok (.getfield 33, 3) := by decide +kernel
theorem d_MO_meetsOutput_20 : decode b_MO_meetsOutput 20 = .ok (.iload_n 1, 1) := by decide +kernel
theorem d_MO_meetsOutput_21 : decode b_MO_meetsOutput 21 = .ok (.iaload, 1) := by decide +kernel
theorem d_MO_meetsOutput_22 : decode b_MO_meetsOutput 22 = .ok (.imul, 1) := by decide +kernel
theorem d_MO_meetsOutput_23 : decode b_MO_meetsOutput 23 = .ok (.iload_n 3, 1) := by decide +kernel
theorem d_MO_meetsOutput_24 : decode b_MO_meetsOutput 24 = .ok (.iadd, 1) := by decide +kernel
theorem d_MO_meetsOutput_25 : decode b_MO_meetsOutput 25 = .ok (.iaload, 1) := by decide +kernel
theorem d_MO_meetsOutput_26 : decode b_MO_meetsOutput 26 = .ok (.istore 4, 2) := by decide +kernel
theorem d_MO_meetsOutput_28 : decode b_MO_meetsOutput 28 = .ok (.iload 4, 2) := by decide +kernel
theorem d_MO_meetsOutput_30 : decode b_MO_meetsOutput 30 = .ok (.ifCond .eq 27, 3) := by decide +kernel
theorem d_MO_meetsOutput_33 : decode b_MO_meetsOutput 33 = .ok (.iload 4, 2) := by decide +kernel
theorem d_MO_meetsOutput_35 : decode b_MO_meetsOutput 35 = .ok (.aload_n 0, 1) := by decide +kernel
theorem d_MO_meetsOutput_36 : decode b_MO_meetsOutput 36 = .ok (.getfield 30, 3) := by decide +kernel
theorem d_MO_meetsOutput_39 : decode b_MO_meetsOutput 39 = .ok (.iload_n 1, 1) := by decide +kernel
theorem d_MO_meetsOutput_40 : decode b_MO_meetsOutput 40 = .ok (.iaload, 1) := by decide +kernel
theorem d_MO_meetsOutput_41 : decode b_MO_meetsOutput 41 = .ok (.iconst 1, 1) := by decide +kernel
theorem d_MO_meetsOutput_42 : decode b_MO_meetsOutput 42 = .ok (.iadd, 1) := by decide +kernel
theorem d_MO_meetsOutput_43 : decode b_MO_meetsOutput 43 = .ok (.if_icmp .eq 14, 3) := by decide +kernel
theorem d_MO_meetsOutput_46 : decode b_MO_meetsOutput 46 = .ok (.aload_n 0, 1) := by decide +kernel
theorem d_MO_meetsOutput_47 : decode b_MO_meetsOutput 47 = .ok (.iload_n 2, 1) := by decide +kernel
theorem d_MO_meetsOutput_48 : decode b_MO_meetsOutput 48 = .ok (.iload_n 3, 1) := by decide +kernel
theorem d_MO_meetsOutput_49 : decode b_MO_meetsOutput 49 = .ok (.invokevirtual 87, 3) := by decide +kernel
theorem d_MO_meetsOutput_52 : decode b_MO_meetsOutput 52 = .ok (.ifCond .eq 5, 3) := by decide +kernel
theorem d_MO_meetsOutput_55 : decode b_MO_meetsOutput 55 = .ok (.iconst 1, 1) := by decide +kernel
theorem d_MO_meetsOutput_56 : decode b_MO_meetsOutput 56 = .ok (.ireturn, 1) := by decide +kernel
theorem d_MO_meetsOutput_57 : decode b_MO_meetsOutput 57 = .ok (.iinc 3 1, 3) := by decide +kernel
theorem d_MO_meetsOutput_60 : decode b_MO_meetsOutput 60 = .ok (.goto (-58), 3) := by decide +kernel
theorem d_MO_meetsOutput_63 : decode b_MO_meetsOutput 63 = .ok (.iconst 0, 1) := by decide +kernel
theorem d_MO_meetsOutput_64 : decode b_MO_meetsOutput 64 = .ok (.ireturn, 1) := by decide +kernel
theorem d_MO_meetsStaged_0 : decode b_MO_meetsStaged 0 = .ok (.iconst 0, 1) := by decide +kernel
theorem d_MO_meetsStaged_1 : decode b_MO_meetsStaged 1 = .ok (.istore_n 3, 1) := by decide +kernel
theorem d_MO_meetsStaged_2 : decode b_MO_meetsStaged 2 = .ok (.iload_n 3, 1) := by decide +kernel
theorem d_MO_meetsStaged_3 : decode b_MO_meetsStaged 3 = .ok (.aload_n 0, 1) := by decide +kernel
theorem d_MO_meetsStaged_4 : decode b_MO_meetsStaged 4 = .ok (.getfield 73, 3) := by decide +kernel
theorem d_MO_meetsStaged_7 : decode b_MO_meetsStaged 7 = .ok (.if_icmp .ge 93, 3) := by decide +kernel
theorem d_MO_meetsStaged_10 : decode b_MO_meetsStaged 10 = .ok (.aload_n 0, 1) := by decide +kernel
theorem d_MO_meetsStaged_11 : decode b_MO_meetsStaged 11 = .ok (.getfield 42, 3) := by decide +kernel
theorem d_MO_meetsStaged_14 : decode b_MO_meetsStaged 14 = .ok (.iload_n 3, 1) := by decide +kernel
theorem d_MO_meetsStaged_15 : decode b_MO_meetsStaged 15 = .ok (.baload, 1) := by decide +kernel
theorem d_MO_meetsStaged_16 : decode b_MO_meetsStaged 16 = .ok (.ifCond .eq 78, 3) := by decide +kernel
theorem d_MO_meetsStaged_19 : decode b_MO_meetsStaged 19 = .ok (.aload_n 0, 1) := by decide +kernel
theorem d_MO_meetsStaged_20 : decode b_MO_meetsStaged 20 = .ok (.getfield 33, 3) := by decide +kernel
theorem d_MO_meetsStaged_23 : decode b_MO_meetsStaged 23 = .ok (.iload_n 3, 1) := by decide +kernel
theorem d_MO_meetsStaged_24 : decode b_MO_meetsStaged 24 = .ok (.iaload, 1) := by decide +kernel
theorem d_MO_meetsStaged_25 : decode b_MO_meetsStaged 25 = .ok (.aload_n 0, 1) := by decide +kernel
theorem d_MO_meetsStaged_26 : decode b_MO_meetsStaged 26 = .ok (.getfield 33, 3) := by decide +kernel
theorem d_MO_meetsStaged_29 : decode b_MO_meetsStaged 29 = .ok (.iload_n 1, 1) := by decide +kernel
theorem d_MO_meetsStaged_30 : decode b_MO_meetsStaged 30 = .ok (.iaload, 1) := by decide +kernel
theorem d_MO_meetsStaged_31 : decode b_MO_meetsStaged 31 = .ok (.if_icmp .eq 6, 3) := by decide +kernel
theorem d_MO_meetsStaged_34 : decode b_MO_meetsStaged 34 = .ok (.goto 60, 3) := by decide +kernel
theorem d_MO_meetsStaged_37 : decode b_MO_meetsStaged 37 = .ok (.iconst 0, 1) := by decide +kernel
theorem d_MO_meetsStaged_38 : decode b_MO_meetsStaged 38 = .ok (.istore 4, 2) := by decide +kernel
theorem d_MO_meetsStaged_40 : decode b_MO_meetsStaged 40 = .ok (.iload 4, 2) := by decide +kernel
theorem d_MO_meetsStaged_42 : decode b_MO_meetsStaged 42 = .ok (.aload_n 0, 1) := by decide +kernel
theorem d_MO_meetsStaged_43 : decode b_MO_meetsStaged 43 = .ok (.getfield 39, 3) := by decide +kernel
theorem d_MO_meetsStaged_46 : decode b_MO_meetsStaged 46 = .ok (.iload_n 3, 1) := by decide +kernel
theorem d_MO_meetsStaged_47 : decode b_MO_meetsStaged 47 = .ok (.iaload, 1) := by decide +kernel
theorem d_MO_meetsStaged_48 : decode b_MO_meetsStaged 48 = .ok (.if_icmp .ge 46, 3) := by decide +kernel
theorem d_MO_meetsStaged_51 : decode b_MO_meetsStaged 51 = .ok (.aload_n 0, 1) := by decide +kernel
theorem d_MO_meetsStaged_52 : decode b_MO_meetsStaged 52 = .ok (.getfield 45, 3) := by decide +kernel
theorem d_MO_meetsStaged_55 : decode b_MO_meetsStaged 55 = .ok (.bipush 12, 2) := by decide +kernel
theorem d_MO_meetsStaged_57 : decode b_MO_meetsStaged 57 = .ok (.iload_n 3, 1) := by decide +kernel
theorem d_MO_meetsStaged_58 : decode b_MO_meetsStaged 58 = .ok (.imul, 1) := by decide +kernel
theorem d_MO_meetsStaged_59 : decode b_MO_meetsStaged 59 = .ok (.iload 4, 2) := by decide +kernel
theorem d_MO_meetsStaged_61 : decode b_MO_meetsStaged 61 = .ok (.iadd, 1) := by decide +kernel
theorem d_MO_meetsStaged_62 : decode b_MO_meetsStaged 62 = .ok (.iaload, 1) := by decide +kernel
theorem d_MO_meetsStaged_63 : decode b_MO_meetsStaged 63 = .ok (.istore 5, 2) := by decide +kernel
theorem d_MO_meetsStaged_65 : decode b_MO_meetsStaged 65 = .ok (.iload_n 3, 1) := by decide +kernel
theorem d_MO_meetsStaged_66 : decode b_MO_meetsStaged 66 = .ok (.iload_n 1, 1) := by decide +kernel
theorem d_MO_meetsStaged_67 : decode b_MO_meetsStaged 67 = .ok (.if_icmp .ne 9, 3) := by decide +kernel
theorem d_MO_meetsStaged_70 : decode b_MO_meetsStaged 70 = .ok (.iload 5, 2) := by decide +kernel
theorem d_MO_meetsStaged_72 : decode b_MO_meetsStaged 72 = .ok (.iload_n 2, 1) := by decide +kernel
theorem d_MO_meetsStaged_73 : decode b_MO_meetsStaged 73 = .ok (.if_icmp .eq 15, 3) := by decide +kernel
theorem d_MO_meetsStaged_76 : decode b_MO_meetsStaged 76 = .ok (.aload_n 0, 1) := by decide +kernel
theorem d_MO_meetsStaged_77 : decode b_MO_meetsStaged 77 = .ok (.iload_n 2, 1) := by decide +kernel
theorem d_MO_meetsStaged_78 : decode b_MO_meetsStaged 78 = .ok (.iload 5, 2) := by decide +kernel
theorem d_MO_meetsStaged_80 : decode b_MO_meetsStaged 80 = .ok (.invokevirtual 87, 3) := by decide +kernel
theorem d_MO_meetsStaged_83 : decode b_MO_meetsStaged 83 = .ok (.ifCond .eq 5, 3) := by decide +kernel
theorem d_MO_meetsStaged_86 : decode b_MO_meetsStaged 86 = .ok (.iconst 1, 1) := by decide +kernel
theorem d_MO_meetsStaged_87 : decode b_MO_meetsStaged 87 = .ok (.ireturn, 1) := by decide +kernel
theorem d_MO_meetsStaged_88 : decode b_MO_meetsStaged 88 = .ok (.iinc 4 1, 3) := by decide +kernel
theorem d_MO_meetsStaged_91 : decode b_MO_meetsStaged 91 = .ok (.goto (-51), 3) := by decide +kernel
theorem d_MO_meetsStaged_94 : decode b_MO_meetsStaged 94 = .ok (.iinc 3 1, 3) := by decide +kernel
theorem d_MO_meetsStaged_97 : decode b_MO_meetsStaged 97 = .ok (.goto (-95), 3) := by decide +kernel
theorem d_MO_meetsStaged_100 : decode b_MO_meetsStaged 100 = .ok (.iconst 0, 1) := by decide +kernel
theorem d_MO_meetsStaged_101 : decode b_MO_meetsStaged 101 = .ok (.ireturn, 1) := by decide +kernel
theorem d_MO_isCached_0 : decode b_MO_isCached 0 = .ok (.iconst 0, 1) := by decide +kernel
theorem d_MO_isCached_1 : decode b_MO_isCached 1 = .ok (.istore_n 3, 1) := by decide +kernel
theorem d_MO_isCached_2 : decode b_MO_isCached 2 = .ok (.iconst 0, 1) := by decide +kernel
theorem d_MO_isCached_3 : decode b_MO_isCached 3 = .ok (.istore 4, 2) := by decide +kernel
theorem d_MO_isCached_5 : decode b_MO_isCached 5 = .ok (.iload 4, 2) := by decide +kernel
theorem d_MO_isCached_7 : decode b_MO_isCached 7 = .ok (.aload_n 0, 1) := by decide +kernel
theorem d_MO_isCached_8 : decode b_MO_isCached 8 = .ok (.getfield 90, 3) := by decide +kernel
theorem d_MO_isCached_11 : decode b_MO_isCached 11 = .ok (.if_icmp .ge 31, 3) := by decide +kernel
theorem d_MO_isCached_14 : decode b_MO_isCached 14 = .ok (.iload_n 3, 1) := by decide +kernel
theorem d_MO_isCached_15 : decode b_MO_isCached 15 = .ok (.ifCond .ne 15, 3) := by decide +kernel
theorem d_MO_isCached_18 : decode b_MO_isCached 18 = .ok (.aload_n 0, 1) := by decide +kernel
theorem d_MO_isCached_19 : decode b_MO_isCached 19 = .ok (.getfield 60, 3) := by decide +kernel
theorem d_MO_isCached_22 : decode b_MO_isCached 22 = .ok (.iload 4, 2) := by decide +kernel
theorem d_MO_isCached_24 : decode b_MO_isCached 24 = .ok (.laload, 1) := by decide +kernel
theorem d_MO_isCached_25 : decode b_MO_isCached 25 = .ok (.lload_n 1, 1) := by decide +kernel
theorem d_MO_isCached_26 : decode b_MO_isCached 26 = .ok (.lcmp, 1) := by decide +kernel
theorem d_MO_isCached_27 : decode b_MO_isCached 27 = .ok (.ifCond .ne 7, 3) := by decide +kernel
theorem d_MO_isCached_30 : decode b_MO_isCached 30 = .ok (.iconst 1, 1) := by decide +kernel
theorem d_MO_isCached_31 : decode b_MO_isCached 31 = .ok (.goto 4, 3) := by decide +kernel
theorem d_MO_isCached_34 : decode b_MO_isCached 34 = .ok (.iconst 0, 1) := by decide +kernel
theorem d_MO_isCached_35 : decode b_MO_isCached 35 = .ok (.istore_n 3, 1) := by decide +kernel
theorem d_MO_isCached_36 : decode b_MO_isCached 36 = .ok (.iinc 4 1, 3) := by decide +kernel
theorem d_MO_isCached_39 : decode b_MO_isCached 39 = .ok (.goto (-34), 3) := by decide +kernel
theorem d_MO_isCached_42 : decode b_MO_isCached 42 = .ok (.iload_n 3, 1) := by decide +kernel
theorem d_MO_isCached_43 : decode b_MO_isCached 43 = .ok (.ireturn, 1) := by decide +kernel
theorem d_MO_stage_0 : decode b_MO_stage 0 = .ok (.aload_n 0, 1) := by decide +kernel
theorem d_MO_stage_1 : decode b_MO_stage 1 = .ok (.iload_n 1, 1) := by decide +kernel
theorem d_MO_stage_2 : decode b_MO_stage 2 = .ok (.invokevirtual 93, 3) := by decide +kernel
theorem d_MO_stage_5 : decode b_MO_stage 5 = .ok (.ifCond .eq 17, 3) := by decide +kernel
theorem d_MO_stage_8 : decode b_MO_stage 8 = .ok (.aload_n 0, 1) := by decide +kernel
theorem d_MO_stage_9 : decode b_MO_stage 9 = .ok (.iload_n 2, 1) := by decide +kernel
theorem d_MO_stage_10 : decode b_MO_stage 10 = .ok (.invokevirtual 76, 3) := by decide +kernel
theorem d_MO_stage_13 : decode b_MO_stage 13 = .ok (.ifCond .eq 9, 3) := by decide +kernel
theorem d_MO_stage_16 : decode b_MO_stage 16 = .ok (.lload_n 3, 1) := by decide +kernel
theorem d_MO_stage_17 : decode b_MO_stage 17 = .ok (.lconst 0, 1) := by decide +kernel
theorem d_MO_stage_18 : decode b_MO_stage 18 = .ok (.lcmp, 1) := by decide +kernel
theorem d_MO_stage_19 : decode b_MO_stage 19 = .ok (.ifCond .ne 5, 3) := by decide +kernel
theorem d_MO_stage_22 : decode b_MO_stage 22 = .ok (.iconst (-1), 1) := by decide +kernel
theorem d_MO_stage_23 : decode b_MO_stage 23 = .ok (.ireturn, 1) := by decide +kernel
theorem d_MO_stage_24 : decode b_MO_stage 24 = .ok (.aload_n 0, 1) := by decide +kernel
theorem d_MO_stage_25 : decode b_MO_stage 25 = .ok (.iload_n 1, 1) := by decide +kernel
theorem d_MO_stage_26 : decode b_MO_stage 26 = .ok (.iload_n 2, 1) := by decide +kernel
theorem d_MO_stage_27 : decode b_MO_stage 27 = .ok (.invokevirtual 96, 3) := by decide +kernel
theorem d_MO_stage_30 : decode b_MO_stage 30 = .ok (.istore 7, 2) := by decide +kernel
theorem d_MO_stage_32 : decode b_MO_stage 32 = .ok (.iload 7, 2) := by decide +kernel
theorem d_MO_stage_34 : decode b_MO_stage 34 = .ok (.iconst (-1), 1) := by decide +kernel
theorem d_MO_stage_35 : decode b_MO_stage 35 = .ok (.if_icmp .ne 16, 3) := by decide +kernel
theorem d_MO_stage_38 : decode b_MO_stage 38 = .ok (.aload_n 0, 1) := by decide +kernel
theorem d_MO_stage_39 : decode b_MO_stage 39 = .ok (.getfield 39, 3) := by decide +kernel
theorem d_MO_stage_42 : decode b_MO_stage 42 = .ok (.iload_n 1, 1) := by decide +kernel
theorem d_MO_stage_43 : decode b_MO_stage 43 = .ok (.iaload, 1) := by decide +kernel
theorem d_MO_stage_44 : decode b_MO_stage 44 = .ok (.bipush 12, 2) := by decide +kernel
theorem d_MO_stage_46 : decode b_MO_stage 46 = .ok (.if_icmp .ne 5, 3) := by decide +kernel
theorem d_MO_stage_49 : decode b_MO_stage 49 = .ok (.iconst (-1), 1) := by decide +kernel
theorem d_MO_stage_50 : decode b_MO_stage 50 = .ok (.ireturn, 1) := by decide +kernel
theorem d_MO_stage_51 : decode b_MO_stage 51 = .ok (.aload_n 0, 1) := by decide +kernel
theorem d_MO_stage_52 : decode b_MO_stage 52 = .ok (.iload_n 1, 1) := by decide +kernel
theorem d_MO_stage_53 : decode b_MO_stage 53 = .ok (.iload_n 2, 1) := by decide +kernel
theorem d_MO_stage_54 : decode b_MO_stage 54 = .ok (.invokevirtual 100, 3) := by decide +kernel
theorem d_MO_stage_57 : decode b_MO_stage 57 = .ok (.ifCond .ne 12, 3) := by decide +kernel
theorem d_MO_stage_60 : decode b_MO_stage 60 = .ok (.aload_n 0, 1) := by decide +kernel
theorem d_MO_stage_61 : decode b_MO_stage 61 = .ok (.iload_n 1, 1) := by decide +kernel
theorem d_MO_stage_62 : decode b_MO_stage 62 = .ok (.iload_n 2, 1) := by decide +kernel
theorem d_MO_stage_63 : decode b_MO_stage 63 = .ok (.invokevirtual 103, 3) := by decide +kernel
theorem d_MO_stage_66 : decode b_MO_stage 66 = .ok (.ifCond .eq 6, 3) := by decide +kernel
theorem d_MO_stage_69 : decode b_MO_stage 69 = .ok (.bipush (-2), 2) := by decide +kernel
theorem d_MO_stage_71 : decode b_MO_stage 71 = .ok (.ireturn, 1) := by decide +kernel
theorem d_MO_stage_72 : decode b_MO_stage 72 = .ok (.iload 6, 2) := by decide +kernel
theorem d_MO_stage_74 : decode b_MO_stage 74 = .ok (.ifCond .eq 14, 3) := by decide +kernel
theorem d_MO_stage_77 : decode b_MO_stage 77 = .ok (.aload_n 0, 1) := by decide +kernel
theorem d_MO_stage_78 : decode b_MO_stage 78 = .ok (.lload_n 3, 1) := by decide +kernel
theorem d_MO_stage_79 : decode b_MO_stage 79 = .ok (.invokevirtual 106, 3) := by decide +kernel
theorem d_MO_stage_82 : decode b_MO_stage 82 = .ok (.ifCond .ne 6, 3) := by decide +kernel
theorem d_MO_stage_85 : decode b_MO_stage 85 = .ok (.bipush (-3), 2) := by decide +kernel
theorem d_MO_stage_87 : decode b_MO_stage 87 = .ok (.ireturn, 1) := by decide +kernel
theorem d_MO_stage_88 : decode b_MO_stage 88 = .ok (.iload 7, 2) := by decide +kernel
theorem d_MO_stage_90 : decode b_MO_stage 90 = .ok (.iconst (-1), 1) := by decide +kernel
theorem d_MO_stage_91 : decode b_MO_stage 91 = .ok (.if_icmp .ne 26, 3) := by decide +kernel
theorem d_MO_stage_94 : decode b_MO_stage 94 = .ok (.bipush 12, 2) := by decide +kernel
theorem d_MO_stage_96 : decode b_MO_stage 96 = .ok (.iload_n 1, 1) := by decide +kernel
theorem d_MO_stage_97 : decode b_MO_stage 97 = .ok (.imul, 1) := by decide +kernel
theorem d_MO_stage_98 : decode b_MO_stage 98 = .ok (.aload_n 0, 1) := by decide +kernel
theorem d_MO_stage_99 : decode b_MO_stage 99 = .ok (.getfield 39, 3) := by decide +kernel
theorem d_MO_stage_102 : decode b_MO_stage 102 = .ok (.iload_n 1, 1) := by decide +kernel
theorem d_MO_stage_103 : decode b_MO_stage 103 = .ok (.iaload, 1) := by decide +kernel
theorem d_MO_stage_104 : decode b_MO_stage 104 = .ok (.iadd, 1) := by decide +kernel
theorem d_MO_stage_105 : decode b_MO_stage 105 = .ok (.istore 7, 2) := by decide +kernel
theorem d_MO_stage_107 : decode b_MO_stage 107 = .ok (.aload_n 0, 1) := by decide +kernel
theorem d_MO_stage_108 : decode b_MO_stage 108 = .ok (.getfield 39, 3) := by decide +kernel
theorem d_MO_stage_111 : decode b_MO_stage 111 = .ok (.iload_n 1, 1) := by decide +kernel
theorem d_MO_stage_112 : decode b_MO_stage 112 = .ok (.dup2, 1) := by decide +kernel
theorem d_MO_stage_113 : decode b_MO_stage 113 = .ok (.iaload, 1) := by decide +kernel
theorem d_MO_stage_114 : decode b_MO_stage 114 = .ok (.iconst 1, 1) := by decide +kernel
theorem d_MO_stage_115 : decode b_MO_stage 115 = .ok (.iadd, 1) := by decide +kernel
theorem d_MO_stage_116 : decode b_MO_stage 116 = .ok (.iastore, 1) := by decide +kernel
theorem d_MO_stage_117 : decode b_MO_stage 117 = .ok (.aload_n 0, 1) := by decide +kernel
theorem d_MO_stage_118 : decode b_MO_stage 118 = .ok (.getfield 45, 3) := by decide +kernel
theorem d_MO_stage_121 : decode b_MO_stage 121 = .ok (.iload 7, 2) := by decide +kernel
theorem d_MO_stage_123 : decode b_MO_stage 123 = .ok (.iload_n 2, 1) := by decide +kernel
theorem d_MO_stage_124 : decode b_MO_stage 124 = .ok (.iastore, 1) := by decide +kernel
theorem d_MO_stage_125 : decode b_MO_stage 125 = .ok (.aload_n 0, 1) := by decide +kernel
theorem d_MO_stage_126 : decode b_MO_stage 126 = .ok (.getfield 48, 3) := by decide +kernel
theorem d_MO_stage_129 : decode b_MO_stage 129 = .ok (.iload 7, 2) := by decide +kernel
theorem d_MO_stage_131 : decode b_MO_stage 131 = .ok (.lload_n 3, 1) := by decide +kernel
theorem d_MO_stage_132 : decode b_MO_stage 132 = .ok (.lastore, 1) := by decide +kernel
theorem d_MO_stage_133 : decode b_MO_stage 133 = .ok (.aload_n 0, 1) := by decide +kernel
theorem d_MO_stage_134 : decode b_MO_stage 134 = .ok (.getfield 51, 3) := by decide +kernel
theorem d_MO_stage_137 : decode b_MO_stage 137 = .ok (.iload 7, 2) := by decide +kernel
theorem d_MO_stage_139 : decode b_MO_stage 139 = .ok (.iload 5, 2) := by decide +kernel
theorem d_MO_stage_141 : decode b_MO_stage 141 = .ok (.bastore, 1) := by decide +kernel
theorem d_MO_stage_142 : decode b_MO_stage 142 = .ok (.aload_n 0, 1) := by decide +kernel
theorem d_MO_stage_143 : decode b_MO_stage 143 = .ok (.getfield 54, 3) := by decide +kernel
theorem d_MO_stage_146 : decode b_MO_stage 146 = .ok (.iload 7, 2) := by decide +kernel
theorem d_MO_stage_148 : decode b_MO_stage 148 = .ok (.iload 6, 2) := by decide +kernel
theorem d_MO_stage_150 : decode b_MO_stage 150 = .ok (.bastore, 1) := by decide +kernel
theorem d_MO_stage_151 : decode b_MO_stage 151 = .ok (.iconst 1, 1) := by decide +kernel
theorem d_MO_stage_152 : decode b_MO_stage 152 = .ok (.ireturn, 1) := by decide +kernel
theorem d_MO_goOld_0 : decode b_MO_goOld 0 = .ok (.iconst 0, 1) := by decide +kernel
theorem d_MO_goOld_1 : decode b_MO_goOld 1 = .ok (.istore_n 2, 1) := by decide +kernel
theorem d_MO_goOld_2 : decode b_MO_goOld 2 = .ok (.iconst 0, 1) := by decide +kernel
theorem d_MO_goOld_3 : decode b_MO_goOld 3 = .ok (.istore_n 3, 1) := by decide +kernel
theorem d_MO_goOld_4 : decode b_MO_goOld 4 = .ok (.iload_n 3, 1) := by decide +kernel
theorem d_MO_goOld_5 : decode b_MO_goOld 5 = .ok (.aload_n 0, 1) := by decide +kernel
theorem d_MO_goOld_6 : decode b_MO_goOld 6 = .ok (.getfield 69, 3) := by decide +kernel
theorem d_MO_goOld_9 : decode b_MO_goOld 9 = .ok (.if_icmp .ge 69, 3) := by decide +kernel
theorem d_MO_goOld_12 : decode b_MO_goOld 12 = .ok (.bipush 40, 2) := by decide +kernel
theorem d_MO_goOld_14 : decode b_MO_goOld 14 = .ok (.aload_n 0, 1) := by decide +kernel
theorem d_MO_goOld_15 : decode b_MO_goOld 15 = .ok (.getfield 33, 3) := by decide +kernel
theorem d_MO_goOld_18 : decode b_MO_goOld 18 = .ok (.iload_n 1, 1) := by decide +kernel
theorem d_MO_goOld_19 : decode b_MO_goOld 19 = .ok (.iaload, 1) := by decide +kernel
theorem d_MO_goOld_20 : decode b_MO_goOld 20 = .ok (.imul, 1) := by decide +kernel
theorem d_MO_goOld_21 : decode b_MO_goOld 21 = .ok (.iload_n 3, 1) := by decide +kernel
theorem d_MO_goOld_22 : decode b_MO_goOld 22 = .ok (.iadd, 1) := by decide +kernel
theorem d_MO_goOld_23 : decode b_MO_goOld 23 = .ok (.istore 4, 2) := by decide +kernel
theorem d_MO_goOld_25 : decode b_MO_goOld 25 = .ok (.aload_n 0, 1) := by decide +kernel
theorem d_MO_goOld_26 : decode b_MO_goOld 26 = .ok (.getfield 13, 3) := by decide +kernel
theorem d_MO_goOld_29 : decode b_MO_goOld 29 = .ok (.iload 4, 2) := by decide +kernel
theorem d_MO_goOld_31 : decode b_MO_goOld 31 = .ok (.iaload, 1) := by decide +kernel
theorem d_MO_goOld_32 : decode b_MO_goOld 32 = .ok (.aload_n 0, 1) := by decide +kernel
theorem d_MO_goOld_33 : decode b_MO_goOld 33 = .ok (.getfield 30, 3) := by decide +kernel
theorem d_MO_goOld_36 : decode b_MO_goOld 36 = .ok (.iload_n 1, 1) := by decide +kernel
theorem d_MO_goOld_37 : decode b_MO_goOld 37 = .ok (.iaload, 1) := by decide +kernel
theorem d_MO_goOld_38 : decode b_MO_goOld 38 = .ok (.iconst 1, 1) := by decide +kernel
theorem d_MO_goOld_39 : decode b_MO_goOld 39 = .ok (.iadd, 1) := by decide +kernel
theorem d_MO_goOld_40 : decode b_MO_goOld 40 = .ok (.if_icmp .eq 6, 3) := by decide +kernel
theorem d_MO_goOld_43 : decode b_MO_goOld 43 = .ok (.goto 29, 3) := by decide +kernel
theorem d_MO_goOld_46 : decode b_MO_goOld 46 = .ok (.iload_n 2, 1) := by decide +kernel
theorem d_MO_goOld_47 : decode b_MO_goOld 47 = .ok (.aload_n 0, 1) := by decide +kernel
theorem d_MO_goOld_48 : decode b_MO_goOld 48 = .ok (.iload_n 1, 1) := by decide +kernel
theorem d_MO_goOld_49 : decode b_MO_goOld 49 = .ok (.iload_n 3, 1) := by decide +kernel
theorem d_MO_goOld_50 : decode b_MO_goOld 50 = .ok (.invokevirtual 96, 3) := by decide +kernel
theorem d_MO_goOld_53 : decode b_MO_goOld 53 = .ok (.iconst (-1), 1) := by decide +kernel
theorem d_MO_goOld_54 : decode b_MO_goOld 54 = .ok (.if_icmp .ne 7, 3) := by decide +kernel
theorem d_MO_goOld_57 : decode b_MO_goOld 57 = .ok (.iconst 1, 1) := by decide +kernel
theorem d_MO_goOld_58 : decode b_MO_goOld 58 = .ok (.goto 4, 3) := by decide +kernel
theorem d_MO_goOld_61 : decode b_MO_goOld 61 = .ok (.iconst 0, 1) := by decide +kernel
theorem d_MO_goOld_62 : decode b_MO_goOld 62 = .ok (.iadd, 1) := by decide +kernel
theorem d_MO_goOld_63 : decode b_MO_goOld 63 = .ok (.istore_n 2, 1) := by decide +kernel
theorem d_MO_goOld_64 : decode b_MO_goOld 64 = .ok (.aload_n 0, 1) := by decide +kernel
theorem d_MO_goOld_65 : decode b_MO_goOld 65 = .ok (.getfield 13, 3) := by decide +kernel
theorem d_MO_goOld_68 : decode b_MO_goOld 68 = .ok (.iload 4, 2) := by decide +kernel
theorem d_MO_goOld_70 : decode b_MO_goOld 70 = .ok (.iconst 0, 1) := by decide +kernel
theorem d_MO_goOld_71 : decode b_MO_goOld 71 = .ok (.iastore, 1) := by decide +kernel
theorem d_MO_goOld_72 : decode b_MO_goOld 72 = .ok (.iinc 3 1, 3) := by decide +kernel
theorem d_MO_goOld_75 : decode b_MO_goOld 75 = .ok (.goto (-71), 3) := by decide +kernel
theorem d_MO_goOld_78 : decode b_MO_goOld 78 = .ok (.iload_n 2, 1) := by decide +kernel
theorem d_MO_goOld_79 : decode b_MO_goOld 79 = .ok (.ireturn, 1) := by decide +kernel
theorem d_MO_end_0 : decode b_MO_end 0 = .ok (.aload_n 0, 1) := by decide +kernel
theorem d_MO_end_1 : decode b_MO_end 1 = .ok (.iload_n 1, 1) := by decide +kernel
theorem d_MO_end_2 : decode b_MO_end 2 = .ok (.invokevirtual 93, 3) := by decide +kernel
theorem d_MO_end_5 : decode b_MO_end 5 = .ok (.ifCond .ne 5, 3) := by decide +kernel
theorem d_MO_end_8 : decode b_MO_end 8 = .ok (.iconst (-1), 1) := by decide +kernel
theorem d_MO_end_9 : decode b_MO_end 9 = .ok (.ireturn, 1) := by decide +kernel
theorem d_MO_end_10 : decode b_MO_end 10 = .ok (.aload_n 0, 1) := by decide +kernel
theorem d_MO_end_11 : decode b_MO_end 11 = .ok (.getfield 42, 3) := by decide +kernel
theorem d_MO_end_14 : decode b_MO_end 14 = .ok (.iload_n 1, 1) := by decide +kernel
theorem d_MO_end_15 : decode b_MO_end 15 = .ok (.iconst 0, 1) := by decide +kernel
theorem d_MO_end_16 : decode b_MO_end 16 = .ok (.bastore, 1) := by decide +kernel
theorem d_MO_end_17 : decode b_MO_end 17 = .ok (.iload_n 2, 1) := by decide +kernel
theorem d_MO_end_18 : decode b_MO_end 18 = .ok (.ifCond .ne 5, 3) := by decide +kernel
theorem d_MO_end_21 : decode b_MO_end 21 = .ok (.iconst 0, 1) := by decide +kernel
theorem d_MO_end_22 : decode b_MO_end 22 = .ok (.ireturn, 1) := by decide +kernel
theorem d_MO_end_23 : decode b_MO_end 23 = .ok (.aload_n 0, 1) := by decide +kernel
theorem d_MO_end_24 : decode b_MO_end 24 = .ok (.iload_n 1, 1) := by decide +kernel
theorem d_MO_end_25 : decode b_MO_end 25 = .ok (.invokevirtual 110, 3) := by decide +kernel
theorem d_MO_end_28 : decode b_MO_end 28 = .ok (.istore_n 3, 1) := by decide +kernel
theorem d_MO_end_29 : decode b_MO_end 29 = .ok (.bipush 12, 2) := by decide +kernel
theorem d_MO_end_31 : decode b_MO_end 31 = .ok (.iload_n 1, 1) := by decide +kernel
theorem d_MO_end_32 : decode b_MO_end 32 = .ok (.imul, 1) := by decide +kernel
theorem d_MO_end_33 : decode b_MO_end 33 = .ok (.istore 4, 2) := by decide +kernel
theorem d_MO_end_35 : decode b_MO_end 35 = .ok (.iload 4, 2) := by decide +kernel
theorem d_MO_end_37 : decode b_MO_end 37 = .ok (.bipush 12, 2) := by decide +kernel
theorem d_MO_end_39 : decode b_MO_end 39 = .ok (.iload_n 1, 1) := by decide +kernel
theorem d_MO_end_40 : decode b_MO_end 40 = .ok (.imul, 1) := by decide +kernel
theorem d_MO_end_41 : decode b_MO_end 41 = .ok (.aload_n 0, 1) := by decide +kernel
theorem d_MO_end_42 : decode b_MO_end 42 = .ok (.getfield 39, 3) := by decide +kernel
theorem d_MO_end_45 : decode b_MO_end 45 = .ok (.iload_n 1, 1) := by decide +kernel
theorem d_MO_end_46 : decode b_MO_end 46 = .ok (.iaload, 1) := by decide +kernel
theorem d_MO_end_47 : decode b_MO_end 47 = .ok (.iadd, 1) := by decide +kernel
theorem d_MO_end_48 : decode b_MO_end 48 = .ok (.if_icmp .ge 101, 3) := by decide +kernel
theorem d_MO_end_51 : decode b_MO_end 51 = .ok (.bipush 40, 2) := by decide +kernel
theorem d_MO_end_53 : decode b_MO_end 53 = .ok (.aload_n 0, 1) := by decide +kernel
theorem d_MO_end_54 : decode b_MO_end 54 = .ok (.getfield 33, 3) := by decide +kernel
theorem d_MO_end_57 : decode b_MO_end 57 = .ok (.iload_n 1, 1) := by decide +kernel
theorem d_MO_end_58 : decode b_MO_end 58 = .ok (.iaload, 1) := by decide +kernel
theorem d_MO_end_59 : decode b_MO_end 59 = .ok (.imul, 1) := by decide +kernel
theorem d_MO_end_60 : decode b_MO_end 60 = .ok (.aload_n 0, 1) := by decide +kernel
theorem d_MO_end_61 : decode b_MO_end 61 = .ok (.getfield 45, 3) := by decide +kernel
theorem d_MO_end_64 : decode b_MO_end 64 = .ok (.iload 4, 2) := by decide +kernel
theorem d_MO_end_66 : decode b_MO_end 66 = .ok (.iaload, 1) := by decide +kernel
theorem d_MO_end_67 : decode b_MO_end 67 = .ok (.iadd, 1) := by decide +kernel
theorem d_MO_end_68 : decode b_MO_end 68 = .ok (.istore 5, 2) := by decide +kernel
theorem d_MO_end_70 : decode b_MO_end 70 = .ok (.aload_n 0, 1) := by decide +kernel
theorem d_MO_end_71 : decode b_MO_end 71 = .ok (.getfield 13, 3) := by decide +kernel
theorem d_MO_end_74 : decode b_MO_end 74 = .ok (.iload 5, 2) := by decide +kernel
theorem d_MO_end_76 : decode b_MO_end 76 = .ok (.aload_n 0, 1) := by decide +kernel
theorem d_MO_end_77 : decode b_MO_end 77 = .ok (.getfield 30, 3) := by decide +kernel
theorem d_MO_end_80 : decode b_MO_end 80 = .ok (.iload_n 1, 1) := by decide +kernel
theorem d_MO_end_81 : decode b_MO_end 81 = .ok (.iaload, 1) := by decide +kernel
theorem d_MO_end_82 : decode b_MO_end 82 = .ok (.iconst 1, 1) := by decide +kernel
theorem d_MO_end_83 : decode b_MO_end 83 = .ok (.iadd, 1) := by decide +kernel
theorem d_MO_end_84 : decode b_MO_end 84 = .ok (.iastore, 1) := by decide +kernel
theorem d_MO_end_85 : decode b_MO_end 85 = .ok (.aload_n 0, 1) := by decide +kernel
theorem d_MO_end_86 : decode b_MO_end 86 = .ok (.getfield 16, 3) := by decide +kernel
theorem d_MO_end_89 : decode b_MO_end 89 = .ok (.iload 5, 2) := by decide +kernel
theorem d_MO_end_91 : decode b_MO_end 91 = .ok (.iload_n 1, 1) := by decide +kernel
theorem d_MO_end_92 : decode b_MO_end 92 = .ok (.iastore, 1) := by decide +kernel
theorem d_MO_end_93 : decode b_MO_end 93 = .ok (.aload_n 0, 1) := by decide +kernel
theorem d_MO_end_94 : decode b_MO_end 94 = .ok (.getfield 19, 3) := by decide +kernel
theorem d_MO_end_97 : decode b_MO_end 97 = .ok (.iload 5, 2) := by decide +kernel
theorem d_MO_end_99 : decode b_MO_end 99 = .ok (.aload_n 0, 1) := by decide +kernel
theorem d_MO_end_100 : decode b_MO_end 100 = .ok (.getfield 48, 3) := by decide +kernel
theorem d_MO_end_103 : decode b_MO_end 103 = .ok (.iload 4, 2) := by decide +kernel
theorem d_MO_end_105 : decode b_MO_end 105 = .ok (.laload, 1) := by decide +kernel
theorem d_MO_end_106 : decode b_MO_end 106 = .ok (.lastore, 1) := by decide +kernel
theorem d_MO_end_107 : decode b_MO_end 107 = .ok (.aload_n 0, 1) := by decide +kernel
theorem d_MO_end_108 : decode b_MO_end 108 = .ok (.getfield 23, 3) := by decide +kernel
theorem d_MO_end_111 : decode b_MO_end 111 = .ok (.iload 5, 2) := by decide +kernel
theorem d_MO_end_113 : decode b_MO_end 113 = .ok (.aload_n 0, 1) := by decide +kernel
theorem d_MO_end_114 : decode b_MO_end 114 = .ok (.getfield 51, 3) := by decide +kernel
theorem d_MO_end_117 : decode b_MO_end 117 = .ok (.iload 4, 2) := by decide +kernel
theorem d_MO_end_119 : decode b_MO_end 119 = .ok (.baload, 1) := by decide +kernel
theorem d_MO_end_120 : decode b_MO_end 120 = .ok (.bastore, 1) := by decide +kernel
theorem d_MO_end_121 : decode b_MO_end 121 = .ok (.aload_n 0, 1) := by decide +kernel
theorem d_MO_end_122 : decode b_MO_end 122 = .ok (.getfield 27, 3) := by decide +kernel
theorem d_MO_end_125 : decode b_MO_end 125 = .ok (.iload 5, 2) := by decide +kernel
theorem d_MO_end_127 : decode b_MO_end 127 = .ok (.aload_n 0, 1) := by decide +kernel
theorem d_MO_end_128 : decode b_MO_end 128 = .ok (.getfield 54, 3) := by decide +kernel
theorem d_MO_end_131 : decode b_MO_end 131 = .ok (.iload 4, 2) := by decide +kernel
theorem d_MO_end_133 : decode b_MO_end 133 = .ok (.baload, 1) := by decide +kernel
theorem d_MO_end_134 : decode b_MO_end 134 = .ok (.ifCond .ne 7, 3) := by decide +kernel
theorem d_MO_end_137 : decode b_MO_end 137 = .ok (.iconst 1, 1) := by decide +kernel
theorem d_MO_end_138 : decode b_MO_end 138 = .ok (.goto 4, 3) := by decide +kernel
theorem d_MO_end_141 : decode b_MO_end 141 = .ok (.iconst 0, 1) := by decide +kernel
theorem d_MO_end_142 : decode b_MO_end 142 = .ok (.bastore, 1) := by decide +kernel
theorem d_MO_end_143 : decode b_MO_end 143 = .ok (.iinc 4 1, 3) := by decide +kernel
theorem d_MO_end_146 : decode b_MO_end 146 = .ok (.goto (-111), 3) := by decide +kernel
theorem d_MO_end_149 : decode b_MO_end 149 = .ok (.aload_n 0, 1) := by decide +kernel
theorem d_MO_end_150 : decode b_MO_end 150 = .ok (.getfield 57, 3) := by decide +kernel
theorem d_MO_end_153 : decode b_MO_end 153 = .ok (.bipush 12, 2) := by decide +kernel
theorem d_MO_end_155 : decode b_MO_end 155 = .ok (.aload_n 0, 1) := by decide +kernel
theorem d_MO_end_156 : decode b_MO_end 156 = .ok (.getfield 33, 3) := by decide +kernel
theorem d_MO_end_159 : decode b_MO_end 159 = .ok (.iload_n 1, 1) := by decide +kernel
theorem d_MO_end_160 : decode b_MO_end 160 = .ok (.iaload, 1) := by decide +kernel
theorem d_MO_end_161 : decode b_MO_end 161 = .ok (.imul, 1) := by decide +kernel
theorem d_MO_end_162 : decode b_MO_end 162 = .ok (.aload_n 0, 1) := by decide +kernel
theorem d_MO_end_163 : decode b_MO_end 163 = .ok (.getfield 30, 3) := by decide +kernel
theorem d_MO_end_166 : decode b_MO_end 166 = .ok (.iload_n 1, 1) := by decide +kernel
theorem d_MO_end_167 : decode b_MO_end 167 = .ok (.iaload, 1) := by decide +kernel
theorem d_MO_end_168 : decode b_MO_end 168 = .ok (.iadd, 1) := by decide +kernel
theorem d_MO_end_169 : decode b_MO_end 169 = .ok (.iconst 0, 1) := by decide +kernel
theorem d_MO_end_170 : decode b_MO_end 170 = .ok (.bastore, 1) := by decide +kernel
theorem d_MO_end_171 : decode b_MO_end 171 = .ok (.iload_n 3, 1) := by decide +kernel
theorem d_MO_end_172 : decode b_MO_end 172 = .ok (.ireturn, 1) := by decide +kernel
theorem d_MO_abandon_0 : decode b_MO_abandon 0 = .ok (.iload_n 1, 1) := by decide +kernel
theorem d_MO_abandon_1 : decode b_MO_abandon 1 = .ok (.bipush 7, 2) := by decide +kernel
theorem d_MO_abandon_3 : decode b_MO_abandon 3 = .ok (.invokestatic 84, 3) := by decide +kernel
theorem d_MO_abandon_6 : decode b_MO_abandon 6 = .ok (.ifCond .ne 5, 3) := by decide +kernel
theorem d_MO_abandon_9 : decode b_MO_abandon 9 = .ok (.iconst (-1), 1) := by decide +kernel
theorem d_MO_abandon_10 : decode b_MO_abandon 10 = .ok (.ireturn, 1) := by decide +kernel
theorem d_MO_abandon_11 : decode b_MO_abandon 11 = .ok (.iconst 0, 1) := by decide +kernel
theorem d_MO_abandon_12 : decode b_MO_abandon 12 = .ok (.istore_n 2, 1) := by decide +kernel
theorem d_MO_abandon_13 : decode b_MO_abandon 13 = .ok (.iconst 0, 1) := by decide +kernel
theorem d_MO_abandon_14 : decode b_MO_abandon 14 = .ok (.istore_n 3, 1) := by decide +kernel
theorem d_MO_abandon_15 : decode b_MO_abandon 15 = .ok (.iload_n 3, 1) := by decide +kernel
theorem d_MO_abandon_16 : decode b_MO_abandon 16 = .ok (.aload_n 0, 1) := by decide +kernel
theorem d_MO_abandon_17 : decode b_MO_abandon 17 = .ok (.getfield 73, 3) := by decide +kernel
theorem d_MO_abandon_20 : decode b_MO_abandon 20 = .ok (.if_icmp .ge 41, 3) := by decide +kernel
theorem d_MO_abandon_23 : decode b_MO_abandon 23 = .ok (.aload_n 0, 1) := by decide +kernel
theorem d_MO_abandon_24 : decode b_MO_abandon 24 = .ok (.getfield 42, 3) := by decide +kernel
theorem d_MO_abandon_27 : decode b_MO_abandon 27 = .ok (.iload_n 3, 1) := by decide +kernel
theorem d_MO_abandon_28 : decode b_MO_abandon 28 = .ok (.baload, 1) := by decide +kernel
theorem d_MO_abandon_29 : decode b_MO_abandon 29 = .ok (.ifCond .eq 26, 3) := by decide +kernel
theorem d_MO_abandon_32 : decode b_MO_abandon 32 = .ok (.aload_n 0, 1) := by decide +kernel
theorem d_MO_abandon_33 : decode b_MO_abandon 33 = .ok (.getfield 36, 3) := by decide +kernel
theorem d_MO_abandon_36 : decode b_MO_abandon 36 = .ok (.iload_n 3, 1) := by decide +kernel
theorem d_MO_abandon_37 : decode b_MO_abandon 37 = .ok (.iaload, 1) := by decide +kernel
theorem d_MO_abandon_38 : decode b_MO_abandon 38 = .ok (.iload_n 1, 1) := by decide +kernel
theorem d_MO_abandon_39 : decode b_MO_abandon 39 = .ok (.if_icmp .eq 6, 3) := by decide +kernel
theorem d_MO_abandon_42 : decode b_MO_abandon 42 = .ok (.goto 13, 3) := by decide +kernel
theorem d_MO_abandon_45 : decode b_MO_abandon 45 = .ok (.aload_n 0, 1) := by decide +kernel
theorem d_MO_abandon_46 : decode b_MO_abandon 46 = .ok (.getfield 42, 3) := by decide +kernel
theorem d_MO_abandon_49 : decode b_MO_abandon 49 = .ok (.iload_n 3, 1) := by decide +kernel
theorem d_MO_abandon_50 : decode b_MO_abandon 50 = .ok (.iconst 0, 1) := by decide +kernel
theorem d_MO_abandon_51 : decode b_MO_abandon 51 = .ok (.bastore, 1) := by decide +kernel
theorem d_MO_abandon_52 : decode b_MO_abandon 52 = .ok (.iinc 2 1, 3) := by decide +kernel
theorem d_MO_abandon_55 : decode b_MO_abandon 55 = .ok (.iinc 3 1, 3) := by decide +kernel
theorem d_MO_abandon_58 : decode b_MO_abandon 58 = .ok (.goto (-43), 3) := by decide +kernel
theorem d_MO_abandon_61 : decode b_MO_abandon 61 = .ok (.iload_n 2, 1) := by decide +kernel
theorem d_MO_abandon_62 : decode b_MO_abandon 62 = .ok (.ireturn, 1) := by decide +kernel
theorem d_MO_cache_0 : decode b_MO_cache 0 = .ok (.lload_n 1, 1) := by decide +kernel
theorem d_MO_cache_1 : decode b_MO_cache 1 = .ok (.lconst 0, 1) := by decide +kernel
theorem d_MO_cache_2 : decode b_MO_cache 2 = .ok (.lcmp, 1) := by decide +kernel
theorem d_MO_cache_3 : decode b_MO_cache 3 = .ok (.ifCond .eq 24, 3) := by decide +kernel
theorem d_MO_cache_6 : decode b_MO_cache 6 = .ok (.iload_n 3, 1) := by decide +kernel
theorem d_MO_cache_7 : decode b_MO_cache 7 = .ok (.ifCond .eq 22, 3) := by decide +kernel
theorem d_MO_cache_10 : decode b_MO_cache 10 = .ok (.aload_n 0, 1) := by decide +kernel
theorem d_MO_cache_11 : decode b_MO_cache 11 = .ok (.lload_n 1, 1) := by decide +kernel
theorem d_MO_cache_12 : decode b_MO_cache 12 = .ok (.invokevirtual 106, 3) := by decide +kernel
theorem d_MO_cache_15 : decode b_MO_cache 15 = .ok (.ifCond .ne 14, 3) := by decide +kernel
theorem d_MO_cache_18 : decode b_MO_cache 18 = .ok (.aload_n 0, 1) := by decide +kernel
theorem d_MO_cache_19 : decode b_MO_cache 19 = .ok (.getfield 90, 3) := by decide +kernel
theorem d_MO_cache_22 : decode b_MO_cache 22 = .ok (.bipush 60, 2) := by decide +kernel
theorem d_MO_cache_24 : decode b_MO_cache 24 = .ok (.if_icmp .ne 5, 3) := by decide +kernel
theorem d_MO_cache_27 : decode b_MO_cache 27 = .ok (.iconst 0, 1) := by decide +kernel
theorem d_MO_cache_28 : decode b_MO_cache 28 = .ok (.ireturn, 1) := by decide +kernel
theorem d_MO_cache_29 : decode b_MO_cache 29 = .ok (.iload_n 3, 1) := by decide +kernel
theorem d_MO_cache_30 : decode b_MO_cache 30 = .ok (.aload_n 0, 1) := by decide +kernel
theorem d_MO_cache_31 : decode b_MO_cache 31 = .ok (.lload_n 1, 1) := by decide +kernel
theorem d_MO_cache_32 : decode b_MO_cache 32 = .ok (.invokevirtual 106, 3) := by decide +kernel
theorem d_MO_cache_35 : decode b_MO_cache 35 = .ok (.if_icmp .ne 5, 3) := by decide +kernel
theorem d_MO_cache_38 : decode b_MO_cache 38 = .ok (.iconst 1, 1) := by decide +kernel
theorem d_MO_cache_39 : decode b_MO_cache 39 = .ok (.ireturn, 1) := by decide +kernel
theorem d_MO_cache_40 : decode b_MO_cache 40 = .ok (.iload_n 3, 1) := by decide +kernel
theorem d_MO_cache_41 : decode b_MO_cache 41 = .ok (.ifCond .eq 25, 3) := by decide +kernel
theorem d_MO_cache_44 : decode b_MO_cache 44 = .ok (.aload_n 0, 1) := by decide +kernel
theorem d_MO_cache_45 : decode b_MO_cache 45 = .ok (.getfield 60, 3) := by decide +kernel
theorem d_MO_cache_48 : decode b_MO_cache 48 = .ok (.aload_n 0, 1) := by decide +kernel
theorem d_MO_cache_49 : decode b_MO_cache 49 = .ok (.getfield 90, 3) := by decide +kernel
theorem d_MO_cache_52 : decode b_MO_cache 52 = .ok (.lload_n 1, 1) := by decide +kernel
theorem d_MO_cache_53 : decode b_MO_cache 53 = .ok (.lastore, 1) := by decide +kernel
theorem d_MO_cache_54 : decode b_MO_cache 54 = .ok (.aload_n 0, 1) := by decide +kernel
theorem d_MO_cache_55 : decode b_MO_cache 55 = .ok (.dup, 1) := by decide +kernel
theorem d_MO_cache_56 : decode b_MO_cache 56 = .ok (.getfield 90, 3) := by decide +kernel
theorem d_MO_cache_59 : decode b_MO_cache 59 = .ok (.iconst 1, 1) := by decide +kernel
theorem d_MO_cache_60 : decode b_MO_cache 60 = .ok (.iadd, 1) := by decide +kernel
theorem d_MO_cache_61 : decode b_MO_cache 61 = .ok (.putfield 90, 3) := by decide +kernel
theorem d_MO_cache_64 : decode b_MO_cache 64 = .ok (.iconst 1, 1) := by decide +kernel
theorem d_MO_cache_65 : decode b_MO_cache 65 = .ok (.ireturn, 1) := by decide +kernel
theorem d_MO_cache_66 : decode b_MO_cache 66 = .ok (.iconst 0, 1) := by decide +kernel
theorem d_MO_cache_67 : decode b_MO_cache 67 = .ok (.istore 4, 2) := by decide +kernel
theorem d_MO_cache_69 : decode b_MO_cache 69 = .ok (.aload_n 0, 1) := by decide +kernel
theorem d_MO_cache_70 : decode b_MO_cache 70 = .ok (.getfield 60, 3) := by decide +kernel
theorem d_MO_cache_73 : decode b_MO_cache 73 = .ok (.iload 4, 2) := by decide +kernel
theorem d_MO_cache_75 : decode b_MO_cache 75 = .ok (.laload, 1) := by decide +kernel
theorem d_MO_cache_76 : decode b_MO_cache 76 = .ok (.lload_n 1, 1) := by decide +kernel
theorem d_MO_cache_77 : decode b_MO_cache 77 = .ok (.lcmp, 1) := by decide +kernel
theorem d_MO_cache_78 : decode b_MO_cache 78 = .ok (.ifCond .eq 9, 3) := by decide +kernel
theorem d_MO_cache_81 : decode b_MO_cache 81 = .ok (.iinc 4 1, 3) := by decide +kernel
theorem d_MO_cache_84 : decode b_MO_cache 84 = .ok (.goto (-15), 3) := by decide +kernel
theorem d_MO_cache_87 : decode b_MO_cache 87 = .ok (.aload_n 0, 1) := by decide +kernel
theorem d_MO_cache_88 : decode b_MO_cache 88 = .ok (.dup, 1) := by decide +kernel
theorem d_MO_cache_89 : decode b_MO_cache 89 = .ok (.getfield 90, 3) := by decide +kernel
theorem d_MO_cache_92 : decode b_MO_cache 92 = .ok (.iconst 1, 1) := by decide +kernel
theorem d_MO_cache_93 : decode b_MO_cache 93 = .ok (.isub, 1) := by decide +kernel
theorem d_MO_cache_94 : decode b_MO_cache 94 = .ok (.putfield 90, 3) := by decide +kernel
theorem d_MO_cache_97 : decode b_MO_cache 97 = .ok (.aload_n 0, 1) := by decide +kernel
theorem d_MO_cache_98 : decode b_MO_cache 98 = .ok (.getfield 60, 3) := by decide +kernel
theorem d_MO_cache_101 : decode b_MO_cache 101 = .ok (.iload 4, 2) := by decide +kernel
theorem d_MO_cache_103 : decode b_MO_cache 103 = .ok (.aload_n 0, 1) := by decide +kernel
theorem d_MO_cache_104 : decode b_MO_cache 104 = .ok (.getfield 60, 3) := by decide +kernel
theorem d_MO_cache_107 : decode b_MO_cache 107 = .ok (.aload_n 0, 1) := by decide +kernel
theorem d_MO_cache_108 : decode b_MO_cache 108 = .ok (.getfield 90, 3) := by decide +kernel
theorem d_MO_cache_111 : decode b_MO_cache 111 = .ok (.laload, 1) := by decide +kernel
theorem d_MO_cache_112 : decode b_MO_cache 112 = .ok (.lastore, 1) := by decide +kernel
theorem d_MO_cache_113 : decode b_MO_cache 113 = .ok (.iconst 1, 1) := by decide +kernel
theorem d_MO_cache_114 : decode b_MO_cache 114 = .ok (.ireturn, 1) := by decide +kernel
theorem d_MO_isOutput_0 : decode b_MO_isOutput 0 = .ok (.iload_n 1, 1) := by decide +kernel
theorem d_MO_isOutput_1 : decode b_MO_isOutput 1 = .ok (.iconst 3, 1) := by decide +kernel
theorem d_MO_isOutput_2 : decode b_MO_isOutput 2 = .ok (.invokestatic 84, 3) := by decide +kernel
theorem d_MO_isOutput_5 : decode b_MO_isOutput 5 = .ok (.ifCond .eq 49, 3) := by decide +kernel
theorem d_MO_isOutput_8 : decode b_MO_isOutput 8 = .ok (.aload_n 0, 1) := by decide +kernel
theorem d_MO_isOutput_9 : decode b_MO_isOutput 9 = .ok (.iload_n 2, 1) := by decide +kernel
theorem d_MO_isOutput_10 : decode b_MO_isOutput 10 = .ok (.invokevirtual 76, 3) := by decide +kernel
theorem d_MO_isOutput_13 : decode b_MO_isOutput 13 = .ok (.ifCond .eq 41, 3) := by decide +kernel
theorem d_MO_isOutput_16 : decode b_MO_isOutput 16 = .ok (.aload_n 0, 1) := by decide +kernel
theorem d_MO_isOutput_17 : decode b_MO_isOutput 17 = .ok (.getfield 13, 3) := by decide +kernel
theorem d_MO_isOutput_20 : decode b_MO_isOutput 20 = .ok (.iload_n 1, 1) := by decide +kernel
theorem d_MO_isOutput_21 : decode b_MO_isOutput 21 = .ok (.iconst 3, 1) := by decide +kernel
theorem d_MO_isOutput_22 : decode b_MO_isOutput 22 = .ok (.invokestatic 84, 3) := by decide +kernel
theorem d_MO_isOutput_25 : decode b_MO_isOutput 25 = .ok (.ifCond .eq 20, 3) := by decide +kernel
theorem d_MO_isOutput_28 : decode b_MO_isOutput 28 = .ok (.aload_n 0, 1) := by decide +kernel
theorem d_MO_isOutput_29 : decode b_MO_isOutput 29 = .ok (.iload_n 2, 1) := by decide +kernel
theorem d_MO_isOutput_30 : decode b_MO_isOutput 30 = .ok (.invokevirtual 76, 3) := by decide +kernel
theorem d_MO_isOutput_33 : decode b_MO_isOutput 33 = .ok (.ifCond .eq 12, 3) := by decide +kernel
theorem d_MO_isOutput_36 : decode b_MO_isOutput 36 = .ok (.bipush 40, 2) := by decide +kernel
theorem d_MO_isOutput_38 : decode b_MO_isOutput 38 = .ok (.iload_n 1, 1) := by decide +kernel
theorem d_MO_isOutput_39 : decode b_MO_isOutput 39 = .ok (.imul, 1) := by decide +kernel
theorem d_MO_isOutput_40 : decode b_MO_isOutput 40 = .ok (.iload_n 2, 1) := by decide +kernel
theorem d_MO_isOutput_41 : decode b_MO_isOutput 41 = .ok (.iadd, 1) := by decide +kernel
theorem d_MO_isOutput_42 : decode b_MO_isOutput 42 = .ok (.goto 4, 3) := by decide +kernel
theorem d_MO_isOutput_45 : decode b_MO_isOutput 45 = .ok (.iconst 0, 1) := by decide +kernel
theorem d_MO_isOutput_46 : decode b_MO_isOutput 46 = .ok (.iaload, 1) := by decide +kernel
theorem d_MO_isOutput_47 : decode b_MO_isOutput 47 = .ok (.ifCond .eq 7, 3) := by decide +kernel
theorem d_MO_isOutput_50 : decode b_MO_isOutput 50 = .ok (.iconst 1, 1) := by decide +kernel
theorem d_MO_isOutput_51 : decode b_MO_isOutput 51 = .ok (.goto 4, 3) := by decide +kernel
theorem d_MO_isOutput_54 : decode b_MO_isOutput 54 = .ok (.iconst 0, 1) := by decide +kernel
theorem d_MO_isOutput_55 : decode b_MO_isOutput 55 = .ok (.ireturn, 1) := by decide +kernel
theorem d_MO_read_0 : decode b_MO_read 0 = .ok (.iload_n 1, 1) := by decide +kernel
theorem d_MO_read_1 : decode b_MO_read 1 = .ok (.iconst 3, 1) := by decide +kernel
theorem d_MO_read_2 : decode b_MO_read 2 = .ok (.invokestatic 84, 3) := by decide +kernel
theorem d_MO_read_5 : decode b_MO_read 5 = .ok (.ifCond .eq 20, 3) := by decide +kernel
theorem d_MO_read_8 : decode b_MO_read 8 = .ok (.aload_n 0, 1) := by decide +kernel
theorem d_MO_read_9 : decode b_MO_read 9 = .ok (.iload_n 2, 1) := by decide +kernel
theorem d_MO_read_10 : decode b_MO_read 10 = .ok (.invokevirtual 76, 3) := by decide +kernel
theorem d_MO_read_13 : decode b_MO_read 13 = .ok (.ifCond .eq 12, 3) := by decide +kernel
theorem d_MO_read_16 : decode b_MO_read 16 = .ok (.aload_n 0, 1) := by decide +kernel
theorem d_MO_read_17 : decode b_MO_read 17 = .ok (.getfield 114, 3) := by decide +kernel
theorem d_MO_read_20 : decode b_MO_read 20 = .ok (.bipush 100, 2) := by decide +kernel
theorem d_MO_read_22 : decode b_MO_read 22 = .ok (.if_icmp .ne 5, 3) := by decide +kernel
theorem d_MO_read_25 : decode b_MO_read 25 = .ok (.iconst (-1), 1) := by decide +kernel
theorem d_MO_read_26 : decode b_MO_read 26 = .ok (.ireturn, 1) := by decide +kernel
theorem d_MO_read_27 : decode b_MO_read 27 = .ok (.aload_n 0, 1) := by decide +kernel
theorem d_MO_read_28 : decode b_MO_read 28 = .ok (.iload_n 1, 1) := by decide +kernel
theorem d_MO_read_29 : decode b_MO_read 29 = .ok (.iload_n 2, 1) := by decide +kernel
theorem d_MO_read_30 : decode b_MO_read 30 = .ok (.invokevirtual 117, 3) := by decide +kernel
theorem d_MO_read_33 : decode b_MO_read 33 = .ok (.ifCond .ne 6, 3) := by decide +kernel
theorem d_MO_read_36 : decode b_MO_read 36 = .ok (.bipush (-2), 2) := by decide +kernel
theorem d_MO_read_38 : decode b_MO_read 38 = .ok (.ireturn, 1) := by decide +kernel
theorem d_MO_read_39 : decode b_MO_read 39 = .ok (.bipush 40, 2) := by decide +kernel
theorem d_MO_read_41 : decode b_MO_read 41 = .ok (.iload_n 1, 1) := by decide +kernel
theorem d_MO_read_42 : decode b_MO_read 42 = .ok (.imul, 1) := by decide +kernel
theorem d_MO_read_43 : decode b_MO_read 43 = .ok (.iload_n 2, 1) := by decide +kernel
theorem d_MO_read_44 : decode b_MO_read 44 = .ok (.iadd, 1) := by decide +kernel
theorem d_MO_read_45 : decode b_MO_read 45 = .ok (.istore_n 3, 1) := by decide +kernel
theorem d_MO_read_46 : decode b_MO_read 46 = .ok (.aload_n 0, 1) := by decide +kernel
theorem d_MO_read_47 : decode b_MO_read 47 = .ok (.getfield 27, 3) := by decide +kernel
theorem d_MO_read_50 : decode b_MO_read 50 = .ok (.iload_n 3, 1) := by decide +kernel
theorem d_MO_read_51 : decode b_MO_read 51 = .ok (.baload, 1) := by decide +kernel
theorem d_MO_read_52 : decode b_MO_read 52 = .ok (.ifCond .ne 45, 3) := by decide +kernel
theorem d_MO_read_55 : decode b_MO_read 55 = .ok (.aload_n 0, 1) := by decide +kernel
theorem d_MO_read_56 : decode b_MO_read 56 = .ok (.aload_n 0, 1) := by decide +kernel
theorem d_MO_read_57 : decode b_MO_read 57 = .ok (.getfield 19, 3) := by decide +kernel
theorem d_MO_read_60 : decode b_MO_read 60 = .ok (.iload_n 3, 1) := by decide +kernel
theorem d_MO_read_61 : decode b_MO_read 61 = .ok (.laload, 1) := by decide +kernel
theorem d_MO_read_62 : decode b_MO_read 62 = .ok (.invokevirtual 106, 3) := by decide +kernel
theorem d_MO_read_65 : decode b_MO_read 65 = .ok (.ifCond .ne 32, 3) := by decide +kernel
theorem d_MO_read_68 : decode b_MO_read 68 = .ok (.aload_n 0, 1) := by decide +kernel
theorem d_MO_read_69 : decode b_MO_read 69 = .ok (.getfield 57, 3) := by decide +kernel
theorem d_MO_read_72 : decode b_MO_read 72 = .ok (.bipush 12, 2) := by decide +kernel
theorem d_MO_read_74 : decode b_MO_read 74 = .ok (.iload_n 1, 1) := by decide +kernel
theorem d_MO_read_75 : decode b_MO_read 75 = .ok (.imul, 1) := by decide +kernel
theorem d_MO_read_76 : decode b_MO_read 76 = .ok (.aload_n 0, 1) := by decide +kernel
theorem d_MO_read_77 : decode b_MO_read 77 = .ok (.getfield 13, 3) := by decide +kernel
theorem d_MO_read_80 : decode b_MO_read 80 = .ok (.iload_n 3, 1) := by decide +kernel
theorem d_MO_read_81 : decode b_MO_read 81 = .ok (.iaload, 1) := by decide +kernel
theorem d_MO_read_82 : decode b_MO_read 82 = .ok (.iadd, 1) := by decide +kernel
theorem d_MO_read_83 : decode b_MO_read 83 = .ok (.iconst 1, 1) := by decide +kernel
theorem d_MO_read_84 : decode b_MO_read 84 = .ok (.isub, 1) := by decide +kernel
theorem d_MO_read_85 : decode b_MO_read 85 = .ok (.iconst 1, 1) := by decide +kernel
theorem d_MO_read_86 : decode b_MO_read 86 = .ok (.bastore, 1) := by decide +kernel
theorem d_MO_read_87 : decode b_MO_read 87 = .ok (.aload_n 0, 1) := by decide +kernel
theorem d_MO_read_88 : decode b_MO_read 88 = .ok (.getfield 13, 3) := by decide +kernel
theorem d_MO_read_91 : decode b_MO_read 91 = .ok (.iload_n 3, 1) := by decide +kernel
theorem d_MO_read_92 : decode b_MO_read 92 = .ok (.iconst 0, 1) := by decide +kernel
theorem d_MO_read_93 : decode b_MO_read 93 = .ok (.iastore, 1) := by decide +kernel
theorem d_MO_read_94 : decode b_MO_read 94 = .ok (.bipush (-3), 2) := by decide +kernel
theorem d_MO_read_96 : decode b_MO_read 96 = .ok (.ireturn, 1) := by decide +kernel
theorem d_MO_read_97 : decode b_MO_read 97 = .ok (.aload_n 0, 1) := by decide +kernel
theorem d_MO_read_98 : decode b_MO_read 98 = .ok (.getfield 27, 3) := by decide +kernel
theorem d_MO_read_101 : decode b_MO_read 101 = .ok (.iload_n 3, 1) := by decide +kernel
theorem d_MO_read_102 : decode b_MO_read 102 = .ok (.iconst 1, 1) := by decide +kernel
theorem d_MO_read_103 : decode b_MO_read 103 = .ok (.bastore, 1) := by decide +kernel
theorem d_MO_read_104 : decode b_MO_read 104 = .ok (.aload_n 0, 1) := by decide +kernel
theorem d_MO_read_105 : decode b_MO_read 105 = .ok (.getfield 63, 3) := by decide +kernel
theorem d_MO_read_108 : decode b_MO_read 108 = .ok (.aload_n 0, 1) := by decide +kernel
theorem d_MO_read_109 : decode b_MO_read 109 = .ok (.getfield 114, 3) := by decide +kernel
theorem d_MO_read_112 : decode b_MO_read 112 = .ok (.aload_n 0, 1) := by decide +kernel
theorem d_MO_read_113 : decode b_MO_read 113 = .ok (.getfield 19, 3) := by decide +kernel
theorem d_MO_read_116 : decode b_MO_read 116 = .ok (.iload_n 3, 1) := by decide +kernel
theorem d_MO_read_117 : decode b_MO_read 117 = .ok (.laload, 1) := by decide +kernel
theorem d_MO_read_118 : decode b_MO_read 118 = .ok (.lastore, 1) := by decide +kernel
theorem d_MO_read_119 : decode b_MO_read 119 = .ok (.aload_n 0, 1) := by decide +kernel
theorem d_MO_read_120 : decode b_MO_read 120 = .ok (.dup, 1) := by decide +kernel
theorem d_MO_read_121 : decode b_MO_read 121 = .ok (.getfield 114, 3) := by decide +kernel
theorem d_MO_read_124 : decode b_MO_read 124 = .ok (.iconst 1, 1) := by decide +kernel
theorem d_MO_read_125 : decode b_MO_read 125 = .ok (.iadd, 1) := by decide +kernel
theorem d_MO_read_126 : decode b_MO_read 126 = .ok (.putfield 114, 3) := by decide +kernel
theorem d_MO_read_129 : decode b_MO_read 129 = .ok (.aload_n 0, 1) := by decide +kernel
theorem d_MO_read_130 : decode b_MO_read 130 = .ok (.getfield 114, 3) := by decide +kernel
theorem d_MO_read_133 : decode b_MO_read 133 = .ok (.iconst 1, 1) := by decide +kernel
theorem d_MO_read_134 : decode b_MO_read 134 = .ok (.isub, 1) := by decide +kernel
theorem d_MO_read_135 : decode b_MO_read 135 = .ok (.ireturn, 1) := by decide +kernel
theorem d_MO_held_0 : decode b_MO_held 0 = .ok (.iload_n 1, 1) := by decide +kernel
theorem d_MO_held_1 : decode b_MO_held 1 = .ok (.ifCond .lt 20, 3) := by decide +kernel
theorem d_MO_held_4 : decode b_MO_held 4 = .ok (.iload_n 1, 1) := by decide +kernel
theorem d_MO_held_5 : decode b_MO_held 5 = .ok (.aload_n 0, 1) := by decide +kernel
theorem d_MO_held_6 : decode b_MO_held 6 = .ok (.getfield 114, 3) := by decide +kernel
theorem d_MO_held_9 : decode b_MO_held 9 = .ok (.if_icmp .ge 12, 3) := by decide +kernel
theorem d_MO_held_12 : decode b_MO_held 12 = .ok (.aload_n 0, 1) := by decide +kernel
theorem d_MO_held_13 : decode b_MO_held 13 = .ok (.getfield 63, 3) := by decide +kernel
theorem d_MO_held_16 : decode b_MO_held 16 = .ok (.iload_n 1, 1) := by decide +kernel
theorem d_MO_held_17 : decode b_MO_held 17 = .ok (.laload, 1) := by decide +kernel
theorem d_MO_held_18 : decode b_MO_held 18 = .ok (.goto 4, 3) := by decide +kernel
theorem d_MO_held_21 : decode b_MO_held 21 = .ok (.lconst 0, 1) := by decide +kernel
theorem d_MO_held_22 : decode b_MO_held 22 = .ok (.lreturn, 1) := by decide +kernel
theorem d_MO_letGo_0 : decode b_MO_letGo 0 = .ok (.iload_n 1, 1) := by decide +kernel
theorem d_MO_letGo_1 : decode b_MO_letGo 1 = .ok (.ifCond .lt 22, 3) := by decide +kernel
theorem d_MO_letGo_4 : decode b_MO_letGo 4 = .ok (.iload_n 1, 1) := by decide +kernel
theorem d_MO_letGo_5 : decode b_MO_letGo 5 = .ok (.aload_n 0, 1) := by decide +kernel
theorem d_MO_letGo_6 : decode b_MO_letGo 6 = .ok (.getfield 114, 3) := by decide +kernel
theorem d_MO_letGo_9 : decode b_MO_letGo 9 = .ok (.if_icmp .ge 14, 3) := by decide +kernel
theorem d_MO_letGo_12 : decode b_MO_letGo 12 = .ok (.aload_n 0, 1) := by decide +kernel
theorem d_MO_letGo_13 : decode b_MO_letGo 13 = .ok (.getfield 63, 3) := by decide +kernel
theorem d_MO_letGo_16 : decode b_MO_letGo 16 = .ok (.iload_n 1, 1) := by decide +kernel
theorem d_MO_letGo_17 : decode b_MO_letGo 17 = .ok (.laload, 1) := by decide +kernel
theorem d_MO_letGo_18 : decode b_MO_letGo 18 = .ok (.lconst 0, 1) := by decide +kernel
theorem d_MO_letGo_19 : decode b_MO_letGo 19 = .ok (.lcmp, 1) := by decide +kernel
theorem d_MO_letGo_20 : decode b_MO_letGo 20 = .ok (.ifCond .ne 5, 3) := by decide +kernel
theorem d_MO_letGo_23 : decode b_MO_letGo 23 = .ok (.iconst 0, 1) := by decide +kernel
theorem d_MO_letGo_24 : decode b_MO_letGo 24 = .ok (.ireturn, 1) := by decide +kernel
theorem d_MO_letGo_25 : decode b_MO_letGo 25 = .ok (.aload_n 0, 1) := by decide +kernel
theorem d_MO_letGo_26 : decode b_MO_letGo 26 = .ok (.getfield 63, 3) := by decide +kernel
theorem d_MO_letGo_29 : decode b_MO_letGo 29 = .ok (.iload_n 1, 1) := by decide +kernel
theorem d_MO_letGo_30 : decode b_MO_letGo 30 = .ok (.lconst 0, 1) := by decide +kernel
theorem d_MO_letGo_31 : decode b_MO_letGo 31 = .ok (.lastore, 1) := by decide +kernel
theorem d_MO_letGo_32 : decode b_MO_letGo 32 = .ok (.iconst 1, 1) := by decide +kernel
theorem d_MO_letGo_33 : decode b_MO_letGo 33 = .ok (.ireturn, 1) := by decide +kernel
theorem d_MO_content_0 : decode b_MO_content 0 = .ok (.aload_n 0, 1) := by decide +kernel
theorem d_MO_content_1 : decode b_MO_content 1 = .ok (.iload_n 1, 1) := by decide +kernel
theorem d_MO_content_2 : decode b_MO_content 2 = .ok (.iload_n 2, 1) := by decide +kernel
theorem d_MO_content_3 : decode b_MO_content 3 = .ok (.invokevirtual 117, 3) := by decide +kernel
theorem d_MO_content_6 : decode b_MO_content 6 = .ok (.ifCond .eq 17, 3) := by decide +kernel
theorem d_MO_content_9 : decode b_MO_content 9 = .ok (.aload_n 0, 1) := by decide +kernel
theorem d_MO_content_10 : decode b_MO_content 10 = .ok (.getfield 19, 3) := by decide +kernel
theorem d_MO_content_13 : decode b_MO_content 13 = .ok (.bipush 40, 2) := by decide +kernel
theorem d_MO_content_15 : decode b_MO_content 15 = .ok (.iload_n 1, 1) := by decide +kernel
theorem d_MO_content_16 : decode b_MO_content 16 = .ok (.imul, 1) := by decide +kernel
theorem d_MO_content_17 : decode b_MO_content 17 = .ok (.iload_n 2, 1) := by decide +kernel
theorem d_MO_content_18 : decode b_MO_content 18 = .ok (.iadd, 1) := by decide +kernel
theorem d_MO_content_19 : decode b_MO_content 19 = .ok (.laload, 1) := by decide +kernel
theorem d_MO_content_20 : decode b_MO_content 20 = .ok (.goto 4, 3) := by decide +kernel
theorem d_MO_content_23 : decode b_MO_content 23 = .ok (.lconst 0, 1) := by decide +kernel
theorem d_MO_content_24 : decode b_MO_content 24 = .ok (.lreturn, 1) := by decide +kernel
theorem d_MO_about_0 : decode b_MO_about 0 = .ok (.aload_n 0, 1) := by decide +kernel
theorem d_MO_about_1 : decode b_MO_about 1 = .ok (.iload_n 1, 1) := by decide +kernel
theorem d_MO_about_2 : decode b_MO_about 2 = .ok (.iload_n 2, 1) := by decide +kernel
theorem d_MO_about_3 : decode b_MO_about 3 = .ok (.invokevirtual 117, 3) := by decide +kernel
theorem d_MO_about_6 : decode b_MO_about 6 = .ok (.ifCond .ne 5, 3) := by decide +kernel
theorem d_MO_about_9 : decode b_MO_about 9 = .ok (.iconst (-1), 1) := by decide +kernel
theorem d_MO_about_10 : decode b_MO_about 10 = .ok (.ireturn, 1) := by decide +kernel
theorem d_MO_about_11 : decode b_MO_about 11 = .ok (.bipush 40, 2) := by decide +kernel
theorem d_MO_about_13 : decode b_MO_about 13 = .ok (.iload_n 1, 1) := by decide +kernel
theorem d_MO_about_14 : decode b_MO_about 14 = .ok (.imul, 1) := by decide +kernel
theorem d_MO_about_15 : decode b_MO_about 15 = .ok (.iload_n 2, 1) := by decide +kernel
theorem d_MO_about_16 : decode b_MO_about 16 = .ok (.iadd, 1) := by decide +kernel
theorem d_MO_about_17 : decode b_MO_about 17 = .ok (.istore 4, 2) := by decide +kernel
theorem d_MO_about_19 : decode b_MO_about 19 = .ok (.iload_n 3, 1) := by decide +kernel
theorem d_MO_about_20 : decode b_MO_about 20 = .ok (.tableswitch 82 0 3 #[32, 42, 58, 74], 32) := by decide +kernel
theorem d_MO_about_52 : decode b_MO_about 52 = .ok (.aload_n 0, 1) := by decide +kernel
theorem d_MO_about_53 : decode b_MO_about 53 = .ok (.getfield 13, 3) := by decide +kernel
theorem d_MO_about_56 : decode b_MO_about 56 = .ok (.iload 4, 2) := by decide +kernel
theorem d_MO_about_58 : decode b_MO_about 58 = .ok (.iaload, 1) := by decide +kernel
theorem d_MO_about_59 : decode b_MO_about 59 = .ok (.iconst 1, 1) := by decide +kernel
theorem d_MO_about_60 : decode b_MO_about 60 = .ok (.isub, 1) := by decide +kernel
theorem d_MO_about_61 : decode b_MO_about 61 = .ok (.ireturn, 1) := by decide +kernel
theorem d_MO_about_62 : decode b_MO_about 62 = .ok (.aload_n 0, 1) := by decide +kernel
theorem d_MO_about_63 : decode b_MO_about 63 = .ok (.getfield 23, 3) := by decide +kernel
theorem d_MO_about_66 : decode b_MO_about 66 = .ok (.iload 4, 2) := by decide +kernel
theorem d_MO_about_68 : decode b_MO_about 68 = .ok (.baload, 1) := by decide +kernel
theorem d_MO_about_69 : decode b_MO_about 69 = .ok (.ifCond .eq 7, 3) := by decide +kernel
theorem d_MO_about_72 : decode b_MO_about 72 = .ok (.iconst 1, 1) := by decide +kernel
theorem d_MO_about_73 : decode b_MO_about 73 = .ok (.goto 4, 3) := by decide +kernel
theorem d_MO_about_76 : decode b_MO_about 76 = .ok (.iconst 0, 1) := by decide +kernel
theorem d_MO_about_77 : decode b_MO_about 77 = .ok (.ireturn, 1) := by decide +kernel
theorem d_MO_about_78 : decode b_MO_about 78 = .ok (.aload_n 0, 1) := by decide +kernel
theorem d_MO_about_79 : decode b_MO_about 79 = .ok (.getfield 27, 3) := by decide +kernel
theorem d_MO_about_82 : decode b_MO_about 82 = .ok (.iload 4, 2) := by decide +kernel
theorem d_MO_about_84 : decode b_MO_about 84 = .ok (.baload, 1) := by decide +kernel
theorem d_MO_about_85 : decode b_MO_about 85 = .ok (.ifCond .eq 7, 3) := by decide +kernel
theorem d_MO_about_88 : decode b_MO_about 88 = .ok (.iconst 1, 1) := by decide +kernel
theorem d_MO_about_89 : decode b_MO_about 89 = .ok (.goto 4, 3) := by decide +kernel
theorem d_MO_about_92 : decode b_MO_about 92 = .ok (.iconst 0, 1) := by decide +kernel
theorem d_MO_about_93 : decode b_MO_about 93 = .ok (.ireturn, 1) := by decide +kernel
theorem d_MO_about_94 : decode b_MO_about 94 = .ok (.aload_n 0, 1) := by decide +kernel
theorem d_MO_about_95 : decode b_MO_about 95 = .ok (.getfield 16, 3) := by decide +kernel
theorem d_MO_about_98 : decode b_MO_about 98 = .ok (.iload 4, 2) := by decide +kernel
theorem d_MO_about_100 : decode b_MO_about 100 = .ok (.iaload, 1) := by decide +kernel
theorem d_MO_about_101 : decode b_MO_about 101 = .ok (.ireturn, 1) := by decide +kernel
theorem d_MO_about_102 : decode b_MO_about 102 = .ok (.iconst (-1), 1) := by decide +kernel
theorem d_MO_about_103 : decode b_MO_about 103 = .ok (.ireturn, 1) := by decide +kernel
theorem d_MO_list_0 : decode b_MO_list 0 = .ok (.iload_n 1, 1) := by decide +kernel
theorem d_MO_list_1 : decode b_MO_list 1 = .ok (.iconst 3, 1) := by decide +kernel
theorem d_MO_list_2 : decode b_MO_list 2 = .ok (.invokestatic 84, 3) := by decide +kernel
theorem d_MO_list_5 : decode b_MO_list 5 = .ok (.ifCond .eq 20, 3) := by decide +kernel
theorem d_MO_list_8 : decode b_MO_list 8 = .ok (.iload_n 2, 1) := by decide +kernel
theorem d_MO_list_9 : decode b_MO_list 9 = .ok (.iconst (-1), 1) := by decide +kernel
theorem d_MO_list_10 : decode b_MO_list 10 = .ok (.if_icmp .eq 11, 3) := by decide +kernel
theorem d_MO_list_13 : decode b_MO_list 13 = .ok (.aload_n 0, 1) := by decide +kernel
theorem d_MO_list_14 : decode b_MO_list 14 = .ok (.iload_n 2, 1) := by decide +kernel
theorem d_MO_list_15 : decode b_MO_list 15 = .ok (.invokevirtual 76, 3) := by decide +kernel
theorem d_MO_list_18 : decode b_MO_list 18 = .ok (.ifCond .eq 7, 3) := by decide +kernel
theorem d_MO_list_21 : decode b_MO_list 21 = .ok (.iload_n 3, 1) := by decide +kernel
theorem d_MO_list_22 : decode b_MO_list 22 = .ok (.ifCond .ge 5, 3) := by decide +kernel
theorem d_MO_list_25 : decode b_MO_list 25 = .ok (.iconst (-1), 1) := by decide +kernel
theorem d_MO_list_26 : decode b_MO_list 26 = .ok (.ireturn, 1) := by decide +kernel
theorem d_MO_list_27 : decode b_MO_list 27 = .ok (.iload_n 3, 1) := by decide +kernel
theorem d_MO_list_28 : decode b_MO_list 28 = .ok (.istore 4, 2) := by decide +kernel
theorem d_MO_list_30 : decode b_MO_list 30 = .ok (.iconst 0, 1) := by decide +kernel
theorem d_MO_list_31 : decode b_MO_list 31 = .ok (.istore 5, 2) := by decide +kernel
theorem d_MO_list_33 : decode b_MO_list 33 = .ok (.iload 5, 2) := by decide +kernel
theorem d_MO_list_35 : decode b_MO_list 35 = .ok (.aload_n 0, 1) := by decide +kernel
theorem d_MO_list_36 : decode b_MO_list 36 = .ok (.getfield 69, 3) := by decide +kernel
theorem d_MO_list_39 : decode b_MO_list 39 = .ok (.if_icmp .ge 59, 3) := by decide +kernel
theorem d_MO_list_42 : decode b_MO_list 42 = .ok (.aload_n 0, 1) := by decide +kernel
theorem d_MO_list_43 : decode b_MO_list 43 = .ok (.getfield 13, 3) := by decide +kernel
theorem d_MO_list_46 : decode b_MO_list 46 = .ok (.bipush 40, 2) := by decide +kernel
theorem d_MO_list_48 : decode b_MO_list 48 = .ok (.iload_n 1, 1) := by decide +kernel
theorem d_MO_list_49 : decode b_MO_list 49 = .ok (.imul, 1) := by decide +kernel
theorem d_MO_list_50 : decode b_MO_list 50 = .ok (.iload 5, 2) := by decide +kernel
theorem d_MO_list_52 : decode b_MO_list 52 = .ok (.iadd, 1) := by decide +kernel
theorem d_MO_list_53 : decode b_MO_list 53 = .ok (.iaload, 1) := by decide +kernel
theorem d_MO_list_54 : decode b_MO_list 54 = .ok (.ifCond .eq 38, 3) := by decide +kernel
theorem d_MO_list_57 : decode b_MO_list 57 = .ok (.iload_n 2, 1) := by decide +kernel
theorem d_MO_list_58 : decode b_MO_list 58 = .ok (.iconst (-1), 1) := by decide +kernel
theorem d_MO_list_59 : decode b_MO_list 59 = .ok (.if_icmp .eq 22, 3) := by decide +kernel
theorem d_MO_list_62 : decode b_MO_list 62 = .ok (.iload 5, 2) := by decide +kernel
theorem d_MO_list_64 : decode b_MO_list 64 = .ok (.iload_n 2, 1) := by decide +kernel
theorem d_MO_list_65 : decode b_MO_list 65 = .ok (.if_icmp .eq 16, 3) := by decide +kernel
theorem d_MO_list_68 : decode b_MO_list 68 = .ok (.aload_n 0, 1) := by decide +kernel
theorem d_MO_list_69 : decode b_MO_list 69 = .ok (.iload 5, 2) := by decide +kernel
theorem d_MO_list_71 : decode b_MO_list 71 = .ok (.iload_n 2, 1) := by decide +kernel
theorem d_MO_list_72 : decode b_MO_list 72 = .ok (.invokevirtual 80, 3) := by decide +kernel
theorem d_MO_list_75 : decode b_MO_list 75 = .ok (.ifCond .ne 6, 3) := by decide +kernel
theorem d_MO_list_78 : decode b_MO_list 78 = .ok (.goto 14, 3) := by decide +kernel
theorem d_MO_list_81 : decode b_MO_list 81 = .ok (.iload 4, 2) := by decide +kernel
theorem d_MO_list_83 : decode b_MO_list 83 = .ok (.ifCond .ne 6, 3) := by decide +kernel
theorem d_MO_list_86 : decode b_MO_list 86 = .ok (.iload 5, 2) := by decide +kernel
theorem d_MO_list_88 : decode b_MO_list 88 = .ok (.ireturn, 1) := by decide +kernel
theorem d_MO_list_89 : decode b_MO_list 89 = .ok (.iinc 4 (-1), 3) := by decide +kernel
theorem d_MO_list_92 : decode b_MO_list 92 = .ok (.iinc 5 1, 3) := by decide +kernel
theorem d_MO_list_95 : decode b_MO_list 95 = .ok (.goto (-62), 3) := by decide +kernel
theorem d_MO_list_98 : decode b_MO_list 98 = .ok (.iconst (-1), 1) := by decide +kernel
theorem d_MO_list_99 : decode b_MO_list 99 = .ok (.ireturn, 1) := by decide +kernel
theorem d_MO_dirty_0 : decode b_MO_dirty 0 = .ok (.iload_n 1, 1) := by decide +kernel
theorem d_MO_dirty_1 : decode b_MO_dirty 1 = .ok (.bipush 11, 2) := by decide +kernel
theorem d_MO_dirty_3 : decode b_MO_dirty 3 = .ok (.invokestatic 84, 3) := by decide +kernel
theorem d_MO_dirty_6 : decode b_MO_dirty 6 = .ok (.ifCond .eq 50, 3) := by decide +kernel
theorem d_MO_dirty_9 : decode b_MO_dirty 9 = .ok (.iload_n 2, 1) := by decide +kernel
theorem d_MO_dirty_10 : decode b_MO_dirty 10 = .ok (.iconst 3, 1) := by decide +kernel
theorem d_MO_dirty_11 : decode b_MO_dirty 11 = .ok (.invokestatic 84, 3) := by decide +kernel
theorem d_MO_dirty_14 : decode b_MO_dirty 14 = .ok (.ifCond .eq 42, 3) := by decide +kernel
theorem d_MO_dirty_17 : decode b_MO_dirty 17 = .ok (.aload_n 0, 1) := by decide +kernel
theorem d_MO_dirty_18 : decode b_MO_dirty 18 = .ok (.getfield 57, 3) := by decide +kernel
theorem d_MO_dirty_21 : decode b_MO_dirty 21 = .ok (.iload_n 1, 1) := by decide +kernel
theorem d_MO_dirty_22 : decode b_MO_dirty 22 = .ok (.bipush 11, 2) := by decide +kernel
theorem d_MO_dirty_24 : decode b_MO_dirty 24 = .ok (.invokestatic 84, 3) := by decide +kernel
theorem d_MO_dirty_27 : decode b_MO_dirty 27 = .ok (.ifCond .eq 20, 3) := by decide +kernel
theorem d_MO_dirty_30 : decode b_MO_dirty 30 = .ok (.iload_n 2, 1) := by decide +kernel
theorem d_MO_dirty_31 : decode b_MO_dirty 31 = .ok (.iconst 3, 1) := by decide +kernel
theorem d_MO_dirty_32 : decode b_MO_dirty 32 = .ok (.invokestatic 84, 3) := by decide +kernel
theorem d_MO_dirty_35 : decode b_MO_dirty 35 = .ok (.ifCond .eq 12, 3) := by decide +kernel
theorem d_MO_dirty_38 : decode b_MO_dirty 38 = .ok (.bipush 12, 2) := by decide +kernel
theorem d_MO_dirty_40 : decode b_MO_dirty 40 = .ok (.iload_n 2, 1) := by decide +kernel
theorem d_MO_dirty_41 : decode b_MO_dirty 41 = .ok (.imul, 1) := by decide +kernel
theorem d_MO_dirty_42 : decode b_MO_dirty 42 = .ok (.iload_n 1, 1) := by decide +kernel
theorem d_MO_dirty_43 : decode b_MO_dirty 43 = .ok (.iadd, 1) := by decide +kernel
theorem d_MO_dirty_44 : decode b_MO_dirty 44 = .ok (.goto 4, 3) := by decide +kernel
theorem d_MO_dirty_47 : decode b_MO_dirty 47 = .ok (.iconst 0, 1) := by decide +kernel
theorem d_MO_dirty_48 : decode b_MO_dirty 48 = .ok (.baload, 1) := by decide +kernel
theorem d_MO_dirty_49 : decode b_MO_dirty 49 = .ok (.ifCond .eq 7, 3) := by decide +kernel
theorem d_MO_dirty_52 : decode b_MO_dirty 52 = .ok (.iconst 1, 1) := by decide +kernel
theorem d_MO_dirty_53 : decode b_MO_dirty 53 = .ok (.goto 4, 3) := by decide +kernel
theorem d_MO_dirty_56 : decode b_MO_dirty 56 = .ok (.iconst 0, 1) := by decide +kernel
theorem d_MO_dirty_57 : decode b_MO_dirty 57 = .ok (.ireturn, 1) := by decide +kernel
theorem d_MO_clear_0 : decode b_MO_clear 0 = .ok (.iload_n 1, 1) := by decide +kernel
theorem d_MO_clear_1 : decode b_MO_clear 1 = .ok (.iconst 3, 1) := by decide +kernel
theorem d_MO_clear_2 : decode b_MO_clear 2 = .ok (.invokestatic 84, 3) := by decide +kernel
theorem d_MO_clear_5 : decode b_MO_clear 5 = .ok (.ifCond .ne 5, 3) := by decide +kernel
theorem d_MO_clear_8 : decode b_MO_clear 8 = .ok (.iconst (-1), 1) := by decide +kernel
theorem d_MO_clear_9 : decode b_MO_clear 9 = .ok (.ireturn, 1) := by decide +kernel
theorem d_MO_clear_10 : decode b_MO_clear 10 = .ok (.iconst 0, 1) := by decide +kernel
theorem d_MO_clear_11 : decode b_MO_clear 11 = .ok (.istore_n 2, 1) := by decide +kernel
theorem d_MO_clear_12 : decode b_MO_clear 12 = .ok (.iload_n 2, 1) := by decide +kernel
theorem d_MO_clear_13 : decode b_MO_clear 13 = .ok (.aload_n 0, 1) := by decide +kernel
theorem d_MO_clear_14 : decode b_MO_clear 14 = .ok (.getfield 73, 3) := by decide +kernel
theorem d_MO_clear_17 : decode b_MO_clear 17 = .ok (.if_icmp .ge 30, 3) := by decide +kernel
theorem d_MO_clear_20 : decode b_MO_clear 20 = .ok (.aload_n 0, 1) := by decide +kernel
theorem d_MO_clear_21 : decode b_MO_clear 21 = .ok (.getfield 42, 3) := by decide +kernel
theorem d_MO_clear_24 : decode b_MO_clear 24 = .ok (.iload_n 2, 1) := by decide +kernel
theorem d_MO_clear_25 : decode b_MO_clear 25 = .ok (.baload, 1) := by decide +kernel
theorem d_MO_clear_26 : decode b_MO_clear 26 = .ok (.ifCond .eq 15, 3) := by decide +kernel
theorem d_MO_clear_29 : decode b_MO_clear 29 = .ok (.aload_n 0, 1) := by decide +kernel
theorem d_MO_clear_30 : decode b_MO_clear 30 = .ok (.getfield 33, 3) := by decide +kernel
theorem d_MO_clear_33 : decode b_MO_clear 33 = .ok (.iload_n 2, 1) := by decide +kernel
theorem d_MO_clear_34 : decode b_MO_clear 34 = .ok (.iaload, 1) := by decide +kernel
theorem d_MO_clear_35 : decode b_MO_clear 35 = .ok (.iload_n 1, 1) := by decide +kernel
theorem d_MO_clear_36 : decode b_MO_clear 36 = .ok (.if_icmp .ne 5, 3) := by decide +kernel
theorem d_MO_clear_39 : decode b_MO_clear 39 = .ok (.iconst (-1), 1) := by decide +kernel
theorem d_MO_clear_40 : decode b_MO_clear 40 = .ok (.ireturn, 1) := by decide +kernel
theorem d_MO_clear_41 : decode b_MO_clear 41 = .ok (.iinc 2 1, 3) := by decide +kernel
theorem d_MO_clear_44 : decode b_MO_clear 44 = .ok (.goto (-32), 3) := by decide +kernel
theorem d_MO_clear_47 : decode b_MO_clear 47 = .ok (.iconst 0, 1) := by decide +kernel
theorem d_MO_clear_48 : decode b_MO_clear 48 = .ok (.istore_n 2, 1) := by decide +kernel
theorem d_MO_clear_49 : decode b_MO_clear 49 = .ok (.iconst 0, 1) := by decide +kernel
theorem d_MO_clear_50 : decode b_MO_clear 50 = .ok (.istore_n 3, 1) := by decide +kernel
theorem d_MO_clear_51 : decode b_MO_clear 51 = .ok (.iload_n 3, 1) := by decide +kernel
theorem d_MO_clear_52 : decode b_MO_clear 52 = .ok (.aload_n 0, 1) := by decide +kernel
theorem d_MO_clear_53 : decode b_MO_clear 53 = .ok (.getfield 69, 3) := by decide +kernel
theorem d_MO_clear_56 : decode b_MO_clear 56 = .ok (.if_icmp .ge 43, 3) := by decide +kernel
theorem d_MO_clear_59 : decode b_MO_clear 59 = .ok (.iload_n 2, 1) := by decide +kernel
theorem d_MO_clear_60 : decode b_MO_clear 60 = .ok (.aload_n 0, 1) := by decide +kernel
theorem d_MO_clear_61 : decode b_MO_clear 61 = .ok (.getfield 13, 3) := by decide +kernel
theorem d_MO_clear_64 : decode b_MO_clear 64 = .ok (.bipush 40, 2) := by decide +kernel
theorem d_MO_clear_66 : decode b_MO_clear 66 = .ok (.iload_n 1, 1) := by decide +kernel
theorem d_MO_clear_67 : decode b_MO_clear 67 = .ok (.imul, 1) := by decide +kernel
theorem d_MO_clear_68 : decode b_MO_clear 68 = .ok (.iload_n 3, 1) := by decide +kernel
theorem d_MO_clear_69 : decode b_MO_clear 69 = .ok (.iadd, 1) := by decide +kernel
theorem d_MO_clear_70 : decode b_MO_clear 70 = .ok (.iaload, 1) := by decide +kernel
theorem d_MO_clear_71 : decode b_MO_clear 71 = .ok (.ifCond .eq 7, 3) := by decide +kernel
theorem d_MO_clear_74 : decode b_MO_clear 74 = .ok (.iconst 1, 1) := by decide +kernel
theorem d_MO_clear_75 : decode b_MO_clear 75 = .ok (.goto 4, 3) := by decide +kernel
theorem d_MO_clear_78 : decode b_MO_clear 78 = .ok (.iconst 0, 1) := by decide +kernel
theorem d_MO_clear_79 : decode b_MO_clear 79 = .ok (.iadd, 1) := by decide +kernel
theorem d_MO_clear_80 : decode b_MO_clear 80 = .ok (.istore_n 2, 1) := by decide +kernel
theorem d_MO_clear_81 : decode b_MO_clear 81 = .ok (.aload_n 0, 1) := by decide +kernel
theorem d_MO_clear_82 : decode b_MO_clear 82 = .ok (.getfield 13, 3) := by decide +kernel
theorem d_MO_clear_85 : decode b_MO_clear 85 = .ok (.bipush 40, 2) := by decide +kernel
theorem d_MO_clear_87 : decode b_MO_clear 87 = .ok (.iload_n 1, 1) := by decide +kernel
theorem d_MO_clear_88 : decode b_MO_clear 88 = .ok (.imul, 1) := by decide +kernel
theorem d_MO_clear_89 : decode b_MO_clear 89 = .ok (.iload_n 3, 1) := by decide +kernel
theorem d_MO_clear_90 : decode b_MO_clear 90 = .ok (.iadd, 1) := by decide +kernel
theorem d_MO_clear_91 : decode b_MO_clear 91 = .ok (.iconst 0, 1) := by decide +kernel
theorem d_MO_clear_92 : decode b_MO_clear 92 = .ok (.iastore, 1) := by decide +kernel
theorem d_MO_clear_93 : decode b_MO_clear 93 = .ok (.iinc 3 1, 3) := by decide +kernel
theorem d_MO_clear_96 : decode b_MO_clear 96 = .ok (.goto (-45), 3) := by decide +kernel
theorem d_MO_clear_99 : decode b_MO_clear 99 = .ok (.iload_n 2, 1) := by decide +kernel
theorem d_MO_clear_100 : decode b_MO_clear 100 = .ok (.ireturn, 1) := by decide +kernel
theorem d_MO_meets_0 : decode b_MO_meets 0 = .ok (.aload_n 0, 1) := by decide +kernel
theorem d_MO_meets_1 : decode b_MO_meets 1 = .ok (.getfield 66, 3) := by decide +kernel
theorem d_MO_meets_4 : decode b_MO_meets 4 = .ok (.aload_n 0, 1) := by decide +kernel
theorem d_MO_meets_5 : decode b_MO_meets 5 = .ok (.getfield 120, 3) := by decide +kernel
theorem d_MO_meets_8 : decode b_MO_meets 8 = .ok (.lload_n 1, 1) := by decide +kernel
theorem d_MO_meets_9 : decode b_MO_meets 9 = .ok (.lastore, 1) := by decide +kernel
theorem d_MO_meets_10 : decode b_MO_meets 10 = .ok (.aload_n 0, 1) := by decide +kernel
theorem d_MO_meets_11 : decode b_MO_meets 11 = .ok (.dup, 1) := by decide +kernel
theorem d_MO_meets_12 : decode b_MO_meets 12 = .ok (.getfield 120, 3) := by decide +kernel
theorem d_MO_meets_15 : decode b_MO_meets 15 = .ok (.iconst 1, 1) := by decide +kernel
theorem d_MO_meets_16 : decode b_MO_meets 16 = .ok (.iadd, 1) := by decide +kernel
theorem d_MO_meets_17 : decode b_MO_meets 17 = .ok (.putfield 120, 3) := by decide +kernel
theorem d_MO_meets_20 : decode b_MO_meets 20 = .ok (.return_, 1) := by decide +kernel
theorem d_MO_gather_0 : decode b_MO_gather 0 = .ok (.aload_n 0, 1) := by decide +kernel
theorem d_MO_gather_1 : decode b_MO_gather 1 = .ok (.iconst 0, 1) := by decide +kernel
theorem d_MO_gather_2 : decode b_MO_gather 2 = .ok (.putfield 120, 3) := by decide +kernel
theorem d_MO_gather_5 : decode b_MO_gather 5 = .ok (.iconst 0, 1) := by decide +kernel
theorem d_MO_gather_6 : decode b_MO_gather 6 = .ok (.istore_n 1, 1) := by decide +kernel
theorem d_MO_gather_7 : decode b_MO_gather 7 = .ok (.iload_n 1, 1) := by decide +kernel
theorem d_MO_gather_8 : decode b_MO_gather 8 = .ok (.sipush 160, 3) := by decide +kernel
theorem d_MO_gather_11 : decode b_MO_gather 11 = .ok (.if_icmp .ge 37, 3) := by decide +kernel
theorem d_MO_gather_14 : decode b_MO_gather 14 = .ok (.aload_n 0, 1) := by decide +kernel
theorem d_MO_gather_15 : decode b_MO_gather 15 = .ok (.getfield 13, 3) := by decide +kernel
theorem d_MO_gather_18 : decode b_MO_gather 18 = .ok (.iload_n 1, 1) := by decide +kernel
theorem d_MO_gather_19 : decode b_MO_gather 19 = .ok (.iaload, 1) := by decide +kernel
theorem d_MO_gather_20 : decode b_MO_gather 20 = .ok (.ifCond .eq 22, 3) := by decide +kernel
theorem d_MO_gather_23 : decode b_MO_gather 23 = .ok (.aload_n 0, 1) := by decide +kernel
theorem d_MO_gather_24 : decode b_MO_gather 24 = .ok (.getfield 27, 3) := by decide +kernel
theorem d_MO_gather_27 : decode b_MO_gather 27 = .ok (.iload_n 1, 1) := by decide +kernel
theorem d_MO_gather_28 : decode b_MO_gather 28 = .ok (.baload, 1) := by decide +kernel
theorem d_MO_gather_29 : decode b_MO_gather 29 = .ok (.ifCond .eq 13, 3) := by decide +kernel
theorem d_MO_gather_32 : decode b_MO_gather 32 = .ok (.aload_n 0, 1) := by decide +kernel
theorem d_MO_gather_33 : decode b_MO_gather 33 = .ok (.aload_n 0, 1) := by decide +kernel
theorem d_MO_gather_34 : decode b_MO_gather 34 = .ok (.getfield 19, 3) := by decide +kernel
theorem d_MO_gather_37 : decode b_MO_gather 37 = .ok (.iload_n 1, 1) := by decide +kernel
theorem d_MO_gather_38 : decode b_MO_gather 38 = .ok (.laload, 1) := by decide +kernel
theorem d_MO_gather_39 : decode b_MO_gather 39 = .ok (.invokevirtual 123, 3) := by decide +kernel
theorem d_MO_gather_42 : decode b_MO_gather 42 = .ok (.iinc 1 1, 3) := by decide +kernel
theorem d_MO_gather_45 : decode b_MO_gather 45 = .ok (.goto (-38), 3) := by decide +kernel
theorem d_MO_gather_48 : decode b_MO_gather 48 = .ok (.iconst 0, 1) := by decide +kernel
theorem d_MO_gather_49 : decode b_MO_gather 49 = .ok (.istore_n 1, 1) := by decide +kernel
theorem d_MO_gather_50 : decode b_MO_gather 50 = .ok (.iload_n 1, 1) := by decide +kernel
theorem d_MO_gather_51 : decode b_MO_gather 51 = .ok (.aload_n 0, 1) := by decide +kernel
theorem d_MO_gather_52 : decode b_MO_gather 52 = .ok (.getfield 73, 3) := by decide +kernel
theorem d_MO_gather_55 : decode b_MO_gather 55 = .ok (.if_icmp .ge 63, 3) := by decide +kernel
theorem d_MO_gather_58 : decode b_MO_gather 58 = .ok (.bipush 12, 2) := by decide +kernel
theorem d_MO_gather_60 : decode b_MO_gather 60 = .ok (.iload_n 1, 1) := by decide +kernel
theorem d_MO_gather_61 : decode b_MO_gather 61 = .ok (.imul, 1) := by decide +kernel
theorem d_MO_gather_62 : decode b_MO_gather 62 = .ok (.istore_n 2, 1) := by decide +kernel
theorem d_MO_gather_63 : decode b_MO_gather 63 = .ok (.iload_n 2, 1) := by decide +kernel
theorem d_MO_gather_64 : decode b_MO_gather 64 = .ok (.bipush 12, 2) := by decide +kernel
theorem d_MO_gather_66 : decode b_MO_gather 66 = .ok (.iload_n 1, 1) := by decide +kernel
theorem d_MO_gather_67 : decode b_MO_gather 67 = .ok (.imul, 1) := by decide +kernel
theorem d_MO_gather_68 : decode b_MO_gather 68 = .ok (.aload_n 0, 1) := by decide +kernel
theorem d_MO_gather_69 : decode b_MO_gather 69 = .ok (.getfield 39, 3) := by decide +kernel
theorem d_MO_gather_72 : decode b_MO_gather 72 = .ok (.iload_n 1, 1) := by decide +kernel
theorem d_MO_gather_73 : decode b_MO_gather 73 = .ok (.iaload, 1) := by decide +kernel
theorem d_MO_gather_74 : decode b_MO_gather 74 = .ok (.iadd, 1) := by decide +kernel
theorem d_MO_gather_75 : decode b_MO_gather 75 = .ok (.if_icmp .ge 37, 3) := by decide +kernel
theorem d_MO_gather_78 : decode b_MO_gather 78 = .ok (.aload_n 0, 1) := by decide +kernel
theorem d_MO_gather_79 : decode b_MO_gather 79 = .ok (.getfield 42, 3) := by decide +kernel
theorem d_MO_gather_82 : decode b_MO_gather 82 = .ok (.iload_n 1, 1) := by decide +kernel
theorem d_MO_gather_83 : decode b_MO_gather 83 = .ok (.baload, 1) := by decide +kernel
theorem d_MO_gather_84 : decode b_MO_gather 84 = .ok (.ifCond .eq 28, 3) := by decide +kernel
theorem d_MO_gather_87 : decode b_MO_gather 87 = .ok (.aload_n 0, 1) := by decide +kernel
theorem d_MO_gather_88 : decode b_MO_gather 88 = .ok (.getfield 54, 3) := by decide +kernel
theorem d_MO_gather_91 : decode b_MO_gather 91 = .ok (.iload_n 2, 1) := by decide +kernel
theorem d_MO_gather_92 : decode b_MO_gather 92 = .ok (.baload, 1) := by decide +kernel
theorem d_MO_gather_93 : decode b_MO_gather 93 = .ok (.ifCond .ne 13, 3) := by decide +kernel
theorem d_MO_gather_96 : decode b_MO_gather 96 = .ok (.aload_n 0, 1) := by decide +kernel
theorem d_MO_gather_97 : decode b_MO_gather 97 = .ok (.aload_n 0, 1) := by decide +kernel
theorem d_MO_gather_98 : decode b_MO_gather 98 = .ok (.getfield 48, 3) := by decide +kernel
theorem d_MO_gather_101 : decode b_MO_gather 101 = .ok (.iload_n 2, 1) := by decide +kernel
theorem d_MO_gather_102 : decode b_MO_gather 102 = .ok (.laload, 1) := by decide +kernel
theorem d_MO_gather_103 : decode b_MO_gather 103 = .ok (.invokevirtual 123, 3) := by decide +kernel
theorem d_MO_gather_106 : decode b_MO_gather 106 = .ok (.iinc 2 1, 3) := by decide +kernel
theorem d_MO_gather_109 : decode b_MO_gather 109 = .ok (.goto (-46), 3) := by decide +kernel
theorem d_MO_gather_112 : decode b_MO_gather 112 = .ok (.iinc 1 1, 3) := by decide +kernel
theorem d_MO_gather_115 : decode b_MO_gather 115 = .ok (.goto (-65), 3) := by decide +kernel
theorem d_MO_gather_118 : decode b_MO_gather 118 = .ok (.iconst 0, 1) := by decide +kernel
theorem d_MO_gather_119 : decode b_MO_gather 119 = .ok (.istore_n 1, 1) := by decide +kernel
theorem d_MO_gather_120 : decode b_MO_gather 120 = .ok (.iload_n 1, 1) := by decide +kernel
theorem d_MO_gather_121 : decode b_MO_gather 121 = .ok (.aload_n 0, 1) := by decide +kernel
theorem d_MO_gather_122 : decode b_MO_gather 122 = .ok (.getfield 114, 3) := by decide +kernel
theorem d_MO_gather_125 : decode b_MO_gather 125 = .ok (.if_icmp .ge 30, 3) := by decide +kernel
theorem d_MO_gather_128 : decode b_MO_gather 128 = .ok (.aload_n 0, 1) := by decide +kernel
theorem d_MO_gather_129 : decode b_MO_gather 129 = .ok (.getfield 63, 3) := by decide +kernel
theorem d_MO_gather_132 : decode b_MO_gather 132 = .ok (.iload_n 1, 1) := by decide +kernel
theorem d_MO_gather_133 : decode b_MO_gather 133 = .ok (.laload, 1) := by decide +kernel
theorem d_MO_gather_134 : decode b_MO_gather 134 = .ok (.lconst 0, 1) := by decide +kernel
theorem d_MO_gather_135 : decode b_MO_gather 135 = .ok (.lcmp, 1) := by decide +kernel
theorem d_MO_gather_136 : decode b_MO_gather 136 = .ok (.ifCond .eq 13, 3) := by decide +kernel
theorem d_MO_gather_139 : decode b_MO_gather 139 = .ok (.aload_n 0, 1) := by decide +kernel
theorem d_MO_gather_140 : decode b_MO_gather 140 = .ok (.aload_n 0, 1) := by decide +kernel
theorem d_MO_gather_141 : decode b_MO_gather 141 = .ok (.getfield 63, 3) := by decide +kernel
theorem d_MO_gather_144 : decode b_MO_gather 144 = .ok (.iload_n 1, 1) := by decide +kernel
theorem d_MO_gather_145 : decode b_MO_gather 145 = .ok (.laload, 1) := by decide +kernel
theorem d_MO_gather_146 : decode b_MO_gather 146 = .ok (.invokevirtual 123, 3) := by decide +kernel
theorem d_MO_gather_149 : decode b_MO_gather 149 = .ok (.iinc 1 1, 3) := by decide +kernel
theorem d_MO_gather_152 : decode b_MO_gather 152 = .ok (.goto (-32), 3) := by decide +kernel
theorem d_MO_gather_155 : decode b_MO_gather 155 = .ok (.return_, 1) := by decide +kernel
theorem d_MO_copies_0 : decode b_MO_copies 0 = .ok (.aload_n 0, 1) := by decide +kernel
theorem d_MO_copies_1 : decode b_MO_copies 1 = .ok (.invokevirtual 127, 3) := by decide +kernel
theorem d_MO_copies_4 : decode b_MO_copies 4 = .ok (.iconst 0, 1) := by decide +kernel
theorem d_MO_copies_5 : decode b_MO_copies 5 = .ok (.istore_n 3, 1) := by decide +kernel
theorem d_MO_copies_6 : decode b_MO_copies 6 = .ok (.iconst 0, 1) := by decide +kernel
theorem d_MO_copies_7 : decode b_MO_copies 7 = .ok (.istore 4, 2) := by decide +kernel
theorem d_MO_copies_9 : decode b_MO_copies 9 = .ok (.iload 4, 2) := by decide +kernel
theorem d_MO_copies_11 : decode b_MO_copies 11 = .ok (.aload_n 0, 1) := by decide +kernel
theorem d_MO_copies_12 : decode b_MO_copies 12 = .ok (.getfield 120, 3) := by decide +kernel
theorem d_MO_copies_15 : decode b_MO_copies 15 = .ok (.if_icmp .ge 29, 3) := by decide +kernel
theorem d_MO_copies_18 : decode b_MO_copies 18 = .ok (.iload_n 3, 1) := by decide +kernel
theorem d_MO_copies_19 : decode b_MO_copies 19 = .ok (.aload_n 0, 1) := by decide +kernel
theorem d_MO_copies_20 : decode b_MO_copies 20 = .ok (.getfield 66, 3) := by decide +kernel
theorem d_MO_copies_23 : decode b_MO_copies 23 = .ok (.iload 4, 2) := by decide +kernel
theorem d_MO_copies_25 : decode b_MO_copies 25 = .ok (.laload, 1) := by decide +kernel
theorem d_MO_copies_26 : decode b_MO_copies 26 = .ok (.lload_n 1, 1) := by decide +kernel
theorem d_MO_copies_27 : decode b_MO_copies 27 = .ok (.lcmp, 1) := by decide +kernel
theorem d_MO_copies_28 : decode b_MO_copies 28 = .ok (.ifCond .ne 7, 3) := by decide +kernel
theorem d_MO_copies_31 : decode b_MO_copies 31 = .ok (.iconst 1, 1) := by decide +kernel
theorem d_MO_copies_32 : decode b_MO_copies 32 = .ok (.goto 4, 3) := by decide +kernel
theorem d_MO_copies_35 : decode b_MO_copies 35 = .ok (.iconst 0, 1) := by decide +kernel
theorem d_MO_copies_36 : decode b_MO_copies 36 = .ok (.iadd, 1) := by decide +kernel
theorem d_MO_copies_37 : decode b_MO_copies 37 = .ok (.istore_n 3, 1) := by decide +kernel
theorem d_MO_copies_38 : decode b_MO_copies 38 = .ok (.iinc 4 1, 3) := by decide +kernel
theorem d_MO_copies_41 : decode b_MO_copies 41 = .ok (.goto (-32), 3) := by decide +kernel
theorem d_MO_copies_44 : decode b_MO_copies 44 = .ok (.iload_n 3, 1) := by decide +kernel
theorem d_MO_copies_45 : decode b_MO_copies 45 = .ok (.ireturn, 1) := by decide +kernel
theorem d_MO_stored_0 : decode b_MO_stored 0 = .ok (.aload_n 0, 1) := by decide +kernel
theorem d_MO_stored_1 : decode b_MO_stored 1 = .ok (.invokevirtual 127, 3) := by decide +kernel
theorem d_MO_stored_4 : decode b_MO_stored 4 = .ok (.iconst 0, 1) := by decide +kernel
theorem d_MO_stored_5 : decode b_MO_stored 5 = .ok (.istore_n 1, 1) := by decide +kernel
theorem d_MO_stored_6 : decode b_MO_stored 6 = .ok (.iconst 0, 1) := by decide +kernel
theorem d_MO_stored_7 : decode b_MO_stored 7 = .ok (.istore_n 2, 1) := by decide +kernel
theorem d_MO_stored_8 : decode b_MO_stored 8 = .ok (.iload_n 2, 1) := by decide +kernel
theorem d_MO_stored_9 : decode b_MO_stored 9 = .ok (.aload_n 0, 1) := by decide +kernel
theorem d_MO_stored_10 : decode b_MO_stored 10 = .ok (.getfield 120, 3) := by decide +kernel
theorem d_MO_stored_13 : decode b_MO_stored 13 = .ok (.if_icmp .ge 65, 3) := by decide +kernel
theorem d_MO_stored_16 : decode b_MO_stored 16 = .ok (.iconst 1, 1) := by decide +kernel
theorem d_MO_stored_17 : decode b_MO_stored 17 = .ok (.istore_n 3, 1) := by decide +kernel
theorem d_MO_stored_18 : decode b_MO_stored 18 = .ok (.iconst 0, 1) := by decide +kernel
theorem d_MO_stored_19 : decode b_MO_stored 19 = .ok (.istore 4, 2) := by decide +kernel
theorem d_MO_stored_21 : decode b_MO_stored 21 = .ok (.iload 4, 2) := by decide +kernel
theorem d_MO_stored_23 : decode b_MO_stored 23 = .ok (.iload_n 2, 1) := by decide +kernel
theorem d_MO_stored_24 : decode b_MO_stored 24 = .ok (.if_icmp .ge 36, 3) := by decide +kernel
theorem d_MO_stored_27 : decode b_MO_stored 27 = .ok (.iload_n 3, 1) := by decide +kernel
theorem d_MO_stored_28 : decode b_MO_stored 28 = .ok (.ifCond .eq 24, 3) := by decide +kernel
theorem d_MO_stored_31 : decode b_MO_stored 31 = .ok (.aload_n 0, 1) := by decide +kernel
theorem d_MO_stored_32 : decode b_MO_stored 32 = .ok (.getfield 66, 3) := by decide +kernel
theorem d_MO_stored_35 : decode b_MO_stored 35 = .ok (.iload 4, 2) := by decide +kernel
theorem d_MO_stored_37 : decode b_MO_stored 37 = .ok (.laload, 1) := by decide +kernel
theorem d_MO_stored_38 : decode b_MO_stored 38 = .ok (.aload_n 0, 1) := by decide +kernel
theorem d_MO_stored_39 : decode b_MO_stored 39 = .ok (.getfield 66, 3) := by decide +kernel
theorem d_MO_stored_42 : decode b_MO_stored 42 = .ok (.iload_n 2, 1) := by decide +kernel
theorem d_MO_stored_43 : decode b_MO_stored 43 = .ok (.laload, 1) := by decide +kernel
theorem d_MO_stored_44 : decode b_MO_stored 44 = .ok (.lcmp, 1) := by decide +kernel
theorem d_MO_stored_45 : decode b_MO_stored 45 = .ok (.ifCond .eq 7, 3) := by decide +kernel
theorem d_MO_stored_48 : decode b_MO_stored 48 = .ok (.iconst 1, 1) := by decide +kernel
theorem d_MO_stored_49 : decode b_MO_stored 49 = .ok (.goto 4, 3) := by decide +kernel
theorem d_MO_stored_52 : decode b_MO_stored 52 = .ok (.iconst 0, 1) := by decide +kernel
theorem d_MO_stored_53 : decode b_MO_stored 53 = .ok (.istore_n 3, 1) := by decide +kernel
theorem d_MO_stored_54 : decode b_MO_stored 54 = .ok (.iinc 4 1, 3) := by decide +kernel
theorem d_MO_stored_57 : decode b_MO_stored 57 = .ok (.goto (-36), 3) := by decide +kernel
theorem d_MO_stored_60 : decode b_MO_stored 60 = .ok (.iload_n 1, 1) := by decide +kernel
theorem d_MO_stored_61 : decode b_MO_stored 61 = .ok (.iload_n 3, 1) := by decide +kernel
theorem d_MO_stored_62 : decode b_MO_stored 62 = .ok (.ifCond .eq 7, 3) := by decide +kernel
theorem d_MO_stored_65 : decode b_MO_stored 65 = .ok (.iconst 1, 1) := by decide +kernel
theorem d_MO_stored_66 : decode b_MO_stored 66 = .ok (.goto 4, 3) := by decide +kernel
theorem d_MO_stored_69 : decode b_MO_stored 69 = .ok (.iconst 0, 1) := by decide +kernel
theorem d_MO_stored_70 : decode b_MO_stored 70 = .ok (.iadd, 1) := by decide +kernel
theorem d_MO_stored_71 : decode b_MO_stored 71 = .ok (.istore_n 1, 1) := by decide +kernel
theorem d_MO_stored_72 : decode b_MO_stored 72 = .ok (.iinc 2 1, 3) := by decide +kernel
theorem d_MO_stored_75 : decode b_MO_stored 75 = .ok (.goto (-67), 3) := by decide +kernel
theorem d_MO_stored_78 : decode b_MO_stored 78 = .ok (.iload_n 1, 1) := by decide +kernel
theorem d_MO_stored_79 : decode b_MO_stored 79 = .ok (.ireturn, 1) := by decide +kernel
