theorem d_OS_init_0 : decode b_OS_init 0 = .ok (.aload_n 0, 1) := by decide +kernel
theorem d_OS_init_1 : decode b_OS_init 1 = .ok (.invokespecial 3, 3) := by decide +kernel
theorem d_OS_init_4 : decode b_OS_init 4 = .ok (.aload_n 0, 1) := by decide +kernel
theorem d_OS_init_5 : decode b_OS_init 5 = .ok (.new 9, 3) := by decide +kernel
theorem d_OS_init_8 : decode b_OS_init 8 = .ok (.dup, 1) := by decide +kernel
theorem d_OS_init_9 : decode b_OS_init 9 = .ok (.invokespecial 11, 3) := by decide +kernel
theorem d_OS_init_12 : decode b_OS_init 12 = .ok (.putfield 12, 3) := by decide +kernel
theorem d_OS_init_15 : decode b_OS_init 15 = .ok (.aload_n 0, 1) := by decide +kernel
theorem d_OS_init_16 : decode b_OS_init 16 = .ok (.new 16, 3) := by decide +kernel
theorem d_OS_init_19 : decode b_OS_init 19 = .ok (.dup, 1) := by decide +kernel
theorem d_OS_init_20 : decode b_OS_init 20 = .ok (.invokespecial 18, 3) := by decide +kernel
theorem d_OS_init_23 : decode b_OS_init 23 = .ok (.putfield 19, 3) := by decide +kernel
theorem d_OS_init_26 : decode b_OS_init 26 = .ok (.aload_n 0, 1) := by decide +kernel
theorem d_OS_init_27 : decode b_OS_init 27 = .ok (.new 23, 3) := by decide +kernel
theorem d_OS_init_30 : decode b_OS_init 30 = .ok (.dup, 1) := by decide +kernel
theorem d_OS_init_31 : decode b_OS_init 31 = .ok (.invokespecial 25, 3) := by decide +kernel
theorem d_OS_init_34 : decode b_OS_init 34 = .ok (.putfield 26, 3) := by decide +kernel
theorem d_OS_init_37 : decode b_OS_init 37 = .ok (.aload_n 0, 1) := by decide +kernel
theorem d_OS_init_38 : decode b_OS_init 38 = .ok (.new 23, 3) := by decide +kernel
theorem d_OS_init_41 : decode b_OS_init 41 = .ok (.dup, 1) := by decide +kernel
theorem d_OS_init_42 : decode b_OS_init 42 = .ok (.invokespecial 25, 3) := by decide +kernel
theorem d_OS_init_45 : decode b_OS_init 45 = .ok (.putfield 30, 3) := by decide +kernel
theorem d_OS_init_48 : decode b_OS_init 48 = .ok (.aload_n 0, 1) := by decide +kernel
theorem d_OS_init_49 : decode b_OS_init 49 = .ok (.new 33, 3) := by decide +kernel
theorem d_OS_init_52 : decode b_OS_init 52 = .ok (.dup, 1) := by decide +kernel
theorem d_OS_init_53 : decode b_OS_init 53 = .ok (.invokespecial 35, 3) := by decide +kernel
theorem d_OS_init_56 : decode b_OS_init 56 = .ok (.putfield 36, 3) := by decide +kernel
theorem d_OS_init_59 : decode b_OS_init 59 = .ok (.aload_n 0, 1) := by decide +kernel
theorem d_OS_init_60 : decode b_OS_init 60 = .ok (.new 40, 3) := by decide +kernel
theorem d_OS_init_63 : decode b_OS_init 63 = .ok (.dup, 1) := by decide +kernel
theorem d_OS_init_64 : decode b_OS_init 64 = .ok (.invokespecial 42, 3) := by decide +kernel
theorem d_OS_init_67 : decode b_OS_init 67 = .ok (.putfield 43, 3) := by decide +kernel
theorem d_OS_init_70 : decode b_OS_init 70 = .ok (.aload_n 0, 1) := by decide +kernel
theorem d_OS_init_71 : decode b_OS_init 71 = .ok (.new 47, 3) := by decide +kernel
theorem d_OS_init_74 : decode b_OS_init 74 = .ok (.dup, 1) := by decide +kernel
theorem d_OS_init_75 : decode b_OS_init 75 = .ok (.invokespecial 49, 3) := by decide +kernel
theorem d_OS_init_78 : decode b_OS_init 78 = .ok (.putfield 50, 3) := by decide +kernel
theorem d_OS_init_81 : decode b_OS_init 81 = .ok (.aload_n 0, 1) := by decide +kernel
theorem d_OS_init_82 : decode b_OS_init 82 = .ok (.sipush 420, 3) := by decide +kernel
theorem d_OS_init_85 : decode b_OS_init 85 = .ok (.newarray .long, 2) := by decide +kernel
theorem d_OS_init_87 : decode b_OS_init 87 = .ok (.putfield 54, 3) := by decide +kernel
theorem d_OS_init_90 : decode b_OS_init 90 = .ok (.return_, 1) := by decide +kernel
theorem d_OS_path_0 : decode b_OS_path 0 = .ok (.aload_n 0, 1) := by decide +kernel
theorem d_OS_path_1 : decode b_OS_path 1 = .ok (.getfield 12, 3) := by decide +kernel
theorem d_OS_path_4 : decode b_OS_path 4 = .ok (.iload_n 1, 1) := by decide +kernel
theorem d_OS_path_5 : decode b_OS_path 5 = .ok (.invokevirtual 58, 3) := by decide +kernel
theorem d_OS_path_8 : decode b_OS_path 8 = .ok (.ireturn, 1) := by decide +kernel
theorem d_OS_begin_0 : decode b_OS_begin 0 = .ok (.iload_n 1, 1) := by decide +kernel
theorem d_OS_begin_1 : decode b_OS_begin 1 = .ok (.invokestatic 62, 3) := by decide +kernel
theorem d_OS_begin_4 : decode b_OS_begin 4 = .ok (.ifCond .eq 27, 3) := by decide +kernel
theorem d_OS_begin_7 : decode b_OS_begin 7 = .ok (.iload_n 2, 1) := by decide +kernel
theorem d_OS_begin_8 : decode b_OS_begin 8 = .ok (.invokestatic 66, 3) := by decide +kernel
theorem d_OS_begin_11 : decode b_OS_begin 11 = .ok (.ifCond .eq 20, 3) := by decide +kernel
theorem d_OS_begin_14 : decode b_OS_begin 14 = .ok (.iload_n 3, 1) := by decide +kernel
theorem d_OS_begin_15 : decode b_OS_begin 15 = .ok (.invokestatic 69, 3) := by decide +kernel
theorem d_OS_begin_18 : decode b_OS_begin 18 = .ok (.ifCond .eq 13, 3) := by decide +kernel
theorem d_OS_begin_21 : decode b_OS_begin 21 = .ok (.aload_n 0, 1) := by decide +kernel
theorem d_OS_begin_22 : decode b_OS_begin 22 = .ok (.getfield 19, 3) := by decide +kernel
theorem d_OS_begin_25 : decode b_OS_begin 25 = .ok (.invokevirtual 72, 3) := by decide +kernel
theorem d_OS_begin_28 : decode b_OS_begin 28 = .ok (.ifCond .eq 5, 3) := by decide +kernel
theorem d_OS_begin_31 : decode b_OS_begin 31 = .ok (.iconst (-1), 1) := by decide +kernel
theorem d_OS_begin_32 : decode b_OS_begin 32 = .ok (.ireturn, 1) := by decide +kernel
theorem d_OS_begin_33 : decode b_OS_begin 33 = .ok (.aload_n 0, 1) := by decide +kernel
theorem d_OS_begin_34 : decode b_OS_begin 34 = .ok (.getfield 19, 3) := by decide +kernel
theorem d_OS_begin_37 : decode b_OS_begin 37 = .ok (.iload_n 1, 1) := by decide +kernel
theorem d_OS_begin_38 : decode b_OS_begin 38 = .ok (.iload_n 2, 1) := by decide +kernel
theorem d_OS_begin_39 : decode b_OS_begin 39 = .ok (.invokevirtual 76, 3) := by decide +kernel
theorem d_OS_begin_42 : decode b_OS_begin 42 = .ok (.ifCond .eq 6, 3) := by decide +kernel
theorem d_OS_begin_45 : decode b_OS_begin 45 = .ok (.bipush (-2), 2) := by decide +kernel
theorem d_OS_begin_47 : decode b_OS_begin 47 = .ok (.ireturn, 1) := by decide +kernel
theorem d_OS_begin_48 : decode b_OS_begin 48 = .ok (.aload_n 0, 1) := by decide +kernel
theorem d_OS_begin_49 : decode b_OS_begin 49 = .ok (.getfield 19, 3) := by decide +kernel
theorem d_OS_begin_52 : decode b_OS_begin 52 = .ok (.iload_n 1, 1) := by decide +kernel
theorem d_OS_begin_53 : decode b_OS_begin 53 = .ok (.iload_n 2, 1) := by decide +kernel
theorem d_OS_begin_54 : decode b_OS_begin 54 = .ok (.iload_n 3, 1) := by decide +kernel
theorem d_OS_begin_55 : decode b_OS_begin 55 = .ok (.invokevirtual 80, 3) := by decide +kernel
theorem d_OS_begin_58 : decode b_OS_begin 58 = .ok (.ireturn, 1) := by decide +kernel
theorem d_OS_stage_0 : decode b_OS_stage 0 = .ok (.aload_n 0, 1) := by decide +kernel
theorem d_OS_stage_1 : decode b_OS_stage 1 = .ok (.getfield 19, 3) := by decide +kernel
theorem d_OS_stage_4 : decode b_OS_stage 4 = .ok (.iload_n 1, 1) := by decide +kernel
theorem d_OS_stage_5 : decode b_OS_stage 5 = .ok (.invokevirtual 84, 3) := by decide +kernel
theorem d_OS_stage_8 : decode b_OS_stage 8 = .ok (.ifCond .eq 20, 3) := by decide +kernel
theorem d_OS_stage_11 : decode b_OS_stage 11 = .ok (.aload_n 0, 1) := by decide +kernel
theorem d_OS_stage_12 : decode b_OS_stage 12 = .ok (.getfield 12, 3) := by decide +kernel
theorem d_OS_stage_15 : decode b_OS_stage 15 = .ok (.iload_n 2, 1) := by decide +kernel
theorem d_OS_stage_16 : decode b_OS_stage 16 = .ok (.invokevirtual 87, 3) := by decide +kernel
theorem d_OS_stage_19 : decode b_OS_stage 19 = .ok (.ifCond .eq 9, 3) := by decide +kernel
theorem d_OS_stage_22 : decode b_OS_stage 22 = .ok (.lload_n 3, 1) := by decide +kernel
theorem d_OS_stage_23 : decode b_OS_stage 23 = .ok (.lconst 0, 1) := by decide +kernel
theorem d_OS_stage_24 : decode b_OS_stage 24 = .ok (.lcmp, 1) := by decide +kernel
theorem d_OS_stage_25 : decode b_OS_stage 25 = .ok (.ifCond .ne 5, 3) := by decide +kernel
theorem d_OS_stage_28 : decode b_OS_stage 28 = .ok (.iconst (-1), 1) := by decide +kernel
theorem d_OS_stage_29 : decode b_OS_stage 29 = .ok (.ireturn, 1) := by decide +kernel
theorem d_OS_stage_30 : decode b_OS_stage 30 = .ok (.aload_n 0, 1) := by decide +kernel
theorem d_OS_stage_31 : decode b_OS_stage 31 = .ok (.aload_n 0, 1) := by decide +kernel
theorem d_OS_stage_32 : decode b_OS_stage 32 = .ok (.getfield 19, 3) := by decide +kernel
theorem d_OS_stage_35 : decode b_OS_stage 35 = .ok (.iload_n 1, 1) := by decide +kernel
theorem d_OS_stage_36 : decode b_OS_stage 36 = .ok (.invokevirtual 90, 3) := by decide +kernel
theorem d_OS_stage_39 : decode b_OS_stage 39 = .ok (.iload_n 2, 1) := by decide +kernel
theorem d_OS_stage_40 : decode b_OS_stage 40 = .ok (.invokevirtual 93, 3) := by decide +kernel
theorem d_OS_stage_43 : decode b_OS_stage 43 = .ok (.istore 7, 2) := by decide +kernel
theorem d_OS_stage_45 : decode b_OS_stage 45 = .ok (.aload_n 0, 1) := by decide +kernel
theorem d_OS_stage_46 : decode b_OS_stage 46 = .ok (.getfield 30, 3) := by decide +kernel
theorem d_OS_stage_49 : decode b_OS_stage 49 = .ok (.iload 7, 2) := by decide +kernel
theorem d_OS_stage_51 : decode b_OS_stage 51 = .ok (.iload_n 1, 1) := by decide +kernel
theorem d_OS_stage_52 : decode b_OS_stage 52 = .ok (.invokevirtual 97, 3) := by decide +kernel
theorem d_OS_stage_55 : decode b_OS_stage 55 = .ok (.ifCond .ne 15, 3) := by decide +kernel
theorem d_OS_stage_58 : decode b_OS_stage 58 = .ok (.aload_n 0, 1) := by decide +kernel
theorem d_OS_stage_59 : decode b_OS_stage 59 = .ok (.iload_n 1, 1) := by decide +kernel
theorem d_OS_stage_60 : decode b_OS_stage 60 = .ok (.invokevirtual 100, 3) := by decide +kernel
theorem d_OS_stage_63 : decode b_OS_stage 63 = .ok (.bipush 12, 2) := by decide +kernel
theorem d_OS_stage_65 : decode b_OS_stage 65 = .ok (.if_icmp .lt 5, 3) := by decide +kernel
theorem d_OS_stage_68 : decode b_OS_stage 68 = .ok (.iconst (-1), 1) := by decide +kernel
theorem d_OS_stage_69 : decode b_OS_stage 69 = .ok (.ireturn, 1) := by decide +kernel
theorem d_OS_stage_70 : decode b_OS_stage 70 = .ok (.aload_n 0, 1) := by decide +kernel
theorem d_OS_stage_71 : decode b_OS_stage 71 = .ok (.iload_n 1, 1) := by decide +kernel
theorem d_OS_stage_72 : decode b_OS_stage 72 = .ok (.iload_n 2, 1) := by decide +kernel
theorem d_OS_stage_73 : decode b_OS_stage 73 = .ok (.invokevirtual 103, 3) := by decide +kernel
theorem d_OS_stage_76 : decode b_OS_stage 76 = .ok (.ifCond .eq 6, 3) := by decide +kernel
theorem d_OS_stage_79 : decode b_OS_stage 79 = .ok (.bipush (-2), 2) := by decide +kernel
theorem d_OS_stage_81 : decode b_OS_stage 81 = .ok (.ireturn, 1) := by decide +kernel
theorem d_OS_stage_82 : decode b_OS_stage 82 = .ok (.iload 6, 2) := by decide +kernel
theorem d_OS_stage_84 : decode b_OS_stage 84 = .ok (.ifCond .eq 17, 3) := by decide +kernel
theorem d_OS_stage_87 : decode b_OS_stage 87 = .ok (.aload_n 0, 1) := by decide +kernel
theorem d_OS_stage_88 : decode b_OS_stage 88 = .ok (.getfield 36, 3) := by decide +kernel
theorem d_OS_stage_91 : decode b_OS_stage 91 = .ok (.lload_n 3, 1) := by decide +kernel
theorem d_OS_stage_92 : decode b_OS_stage 92 = .ok (.invokevirtual 106, 3) := by decide +kernel
theorem d_OS_stage_95 : decode b_OS_stage 95 = .ok (.ifCond .ne 6, 3) := by decide +kernel
theorem d_OS_stage_98 : decode b_OS_stage 98 = .ok (.bipush (-3), 2) := by decide +kernel
theorem d_OS_stage_100 : decode b_OS_stage 100 = .ok (.ireturn, 1) := by decide +kernel
theorem d_OS_stage_101 : decode b_OS_stage 101 = .ok (.aload_n 0, 1) := by decide +kernel
theorem d_OS_stage_102 : decode b_OS_stage 102 = .ok (.getfield 30, 3) := by decide +kernel
theorem d_OS_stage_105 : decode b_OS_stage 105 = .ok (.iload 7, 2) := by decide +kernel
theorem d_OS_stage_107 : decode b_OS_stage 107 = .ok (.iload_n 1, 1) := by decide +kernel
theorem d_OS_stage_108 : decode b_OS_stage 108 = .ok (.lload_n 3, 1) := by decide +kernel
theorem d_OS_stage_109 : decode b_OS_stage 109 = .ok (.iload 5, 2) := by decide +kernel
theorem d_OS_stage_111 : decode b_OS_stage 111 = .ok (.iload 6, 2) := by decide +kernel
theorem d_OS_stage_113 : decode b_OS_stage 113 = .ok (.invokevirtual 109, 3) := by decide +kernel
theorem d_OS_stage_116 : decode b_OS_stage 116 = .ok (.iconst 1, 1) := by decide +kernel
theorem d_OS_stage_117 : decode b_OS_stage 117 = .ok (.ireturn, 1) := by decide +kernel
theorem d_OS_end_0 : decode b_OS_end 0 = .ok (.aload_n 0, 1) := by decide +kernel
theorem d_OS_end_1 : decode b_OS_end 1 = .ok (.getfield 19, 3) := by decide +kernel
theorem d_OS_end_4 : decode b_OS_end 4 = .ok (.iload_n 1, 1) := by decide +kernel
theorem d_OS_end_5 : decode b_OS_end 5 = .ok (.invokevirtual 84, 3) := by decide +kernel
theorem d_OS_end_8 : decode b_OS_end 8 = .ok (.ifCond .ne 5, 3) := by decide +kernel
theorem d_OS_end_11 : decode b_OS_end 11 = .ok (.iconst (-1), 1) := by decide +kernel
theorem d_OS_end_12 : decode b_OS_end 12 = .ok (.ireturn, 1) := by decide +kernel
theorem d_OS_end_13 : decode b_OS_end 13 = .ok (.iload_n 2, 1) := by decide +kernel
theorem d_OS_end_14 : decode b_OS_end 14 = .ok (.ifCond .eq 11, 3) := by decide +kernel
theorem d_OS_end_17 : decode b_OS_end 17 = .ok (.aload_n 0, 1) := by decide +kernel
theorem d_OS_end_18 : decode b_OS_end 18 = .ok (.iload_n 1, 1) := by decide +kernel
theorem d_OS_end_19 : decode b_OS_end 19 = .ok (.invokevirtual 113, 3) := by decide +kernel
theorem d_OS_end_22 : decode b_OS_end 22 = .ok (.goto 4, 3) := by decide +kernel
theorem d_OS_end_25 : decode b_OS_end 25 = .ok (.iconst 0, 1) := by decide +kernel
theorem d_OS_end_26 : decode b_OS_end 26 = .ok (.istore_n 3, 1) := by decide +kernel
theorem d_OS_end_27 : decode b_OS_end 27 = .ok (.aload_n 0, 1) := by decide +kernel
theorem d_OS_end_28 : decode b_OS_end 28 = .ok (.iload_n 1, 1) := by decide +kernel
theorem d_OS_end_29 : decode b_OS_end 29 = .ok (.invokevirtual 116, 3) := by decide +kernel
theorem d_OS_end_32 : decode b_OS_end 32 = .ok (.aload_n 0, 1) := by decide +kernel
theorem d_OS_end_33 : decode b_OS_end 33 = .ok (.getfield 19, 3) := by decide +kernel
theorem d_OS_end_36 : decode b_OS_end 36 = .ok (.iload_n 1, 1) := by decide +kernel
theorem d_OS_end_37 : decode b_OS_end 37 = .ok (.invokevirtual 120, 3) := by decide +kernel
theorem d_OS_end_40 : decode b_OS_end 40 = .ok (.iload_n 3, 1) := by decide +kernel
theorem d_OS_end_41 : decode b_OS_end 41 = .ok (.ireturn, 1) := by decide +kernel
theorem d_OS_abandon_0 : decode b_OS_abandon 0 = .ok (.iload_n 1, 1) := by decide +kernel
theorem d_OS_abandon_1 : decode b_OS_abandon 1 = .ok (.invokestatic 69, 3) := by decide +kernel
theorem d_OS_abandon_4 : decode b_OS_abandon 4 = .ok (.ifCond .ne 5, 3) := by decide +kernel
theorem d_OS_abandon_7 : decode b_OS_abandon 7 = .ok (.iconst (-1), 1) := by decide +kernel
theorem d_OS_abandon_8 : decode b_OS_abandon 8 = .ok (.ireturn, 1) := by decide +kernel
theorem d_OS_abandon_9 : decode b_OS_abandon 9 = .ok (.iconst 0, 1) := by decide +kernel
theorem d_OS_abandon_10 : decode b_OS_abandon 10 = .ok (.istore_n 2, 1) := by decide +kernel
theorem d_OS_abandon_11 : decode b_OS_abandon 11 = .ok (.iconst 0, 1) := by decide +kernel
theorem d_OS_abandon_12 : decode b_OS_abandon 12 = .ok (.istore_n 3, 1) := by decide +kernel
theorem d_OS_abandon_13 : decode b_OS_abandon 13 = .ok (.iload_n 3, 1) := by decide +kernel
theorem d_OS_abandon_14 : decode b_OS_abandon 14 = .ok (.bipush 80, 2) := by decide +kernel
theorem d_OS_abandon_16 : decode b_OS_abandon 16 = .ok (.if_icmp .ge 48, 3) := by decide +kernel
theorem d_OS_abandon_19 : decode b_OS_abandon 19 = .ok (.aload_n 0, 1) := by decide +kernel
theorem d_OS_abandon_20 : decode b_OS_abandon 20 = .ok (.getfield 19, 3) := by decide +kernel
theorem d_OS_abandon_23 : decode b_OS_abandon 23 = .ok (.iload_n 3, 1) := by decide +kernel
theorem d_OS_abandon_24 : decode b_OS_abandon 24 = .ok (.invokevirtual 84, 3) := by decide +kernel
theorem d_OS_abandon_27 : decode b_OS_abandon 27 = .ok (.ifCond .eq 31, 3) := by decide +kernel
theorem d_OS_abandon_30 : decode b_OS_abandon 30 = .ok (.aload_n 0, 1) := by decide +kernel
theorem d_OS_abandon_31 : decode b_OS_abandon 31 = .ok (.getfield 19, 3) := by decide +kernel
theorem d_OS_abandon_34 : decode b_OS_abandon 34 = .ok (.iload_n 3, 1) := by decide +kernel
theorem d_OS_abandon_35 : decode b_OS_abandon 35 = .ok (.invokevirtual 123, 3) := by decide +kernel
theorem d_OS_abandon_38 : decode b_OS_abandon 38 = .ok (.iload_n 1, 1) := by decide +kernel
theorem d_OS_abandon_39 : decode b_OS_abandon 39 = .ok (.if_icmp .ne 19, 3) := by decide +kernel
theorem d_OS_abandon_42 : decode b_OS_abandon 42 = .ok (.aload_n 0, 1) := by decide +kernel
theorem d_OS_abandon_43 : decode b_OS_abandon 43 = .ok (.iload_n 3, 1) := by decide +kernel
theorem d_OS_abandon_44 : decode b_OS_abandon 44 = .ok (.invokevirtual 116, 3) := by decide +kernel
theorem d_OS_abandon_47 : decode b_OS_abandon 47 = .ok (.aload_n 0, 1) := by decide +kernel
theorem d_OS_abandon_48 : decode b_OS_abandon 48 = .ok (.getfield 19, 3) := by decide +kernel
theorem d_OS_abandon_51 : decode b_OS_abandon 51 = .ok (.iload_n 3, 1) := by decide +kernel
theorem d_OS_abandon_52 : decode b_OS_abandon 52 = .ok (.invokevirtual 120, 3) := by decide +kernel
theorem d_OS_abandon_55 : decode b_OS_abandon 55 = .ok (.iinc 2 1, 3) := by decide +kernel
theorem d_OS_abandon_58 : decode b_OS_abandon 58 = .ok (.iinc 3 1, 3) := by decide +kernel
theorem d_OS_abandon_61 : decode b_OS_abandon 61 = .ok (.goto (-48), 3) := by decide +kernel
theorem d_OS_abandon_64 : decode b_OS_abandon 64 = .ok (.iload_n 2, 1) := by decide +kernel
theorem d_OS_abandon_65 : decode b_OS_abandon 65 = .ok (.ireturn, 1) := by decide +kernel
theorem d_OS_cache_0 : decode b_OS_cache 0 = .ok (.lload_n 1, 1) := by decide +kernel
theorem d_OS_cache_1 : decode b_OS_cache 1 = .ok (.lconst 0, 1) := by decide +kernel
theorem d_OS_cache_2 : decode b_OS_cache 2 = .ok (.lcmp, 1) := by decide +kernel
theorem d_OS_cache_3 : decode b_OS_cache 3 = .ok (.ifCond .ne 5, 3) := by decide +kernel
theorem d_OS_cache_6 : decode b_OS_cache 6 = .ok (.iconst 0, 1) := by decide +kernel
theorem d_OS_cache_7 : decode b_OS_cache 7 = .ok (.ireturn, 1) := by decide +kernel
theorem d_OS_cache_8 : decode b_OS_cache 8 = .ok (.iload_n 3, 1) := by decide +kernel
theorem d_OS_cache_9 : decode b_OS_cache 9 = .ok (.ifCond .eq 12, 3) := by decide +kernel
theorem d_OS_cache_12 : decode b_OS_cache 12 = .ok (.aload_n 0, 1) := by decide +kernel
theorem d_OS_cache_13 : decode b_OS_cache 13 = .ok (.getfield 36, 3) := by decide +kernel
theorem d_OS_cache_16 : decode b_OS_cache 16 = .ok (.lload_n 1, 1) := by decide +kernel
theorem d_OS_cache_17 : decode b_OS_cache 17 = .ok (.invokevirtual 126, 3) := by decide +kernel
theorem d_OS_cache_20 : decode b_OS_cache 20 = .ok (.ireturn, 1) := by decide +kernel
theorem d_OS_cache_21 : decode b_OS_cache 21 = .ok (.aload_n 0, 1) := by decide +kernel
theorem d_OS_cache_22 : decode b_OS_cache 22 = .ok (.getfield 36, 3) := by decide +kernel
theorem d_OS_cache_25 : decode b_OS_cache 25 = .ok (.lload_n 1, 1) := by decide +kernel
theorem d_OS_cache_26 : decode b_OS_cache 26 = .ok (.invokevirtual 129, 3) := by decide +kernel
theorem d_OS_cache_29 : decode b_OS_cache 29 = .ok (.iconst 1, 1) := by decide +kernel
theorem d_OS_cache_30 : decode b_OS_cache 30 = .ok (.ireturn, 1) := by decide +kernel
theorem d_OS_read_0 : decode b_OS_read 0 = .ok (.aload_n 0, 1) := by decide +kernel
theorem d_OS_read_1 : decode b_OS_read 1 = .ok (.iload_n 1, 1) := by decide +kernel
theorem d_OS_read_2 : decode b_OS_read 2 = .ok (.iload_n 2, 1) := by decide +kernel
theorem d_OS_read_3 : decode b_OS_read 3 = .ok (.invokevirtual 93, 3) := by decide +kernel
theorem d_OS_read_6 : decode b_OS_read 6 = .ok (.istore_n 3, 1) := by decide +kernel
theorem d_OS_read_7 : decode b_OS_read 7 = .ok (.iload_n 3, 1) := by decide +kernel
theorem d_OS_read_8 : decode b_OS_read 8 = .ok (.iconst (-1), 1) := by decide +kernel
theorem d_OS_read_9 : decode b_OS_read 9 = .ok (.if_icmp .eq 13, 3) := by decide +kernel
theorem d_OS_read_12 : decode b_OS_read 12 = .ok (.aload_n 0, 1) := by decide +kernel
theorem d_OS_read_13 : decode b_OS_read 13 = .ok (.getfield 43, 3) := by decide +kernel
theorem d_OS_read_16 : decode b_OS_read 16 = .ok (.invokevirtual 133, 3) := by decide +kernel
theorem d_OS_read_19 : decode b_OS_read 19 = .ok (.ifCond .eq 5, 3) := by decide +kernel
theorem d_OS_read_22 : decode b_OS_read 22 = .ok (.iconst (-1), 1) := by decide +kernel
theorem d_OS_read_23 : decode b_OS_read 23 = .ok (.ireturn, 1) := by decide +kernel
theorem d_OS_read_24 : decode b_OS_read 24 = .ok (.aload_n 0, 1) := by decide +kernel
theorem d_OS_read_25 : decode b_OS_read 25 = .ok (.getfield 26, 3) := by decide +kernel
theorem d_OS_read_28 : decode b_OS_read 28 = .ok (.iload_n 3, 1) := by decide +kernel
theorem d_OS_read_29 : decode b_OS_read 29 = .ok (.invokevirtual 134, 3) := by decide +kernel
theorem d_OS_read_32 : decode b_OS_read 32 = .ok (.ifCond .ne 6, 3) := by decide +kernel
theorem d_OS_read_35 : decode b_OS_read 35 = .ok (.bipush (-2), 2) := by decide +kernel
theorem d_OS_read_37 : decode b_OS_read 37 = .ok (.ireturn, 1) := by decide +kernel
theorem d_OS_read_38 : decode b_OS_read 38 = .ok (.aload_n 0, 1) := by decide +kernel
theorem d_OS_read_39 : decode b_OS_read 39 = .ok (.getfield 26, 3) := by decide +kernel
theorem d_OS_read_42 : decode b_OS_read 42 = .ok (.iload_n 3, 1) := by decide +kernel
theorem d_OS_read_43 : decode b_OS_read 43 = .ok (.invokevirtual 135, 3) := by decide +kernel
theorem d_OS_read_46 : decode b_OS_read 46 = .ok (.lstore 4, 2) := by decide +kernel
theorem d_OS_read_48 : decode b_OS_read 48 = .ok (.aload_n 0, 1) := by decide +kernel
theorem d_OS_read_49 : decode b_OS_read 49 = .ok (.getfield 26, 3) := by decide +kernel
theorem d_OS_read_52 : decode b_OS_read 52 = .ok (.iload_n 3, 1) := by decide +kernel
theorem d_OS_read_53 : decode b_OS_read 53 = .ok (.invokevirtual 139, 3) := by decide +kernel
theorem d_OS_read_56 : decode b_OS_read 56 = .ok (.ifCond .eq 40, 3) := by decide +kernel
theorem d_OS_read_59 : decode b_OS_read 59 = .ok (.aload_n 0, 1) := by decide +kernel
theorem d_OS_read_60 : decode b_OS_read 60 = .ok (.getfield 36, 3) := by decide +kernel
theorem d_OS_read_63 : decode b_OS_read 63 = .ok (.lload 4, 2) := by decide +kernel
theorem d_OS_read_65 : decode b_OS_read 65 = .ok (.invokevirtual 106, 3) := by decide +kernel
theorem d_OS_read_68 : decode b_OS_read 68 = .ok (.ifCond .ne 28, 3) := by decide +kernel
theorem d_OS_read_71 : decode b_OS_read 71 = .ok (.aload_n 0, 1) := by decide +kernel
theorem d_OS_read_72 : decode b_OS_read 72 = .ok (.getfield 50, 3) := by decide +kernel
theorem d_OS_read_75 : decode b_OS_read 75 = .ok (.aload_n 0, 1) := by decide +kernel
theorem d_OS_read_76 : decode b_OS_read 76 = .ok (.iload_n 3, 1) := by decide +kernel
theorem d_OS_read_77 : decode b_OS_read 77 = .ok (.invokevirtual 142, 3) := by decide +kernel
theorem d_OS_read_80 : decode b_OS_read 80 = .ok (.iload_n 1, 1) := by decide +kernel
theorem d_OS_read_81 : decode b_OS_read 81 = .ok (.iconst 1, 1) := by decide +kernel
theorem d_OS_read_82 : decode b_OS_read 82 = .ok (.invokevirtual 145, 3) := by decide +kernel
theorem d_OS_read_85 : decode b_OS_read 85 = .ok (.aload_n 0, 1) := by decide +kernel
theorem d_OS_read_86 : decode b_OS_read 86 = .ok (.getfield 26, 3) := by decide +kernel
theorem d_OS_read_89 : decode b_OS_read 89 = .ok (.iload_n 3, 1) := by decide +kernel
theorem d_OS_read_90 : decode b_OS_read 90 = .ok (.invokevirtual 149, 3) := by decide +kernel
theorem d_OS_read_93 : decode b_OS_read 93 = .ok (.bipush (-3), 2) := by decide +kernel
theorem d_OS_read_95 : decode b_OS_read 95 = .ok (.ireturn, 1) := by decide +kernel
theorem d_OS_read_96 : decode b_OS_read 96 = .ok (.aload_n 0, 1) := by decide +kernel
theorem d_OS_read_97 : decode b_OS_read 97 = .ok (.getfield 26, 3) := by decide +kernel
theorem d_OS_read_100 : decode b_OS_read 100 = .ok (.iload_n 3, 1) := by decide +kernel
theorem d_OS_read_101 : decode b_OS_read 101 = .ok (.invokevirtual 152, 3) := by decide +kernel
theorem d_OS_read_104 : decode b_OS_read 104 = .ok (.aload_n 0, 1) := by decide +kernel
theorem d_OS_read_105 : decode b_OS_read 105 = .ok (.getfield 43, 3) := by decide +kernel
theorem d_OS_read_108 : decode b_OS_read 108 = .ok (.lload 4, 2) := by decide +kernel
theorem d_OS_read_110 : decode b_OS_read 110 = .ok (.invokevirtual 155, 3) := by decide +kernel
theorem d_OS_read_113 : decode b_OS_read 113 = .ok (.ireturn, 1) := by decide +kernel
theorem d_OS_held_0 : decode b_OS_held 0 = .ok (.aload_n 0, 1) := by decide +kernel
theorem d_OS_held_1 : decode b_OS_held 1 = .ok (.getfield 43, 3) := by decide +kernel
theorem d_OS_held_4 : decode b_OS_held 4 = .ok (.iload_n 1, 1) := by decide +kernel
theorem d_OS_held_5 : decode b_OS_held 5 = .ok (.invokevirtual 159, 3) := by decide +kernel
theorem d_OS_held_8 : decode b_OS_held 8 = .ok (.lreturn, 1) := by decide +kernel
theorem d_OS_letGo_0 : decode b_OS_letGo 0 = .ok (.aload_n 0, 1) := by decide +kernel
theorem d_OS_letGo_1 : decode b_OS_letGo 1 = .ok (.getfield 43, 3) := by decide +kernel
theorem d_OS_letGo_4 : decode b_OS_letGo 4 = .ok (.iload_n 1, 1) := by decide +kernel
theorem d_OS_letGo_5 : decode b_OS_letGo 5 = .ok (.invokevirtual 162, 3) := by decide +kernel
theorem d_OS_letGo_8 : decode b_OS_letGo 8 = .ok (.ireturn, 1) := by decide +kernel
theorem d_OS_content_0 : decode b_OS_content 0 = .ok (.aload_n 0, 1) := by decide +kernel
theorem d_OS_content_1 : decode b_OS_content 1 = .ok (.getfield 26, 3) := by decide +kernel
theorem d_OS_content_4 : decode b_OS_content 4 = .ok (.aload_n 0, 1) := by decide +kernel
theorem d_OS_content_5 : decode b_OS_content 5 = .ok (.iload_n 1, 1) := by decide +kernel
theorem d_OS_content_6 : decode b_OS_content 6 = .ok (.iload_n 2, 1) := by decide +kernel
theorem d_OS_content_7 : decode b_OS_content 7 = .ok (.invokevirtual 93, 3) := by decide +kernel
theorem d_OS_content_10 : decode b_OS_content 10 = .ok (.invokevirtual 135, 3) := by decide +kernel
theorem d_OS_content_13 : decode b_OS_content 13 = .ok (.lreturn, 1) := by decide +kernel
theorem d_OS_about_0 : decode b_OS_about 0 = .ok (.aload_n 0, 1) := by decide +kernel
theorem d_OS_about_1 : decode b_OS_about 1 = .ok (.iload_n 1, 1) := by decide +kernel
theorem d_OS_about_2 : decode b_OS_about 2 = .ok (.iload_n 2, 1) := by decide +kernel
theorem d_OS_about_3 : decode b_OS_about 3 = .ok (.invokevirtual 93, 3) := by decide +kernel
theorem d_OS_about_6 : decode b_OS_about 6 = .ok (.istore 4, 2) := by decide +kernel
theorem d_OS_about_8 : decode b_OS_about 8 = .ok (.aload_n 0, 1) := by decide +kernel
theorem d_OS_about_9 : decode b_OS_about 9 = .ok (.getfield 26, 3) := by decide +kernel
theorem d_OS_about_12 : decode b_OS_about 12 = .ok (.iload 4, 2) := by decide +kernel
theorem d_OS_about_14 : decode b_OS_about 14 = .ok (.invokevirtual 134, 3) := by decide +kernel
theorem d_OS_about_17 : decode b_OS_about 17 = .ok (.ifCond .ne 5, 3) := by decide +kernel
theorem d_OS_about_20 : decode b_OS_about 20 = .ok (.iconst (-1), 1) := by decide +kernel
theorem d_OS_about_21 : decode b_OS_about 21 = .ok (.ireturn, 1) := by decide +kernel
theorem d_OS_about_22 : decode b_OS_about 22 = .ok (.iload_n 3, 1) := by decide +kernel
theorem d_OS_about_23 : decode b_OS_about 23 = .ok (.tableswitch 82 0 3 #[29, 36, 54, 72], 29) := by decide +kernel
theorem d_OS_about_52 : decode b_OS_about 52 = .ok (.aload_n 0, 1) := by decide +kernel
theorem d_OS_about_53 : decode b_OS_about 53 = .ok (.iload 4, 2) := by decide +kernel
theorem d_OS_about_55 : decode b_OS_about 55 = .ok (.invokevirtual 142, 3) := by decide +kernel
theorem d_OS_about_58 : decode b_OS_about 58 = .ok (.ireturn, 1) := by decide +kernel
theorem d_OS_about_59 : decode b_OS_about 59 = .ok (.aload_n 0, 1) := by decide +kernel
theorem d_OS_about_60 : decode b_OS_about 60 = .ok (.getfield 26, 3) := by decide +kernel
theorem d_OS_about_63 : decode b_OS_about 63 = .ok (.iload 4, 2) := by decide +kernel
theorem d_OS_about_65 : decode b_OS_about 65 = .ok (.invokevirtual 165, 3) := by decide +kernel
theorem d_OS_about_68 : decode b_OS_about 68 = .ok (.ifCond .eq 7, 3) := by decide +kernel
theorem d_OS_about_71 : decode b_OS_about 71 = .ok (.iconst 1, 1) := by decide +kernel
theorem d_OS_about_72 : decode b_OS_about 72 = .ok (.goto 4, 3) := by decide +kernel
theorem d_OS_about_75 : decode b_OS_about 75 = .ok (.iconst 0, 1) := by decide +kernel
theorem d_OS_about_76 : decode b_OS_about 76 = .ok (.ireturn, 1) := by decide +kernel
theorem d_OS_about_77 : decode b_OS_about 77 = .ok (.aload_n 0, 1) := by decide +kernel
theorem d_OS_about_78 : decode b_OS_about 78 = .ok (.getfield 26, 3) := by decide +kernel
theorem d_OS_about_81 : decode b_OS_about 81 = .ok (.iload 4, 2) := by decide +kernel
theorem d_OS_about_83 : decode b_OS_about 83 = .ok (.invokevirtual 139, 3) := by decide +kernel
theorem d_OS_about_86 : decode b_OS_about 86 = .ok (.ifCond .eq 7, 3) := by decide +kernel
theorem d_OS_about_89 : decode b_OS_about 89 = .ok (.iconst 0, 1) := by decide +kernel
theorem d_OS_about_90 : decode b_OS_about 90 = .ok (.goto 4, 3) := by decide +kernel
theorem d_OS_about_93 : decode b_OS_about 93 = .ok (.iconst 1, 1) := by decide +kernel
theorem d_OS_about_94 : decode b_OS_about 94 = .ok (.ireturn, 1) := by decide +kernel
theorem d_OS_about_95 : decode b_OS_about 95 = .ok (.aload_n 0, 1) := by decide +kernel
theorem d_OS_about_96 : decode b_OS_about 96 = .ok (.getfield 26, 3) := by decide +kernel
theorem d_OS_about_99 : decode b_OS_about 99 = .ok (.iload 4, 2) := by decide +kernel
theorem d_OS_about_101 : decode b_OS_about 101 = .ok (.invokevirtual 168, 3) := by decide +kernel
theorem d_OS_about_104 : decode b_OS_about 104 = .ok (.ireturn, 1) := by decide +kernel
theorem d_OS_about_105 : decode b_OS_about 105 = .ok (.iconst (-1), 1) := by decide +kernel
theorem d_OS_about_106 : decode b_OS_about 106 = .ok (.ireturn, 1) := by decide +kernel
theorem d_OS_list_0 : decode b_OS_list 0 = .ok (.iload_n 1, 1) := by decide +kernel
theorem d_OS_list_1 : decode b_OS_list 1 = .ok (.invokestatic 66, 3) := by decide +kernel
theorem d_OS_list_4 : decode b_OS_list 4 = .ok (.ifCond .eq 23, 3) := by decide +kernel
theorem d_OS_list_7 : decode b_OS_list 7 = .ok (.iload_n 3, 1) := by decide +kernel
theorem d_OS_list_8 : decode b_OS_list 8 = .ok (.ifCond .lt 19, 3) := by decide +kernel
theorem d_OS_list_11 : decode b_OS_list 11 = .ok (.iload_n 2, 1) := by decide +kernel
theorem d_OS_list_12 : decode b_OS_list 12 = .ok (.iconst (-1), 1) := by decide +kernel
theorem d_OS_list_13 : decode b_OS_list 13 = .ok (.if_icmp .eq 16, 3) := by decide +kernel
theorem d_OS_list_16 : decode b_OS_list 16 = .ok (.aload_n 0, 1) := by decide +kernel
theorem d_OS_list_17 : decode b_OS_list 17 = .ok (.getfield 12, 3) := by decide +kernel
theorem d_OS_list_20 : decode b_OS_list 20 = .ok (.iload_n 2, 1) := by decide +kernel
theorem d_OS_list_21 : decode b_OS_list 21 = .ok (.invokevirtual 87, 3) := by decide +kernel
theorem d_OS_list_24 : decode b_OS_list 24 = .ok (.ifCond .ne 5, 3) := by decide +kernel
theorem d_OS_list_27 : decode b_OS_list 27 = .ok (.iconst (-1), 1) := by decide +kernel
theorem d_OS_list_28 : decode b_OS_list 28 = .ok (.ireturn, 1) := by decide +kernel
theorem d_OS_list_29 : decode b_OS_list 29 = .ok (.iload_n 3, 1) := by decide +kernel
theorem d_OS_list_30 : decode b_OS_list 30 = .ok (.istore 4, 2) := by decide +kernel
theorem d_OS_list_32 : decode b_OS_list 32 = .ok (.iconst 0, 1) := by decide +kernel
theorem d_OS_list_33 : decode b_OS_list 33 = .ok (.istore 5, 2) := by decide +kernel
theorem d_OS_list_35 : decode b_OS_list 35 = .ok (.iload 5, 2) := by decide +kernel
theorem d_OS_list_37 : decode b_OS_list 37 = .ok (.bipush 40, 2) := by decide +kernel
theorem d_OS_list_39 : decode b_OS_list 39 = .ok (.if_icmp .ge 50, 3) := by decide +kernel
theorem d_OS_list_42 : decode b_OS_list 42 = .ok (.aload_n 0, 1) := by decide +kernel
theorem d_OS_list_43 : decode b_OS_list 43 = .ok (.getfield 26, 3) := by decide +kernel
theorem d_OS_list_46 : decode b_OS_list 46 = .ok (.aload_n 0, 1) := by decide +kernel
theorem d_OS_list_47 : decode b_OS_list 47 = .ok (.iload_n 1, 1) := by decide +kernel
theorem d_OS_list_48 : decode b_OS_list 48 = .ok (.iload 5, 2) := by decide +kernel
theorem d_OS_list_50 : decode b_OS_list 50 = .ok (.invokevirtual 93, 3) := by decide +kernel
theorem d_OS_list_53 : decode b_OS_list 53 = .ok (.invokevirtual 134, 3) := by decide +kernel
theorem d_OS_list_56 : decode b_OS_list 56 = .ok (.ifCond .eq 27, 3) := by decide +kernel
theorem d_OS_list_59 : decode b_OS_list 59 = .ok (.aload_n 0, 1) := by decide +kernel
theorem d_OS_list_60 : decode b_OS_list 60 = .ok (.getfield 12, 3) := by decide +kernel
theorem d_OS_list_63 : decode b_OS_list 63 = .ok (.iload 5, 2) := by decide +kernel
theorem d_OS_list_65 : decode b_OS_list 65 = .ok (.iload_n 2, 1) := by decide +kernel
theorem d_OS_list_66 : decode b_OS_list 66 = .ok (.invokevirtual 171, 3) := by decide +kernel
theorem d_OS_list_69 : decode b_OS_list 69 = .ok (.ifCond .eq 14, 3) := by decide +kernel
theorem d_OS_list_72 : decode b_OS_list 72 = .ok (.iload 4, 2) := by decide +kernel
theorem d_OS_list_74 : decode b_OS_list 74 = .ok (.ifCond .ne 6, 3) := by decide +kernel
theorem d_OS_list_77 : decode b_OS_list 77 = .ok (.iload 5, 2) := by decide +kernel
theorem d_OS_list_79 : decode b_OS_list 79 = .ok (.ireturn, 1) := by decide +kernel
theorem d_OS_list_80 : decode b_OS_list 80 = .ok (.iinc 4 (-1), 3) := by decide +kernel
theorem d_OS_list_83 : decode b_OS_list 83 = .ok (.iinc 5 1, 3) := by decide +kernel
theorem d_OS_list_86 : decode b_OS_list 86 = .ok (.goto (-51), 3) := by decide +kernel
theorem d_OS_list_89 : decode b_OS_list 89 = .ok (.iconst (-1), 1) := by decide +kernel
theorem d_OS_list_90 : decode b_OS_list 90 = .ok (.ireturn, 1) := by decide +kernel
theorem d_OS_dirty_0 : decode b_OS_dirty 0 = .ok (.aload_n 0, 1) := by decide +kernel
theorem d_OS_dirty_1 : decode b_OS_dirty 1 = .ok (.getfield 50, 3) := by decide +kernel
theorem d_OS_dirty_4 : decode b_OS_dirty 4 = .ok (.iload_n 1, 1) := by decide +kernel
theorem d_OS_dirty_5 : decode b_OS_dirty 5 = .ok (.iload_n 2, 1) := by decide +kernel
theorem d_OS_dirty_6 : decode b_OS_dirty 6 = .ok (.invokevirtual 174, 3) := by decide +kernel
theorem d_OS_dirty_9 : decode b_OS_dirty 9 = .ok (.ireturn, 1) := by decide +kernel
theorem d_OS_clear_0 : decode b_OS_clear 0 = .ok (.iload_n 1, 1) := by decide +kernel
theorem d_OS_clear_1 : decode b_OS_clear 1 = .ok (.invokestatic 66, 3) := by decide +kernel
theorem d_OS_clear_4 : decode b_OS_clear 4 = .ok (.ifCond .eq 14, 3) := by decide +kernel
theorem d_OS_clear_7 : decode b_OS_clear 7 = .ok (.aload_n 0, 1) := by decide +kernel
theorem d_OS_clear_8 : decode b_OS_clear 8 = .ok (.getfield 19, 3) := by decide +kernel
theorem d_OS_clear_11 : decode b_OS_clear 11 = .ok (.iload_n 1, 1) := by decide +kernel
theorem d_OS_clear_12 : decode b_OS_clear 12 = .ok (.invokevirtual 177, 3) := by decide +kernel
theorem d_OS_clear_15 : decode b_OS_clear 15 = .ok (.ifCond .eq 5, 3) := by decide +kernel
theorem d_OS_clear_18 : decode b_OS_clear 18 = .ok (.iconst (-1), 1) := by decide +kernel
theorem d_OS_clear_19 : decode b_OS_clear 19 = .ok (.ireturn, 1) := by decide +kernel
theorem d_OS_clear_20 : decode b_OS_clear 20 = .ok (.iconst 0, 1) := by decide +kernel
theorem d_OS_clear_21 : decode b_OS_clear 21 = .ok (.istore_n 2, 1) := by decide +kernel
theorem d_OS_clear_22 : decode b_OS_clear 22 = .ok (.iconst 0, 1) := by decide +kernel
theorem d_OS_clear_23 : decode b_OS_clear 23 = .ok (.istore_n 3, 1) := by decide +kernel
theorem d_OS_clear_24 : decode b_OS_clear 24 = .ok (.iload_n 3, 1) := by decide +kernel
theorem d_OS_clear_25 : decode b_OS_clear 25 = .ok (.bipush 40, 2) := by decide +kernel
theorem d_OS_clear_27 : decode b_OS_clear 27 = .ok (.if_icmp .ge 41, 3) := by decide +kernel
theorem d_OS_clear_30 : decode b_OS_clear 30 = .ok (.aload_n 0, 1) := by decide +kernel
theorem d_OS_clear_31 : decode b_OS_clear 31 = .ok (.iload_n 1, 1) := by decide +kernel
theorem d_OS_clear_32 : decode b_OS_clear 32 = .ok (.iload_n 3, 1) := by decide +kernel
theorem d_OS_clear_33 : decode b_OS_clear 33 = .ok (.invokevirtual 93, 3) := by decide +kernel
theorem d_OS_clear_36 : decode b_OS_clear 36 = .ok (.istore 4, 2) := by decide +kernel
theorem d_OS_clear_38 : decode b_OS_clear 38 = .ok (.aload_n 0, 1) := by decide +kernel
theorem d_OS_clear_39 : decode b_OS_clear 39 = .ok (.getfield 26, 3) := by decide +kernel
theorem d_OS_clear_42 : decode b_OS_clear 42 = .ok (.iload 4, 2) := by decide +kernel
theorem d_OS_clear_44 : decode b_OS_clear 44 = .ok (.invokevirtual 134, 3) := by decide +kernel
theorem d_OS_clear_47 : decode b_OS_clear 47 = .ok (.ifCond .eq 15, 3) := by decide +kernel
theorem d_OS_clear_50 : decode b_OS_clear 50 = .ok (.aload_n 0, 1) := by decide +kernel
theorem d_OS_clear_51 : decode b_OS_clear 51 = .ok (.getfield 26, 3) := by decide +kernel
theorem d_OS_clear_54 : decode b_OS_clear 54 = .ok (.iload 4, 2) := by decide +kernel
theorem d_OS_clear_56 : decode b_OS_clear 56 = .ok (.invokevirtual 149, 3) := by decide +kernel
theorem d_OS_clear_59 : decode b_OS_clear 59 = .ok (.iinc 2 1, 3) := by decide +kernel
theorem d_OS_clear_62 : decode b_OS_clear 62 = .ok (.iinc 3 1, 3) := by decide +kernel
theorem d_OS_clear_65 : decode b_OS_clear 65 = .ok (.goto (-41), 3) := by decide +kernel
theorem d_OS_clear_68 : decode b_OS_clear 68 = .ok (.iload_n 2, 1) := by decide +kernel
theorem d_OS_clear_69 : decode b_OS_clear 69 = .ok (.ireturn, 1) := by decide +kernel
theorem d_OS_copies_0 : decode b_OS_copies 0 = .ok (.lload_n 1, 1) := by decide +kernel
theorem d_OS_copies_1 : decode b_OS_copies 1 = .ok (.lconst 0, 1) := by decide +kernel
theorem d_OS_copies_2 : decode b_OS_copies 2 = .ok (.lcmp, 1) := by decide +kernel
theorem d_OS_copies_3 : decode b_OS_copies 3 = .ok (.ifCond .ne 5, 3) := by decide +kernel
theorem d_OS_copies_6 : decode b_OS_copies 6 = .ok (.iconst 0, 1) := by decide +kernel
theorem d_OS_copies_7 : decode b_OS_copies 7 = .ok (.ireturn, 1) := by decide +kernel
theorem d_OS_copies_8 : decode b_OS_copies 8 = .ok (.iconst 0, 1) := by decide +kernel
theorem d_OS_copies_9 : decode b_OS_copies 9 = .ok (.istore_n 3, 1) := by decide +kernel
theorem d_OS_copies_10 : decode b_OS_copies 10 = .ok (.iconst 0, 1) := by decide +kernel
theorem d_OS_copies_11 : decode b_OS_copies 11 = .ok (.istore 4, 2) := by decide +kernel
theorem d_OS_copies_13 : decode b_OS_copies 13 = .ok (.iload 4, 2) := by decide +kernel
theorem d_OS_copies_15 : decode b_OS_copies 15 = .ok (.sipush 420, 3) := by decide +kernel
theorem d_OS_copies_18 : decode b_OS_copies 18 = .ok (.if_icmp .ge 23, 3) := by decide +kernel
theorem d_OS_copies_21 : decode b_OS_copies 21 = .ok (.aload_n 0, 1) := by decide +kernel
theorem d_OS_copies_22 : decode b_OS_copies 22 = .ok (.iload 4, 2) := by decide +kernel
theorem d_OS_copies_24 : decode b_OS_copies 24 = .ok (.invokevirtual 180, 3) := by decide +kernel
theorem d_OS_copies_27 : decode b_OS_copies 27 = .ok (.lload_n 1, 1) := by decide +kernel
theorem d_OS_copies_28 : decode b_OS_copies 28 = .ok (.lcmp, 1) := by decide +kernel
theorem d_OS_copies_29 : decode b_OS_copies 29 = .ok (.ifCond .ne 6, 3) := by decide +kernel
theorem d_OS_copies_32 : decode b_OS_copies 32 = .ok (.iinc 3 1, 3) := by decide +kernel
theorem d_OS_copies_35 : decode b_OS_copies 35 = .ok (.iinc 4 1, 3) := by decide +kernel
theorem d_OS_copies_38 : decode b_OS_copies 38 = .ok (.goto (-25), 3) := by decide +kernel
theorem d_OS_copies_41 : decode b_OS_copies 41 = .ok (.iload_n 3, 1) := by decide +kernel
theorem d_OS_copies_42 : decode b_OS_copies 42 = .ok (.ireturn, 1) := by decide +kernel
theorem d_OS_stored_0 : decode b_OS_stored 0 = .ok (.iconst 0, 1) := by decide +kernel
theorem d_OS_stored_1 : decode b_OS_stored 1 = .ok (.istore_n 1, 1) := by decide +kernel
theorem d_OS_stored_2 : decode b_OS_stored 2 = .ok (.iconst 0, 1) := by decide +kernel
theorem d_OS_stored_3 : decode b_OS_stored 3 = .ok (.istore_n 2, 1) := by decide +kernel
theorem d_OS_stored_4 : decode b_OS_stored 4 = .ok (.iload_n 2, 1) := by decide +kernel
theorem d_OS_stored_5 : decode b_OS_stored 5 = .ok (.sipush 420, 3) := by decide +kernel
theorem d_OS_stored_8 : decode b_OS_stored 8 = .ok (.if_icmp .ge 51, 3) := by decide +kernel
theorem d_OS_stored_11 : decode b_OS_stored 11 = .ok (.aload_n 0, 1) := by decide +kernel
theorem d_OS_stored_12 : decode b_OS_stored 12 = .ok (.iload_n 2, 1) := by decide +kernel
theorem d_OS_stored_13 : decode b_OS_stored 13 = .ok (.invokevirtual 180, 3) := by decide +kernel
theorem d_OS_stored_16 : decode b_OS_stored 16 = .ok (.lstore_n 3, 1) := by decide +kernel
theorem d_OS_stored_17 : decode b_OS_stored 17 = .ok (.lload_n 3, 1) := by decide +kernel
theorem d_OS_stored_18 : decode b_OS_stored 18 = .ok (.lconst 0, 1) := by decide +kernel
theorem d_OS_stored_19 : decode b_OS_stored 19 = .ok (.lcmp, 1) := by decide +kernel
theorem d_OS_stored_20 : decode b_OS_stored 20 = .ok (.ifCond .eq 33, 3) := by decide +kernel
theorem d_OS_stored_23 : decode b_OS_stored 23 = .ok (.iload_n 1, 1) := by decide +kernel
theorem d_OS_stored_24 : decode b_OS_stored 24 = .ok (.sipush 420, 3) := by decide +kernel
theorem d_OS_stored_27 : decode b_OS_stored 27 = .ok (.if_icmp .ge 26, 3) := by decide +kernel
theorem d_OS_stored_30 : decode b_OS_stored 30 = .ok (.aload_n 0, 1) := by decide +kernel
theorem d_OS_stored_31 : decode b_OS_stored 31 = .ok (.getfield 54, 3) := by decide +kernel
theorem d_OS_stored_34 : decode b_OS_stored 34 = .ok (.iload_n 1, 1) := by decide +kernel
theorem d_OS_stored_35 : decode b_OS_stored 35 = .ok (.lload_n 3, 1) := by decide +kernel
theorem d_OS_stored_36 : decode b_OS_stored 36 = .ok (.invokestatic 183, 3) := by decide +kernel
theorem d_OS_stored_39 : decode b_OS_stored 39 = .ok (.iconst (-1), 1) := by decide +kernel
theorem d_OS_stored_40 : decode b_OS_stored 40 = .ok (.if_icmp .ne 13, 3) := by decide +kernel
theorem d_OS_stored_43 : decode b_OS_stored 43 = .ok (.aload_n 0, 1) := by decide +kernel
theorem d_OS_stored_44 : decode b_OS_stored 44 = .ok (.getfield 54, 3) := by decide +kernel
theorem d_OS_stored_47 : decode b_OS_stored 47 = .ok (.iload_n 1, 1) := by decide +kernel
theorem d_OS_stored_48 : decode b_OS_stored 48 = .ok (.lload_n 3, 1) := by decide +kernel
theorem d_OS_stored_49 : decode b_OS_stored 49 = .ok (.lastore, 1) := by decide +kernel
theorem d_OS_stored_50 : decode b_OS_stored 50 = .ok (.iinc 1 1, 3) := by decide +kernel
theorem d_OS_stored_53 : decode b_OS_stored 53 = .ok (.iinc 2 1, 3) := by decide +kernel
theorem d_OS_stored_56 : decode b_OS_stored 56 = .ok (.goto (-52), 3) := by decide +kernel
theorem d_OS_stored_59 : decode b_OS_stored 59 = .ok (.iload_n 1, 1) := by decide +kernel
theorem d_OS_stored_60 : decode b_OS_stored 60 = .ok (.ireturn, 1) := by decide +kernel
theorem d_OS_storedAt_0 : decode b_OS_storedAt 0 = .ok (.iload_n 1, 1) := by decide +kernel
theorem d_OS_storedAt_1 : decode b_OS_storedAt 1 = .ok (.sipush 160, 3) := by decide +kernel
theorem d_OS_storedAt_4 : decode b_OS_storedAt 4 = .ok (.if_icmp .ge 12, 3) := by decide +kernel
theorem d_OS_storedAt_7 : decode b_OS_storedAt 7 = .ok (.aload_n 0, 1) := by decide +kernel
theorem d_OS_storedAt_8 : decode b_OS_storedAt 8 = .ok (.getfield 26, 3) := by decide +kernel
theorem d_OS_storedAt_11 : decode b_OS_storedAt 11 = .ok (.iload_n 1, 1) := by decide +kernel
theorem d_OS_storedAt_12 : decode b_OS_storedAt 12 = .ok (.invokevirtual 187, 3) := by decide +kernel
theorem d_OS_storedAt_15 : decode b_OS_storedAt 15 = .ok (.lreturn, 1) := by decide +kernel
theorem d_OS_storedAt_16 : decode b_OS_storedAt 16 = .ok (.iload_n 1, 1) := by decide +kernel
theorem d_OS_storedAt_17 : decode b_OS_storedAt 17 = .ok (.sipush 320, 3) := by decide +kernel
theorem d_OS_storedAt_20 : decode b_OS_storedAt 20 = .ok (.if_icmp .ge 16, 3) := by decide +kernel
theorem d_OS_storedAt_23 : decode b_OS_storedAt 23 = .ok (.aload_n 0, 1) := by decide +kernel
theorem d_OS_storedAt_24 : decode b_OS_storedAt 24 = .ok (.getfield 30, 3) := by decide +kernel
theorem d_OS_storedAt_27 : decode b_OS_storedAt 27 = .ok (.iload_n 1, 1) := by decide +kernel
theorem d_OS_storedAt_28 : decode b_OS_storedAt 28 = .ok (.sipush 160, 3) := by decide +kernel
theorem d_OS_storedAt_31 : decode b_OS_storedAt 31 = .ok (.isub, 1) := by decide +kernel
theorem d_OS_storedAt_32 : decode b_OS_storedAt 32 = .ok (.invokevirtual 187, 3) := by decide +kernel
theorem d_OS_storedAt_35 : decode b_OS_storedAt 35 = .ok (.lreturn, 1) := by decide +kernel
theorem d_OS_storedAt_36 : decode b_OS_storedAt 36 = .ok (.aload_n 0, 1) := by decide +kernel
theorem d_OS_storedAt_37 : decode b_OS_storedAt 37 = .ok (.getfield 43, 3) := by decide +kernel
theorem d_OS_storedAt_40 : decode b_OS_storedAt 40 = .ok (.iload_n 1, 1) := by decide +kernel
theorem d_OS_storedAt_41 : decode b_OS_storedAt 41 = .ok (.sipush 160, 3) := by decide +kernel
theorem d_OS_storedAt_44 : decode b_OS_storedAt 44 = .ok (.isub, 1) := by decide +kernel
theorem d_OS_storedAt_45 : decode b_OS_storedAt 45 = .ok (.sipush 160, 3) := by decide +kernel
theorem d_OS_storedAt_48 : decode b_OS_storedAt 48 = .ok (.isub, 1) := by decide +kernel
theorem d_OS_storedAt_49 : decode b_OS_storedAt 49 = .ok (.invokevirtual 159, 3) := by decide +kernel
theorem d_OS_storedAt_52 : decode b_OS_storedAt 52 = .ok (.lreturn, 1) := by decide +kernel
theorem d_OS_isRefused_0 : decode b_OS_isRefused 0 = .ok (.aload_n 0, 1) := by decide +kernel
theorem d_OS_isRefused_1 : decode b_OS_isRefused 1 = .ok (.getfield 19, 3) := by decide +kernel
theorem d_OS_isRefused_4 : decode b_OS_isRefused 4 = .ok (.iload_n 1, 1) := by decide +kernel
theorem d_OS_isRefused_5 : decode b_OS_isRefused 5 = .ok (.invokevirtual 90, 3) := by decide +kernel
theorem d_OS_isRefused_8 : decode b_OS_isRefused 8 = .ok (.istore_n 3, 1) := by decide +kernel
theorem d_OS_isRefused_9 : decode b_OS_isRefused 9 = .ok (.iconst 0, 1) := by decide +kernel
theorem d_OS_isRefused_10 : decode b_OS_isRefused 10 = .ok (.istore 4, 2) := by decide +kernel
theorem d_OS_isRefused_12 : decode b_OS_isRefused 12 = .ok (.iload 4, 2) := by decide +kernel
theorem d_OS_isRefused_14 : decode b_OS_isRefused 14 = .ok (.bipush 40, 2) := by decide +kernel
theorem d_OS_isRefused_16 : decode b_OS_isRefused 16 = .ok (.if_icmp .ge 76, 3) := by decide +kernel
theorem d_OS_isRefused_19 : decode b_OS_isRefused 19 = .ok (.aload_n 0, 1) := by decide +kernel
theorem d_OS_isRefused_20 : decode b_OS_isRefused 20 = .ok (.iload_n 3, 1) := by decide +kernel
theorem d_OS_isRefused_21 : decode b_OS_isRefused 21 = .ok (.iload 4, 2) := by decide +kernel
theorem d_OS_isRefused_23 : decode b_OS_isRefused 23 = .ok (.invokevirtual 93, 3) := by decide +kernel
theorem d_OS_isRefused_26 : decode b_OS_isRefused 26 = .ok (.istore 5, 2) := by decide +kernel
theorem d_OS_isRefused_28 : decode b_OS_isRefused 28 = .ok (.aload_n 0, 1) := by decide +kernel
theorem d_OS_isRefused_29 : decode b_OS_isRefused 29 = .ok (.iload_n 1, 1) := by decide +kernel
theorem d_OS_isRefused_30 : decode b_OS_isRefused 30 = .ok (.iload 5, 2) := by decide +kernel
theorem d_OS_isRefused_32 : decode b_OS_isRefused 32 = .ok (.invokevirtual 190, 3) := by decide +kernel
theorem d_OS_isRefused_35 : decode b_OS_isRefused 35 = .ok (.ifCond .ne 24, 3) := by decide +kernel
theorem d_OS_isRefused_38 : decode b_OS_isRefused 38 = .ok (.aload_n 0, 1) := by decide +kernel
theorem d_OS_isRefused_39 : decode b_OS_isRefused 39 = .ok (.iload_n 1, 1) := by decide +kernel
theorem d_OS_isRefused_40 : decode b_OS_isRefused 40 = .ok (.iload 5, 2) := by decide +kernel
theorem d_OS_isRefused_42 : decode b_OS_isRefused 42 = .ok (.iload_n 2, 1) := by decide +kernel
theorem d_OS_isRefused_43 : decode b_OS_isRefused 43 = .ok (.iload 4, 2) := by decide +kernel
theorem d_OS_isRefused_45 : decode b_OS_isRefused 45 = .ok (.if_icmp .ne 7, 3) := by decide +kernel
theorem d_OS_isRefused_48 : decode b_OS_isRefused 48 = .ok (.iconst 1, 1) := by decide +kernel
theorem d_OS_isRefused_49 : decode b_OS_isRefused 49 = .ok (.goto 4, 3) := by decide +kernel
theorem d_OS_isRefused_52 : decode b_OS_isRefused 52 = .ok (.iconst 0, 1) := by decide +kernel
theorem d_OS_isRefused_53 : decode b_OS_isRefused 53 = .ok (.invokevirtual 193, 3) := by decide +kernel
theorem d_OS_isRefused_56 : decode b_OS_isRefused 56 = .ok (.ifCond .eq 7, 3) := by decide +kernel
theorem d_OS_isRefused_59 : decode b_OS_isRefused 59 = .ok (.iconst 1, 1) := by decide +kernel
theorem d_OS_isRefused_60 : decode b_OS_isRefused 60 = .ok (.goto 4, 3) := by decide +kernel
theorem d_OS_isRefused_63 : decode b_OS_isRefused 63 = .ok (.iconst 0, 1) := by decide +kernel
theorem d_OS_isRefused_64 : decode b_OS_isRefused 64 = .ok (.istore 6, 2) := by decide +kernel
theorem d_OS_isRefused_66 : decode b_OS_isRefused 66 = .ok (.iload 6, 2) := by decide +kernel
theorem d_OS_isRefused_68 : decode b_OS_isRefused 68 = .ok (.ifCond .eq 18, 3) := by decide +kernel
theorem d_OS_isRefused_71 : decode b_OS_isRefused 71 = .ok (.aload_n 0, 1) := by decide +kernel
theorem d_OS_isRefused_72 : decode b_OS_isRefused 72 = .ok (.getfield 12, 3) := by decide +kernel
theorem d_OS_isRefused_75 : decode b_OS_isRefused 75 = .ok (.iload_n 2, 1) := by decide +kernel
theorem d_OS_isRefused_76 : decode b_OS_isRefused 76 = .ok (.iload 4, 2) := by decide +kernel
theorem d_OS_isRefused_78 : decode b_OS_isRefused 78 = .ok (.invokevirtual 197, 3) := by decide +kernel
theorem d_OS_isRefused_81 : decode b_OS_isRefused 81 = .ok (.ifCond .eq 5, 3) := by decide +kernel
theorem d_OS_isRefused_84 : decode b_OS_isRefused 84 = .ok (.iconst 1, 1) := by decide +kernel
theorem d_OS_isRefused_85 : decode b_OS_isRefused 85 = .ok (.ireturn, 1) := by decide +kernel
theorem d_OS_isRefused_86 : decode b_OS_isRefused 86 = .ok (.iinc 4 1, 3) := by decide +kernel
theorem d_OS_isRefused_89 : decode b_OS_isRefused 89 = .ok (.goto (-77), 3) := by decide +kernel
theorem d_OS_isRefused_92 : decode b_OS_isRefused 92 = .ok (.iconst 0, 1) := by decide +kernel
theorem d_OS_isRefused_93 : decode b_OS_isRefused 93 = .ok (.ireturn, 1) := by decide +kernel
theorem d_OS_isOutputOfAnother_0 : decode b_OS_isOutputOfAnother 0 = .ok (.aload_n 0, 1) := by decide +kernel
theorem d_OS_isOutputOfAnother_1 : decode b_OS_isOutputOfAnother 1 = .ok (.getfield 26, 3) := by decide +kernel
theorem d_OS_isOutputOfAnother_4 : decode b_OS_isOutputOfAnother 4 = .ok (.iload_n 2, 1) := by decide +kernel
theorem d_OS_isOutputOfAnother_5 : decode b_OS_isOutputOfAnother 5 = .ok (.invokevirtual 134, 3) := by decide +kernel
theorem d_OS_isOutputOfAnother_8 : decode b_OS_isOutputOfAnother 8 = .ok (.ifCond .eq 23, 3) := by decide +kernel
theorem d_OS_isOutputOfAnother_11 : decode b_OS_isOutputOfAnother 11 = .ok (.aload_n 0, 1) := by decide +kernel
theorem d_OS_isOutputOfAnother_12 : decode b_OS_isOutputOfAnother 12 = .ok (.iload_n 2, 1) := by decide +kernel
theorem d_OS_isOutputOfAnother_13 : decode b_OS_isOutputOfAnother 13 = .ok (.invokevirtual 142, 3) := by decide +kernel
theorem d_OS_isOutputOfAnother_16 : decode b_OS_isOutputOfAnother 16 = .ok (.aload_n 0, 1) := by decide +kernel
theorem d_OS_isOutputOfAnother_17 : decode b_OS_isOutputOfAnother 17 = .ok (.getfield 19, 3) := by decide +kernel
theorem d_OS_isOutputOfAnother_20 : decode b_OS_isOutputOfAnother 20 = .ok (.iload_n 1, 1) := by decide +kernel
theorem d_OS_isOutputOfAnother_21 : decode b_OS_isOutputOfAnother 21 = .ok (.invokevirtual 200, 3) := by decide +kernel
theorem d_OS_isOutputOfAnother_24 : decode b_OS_isOutputOfAnother 24 = .ok (.if_icmp .eq 7, 3) := by decide +kernel
theorem d_OS_isOutputOfAnother_27 : decode b_OS_isOutputOfAnother 27 = .ok (.iconst 1, 1) := by decide +kernel
theorem d_OS_isOutputOfAnother_28 : decode b_OS_isOutputOfAnother 28 = .ok (.goto 4, 3) := by decide +kernel
theorem d_OS_isOutputOfAnother_31 : decode b_OS_isOutputOfAnother 31 = .ok (.iconst 0, 1) := by decide +kernel
theorem d_OS_isOutputOfAnother_32 : decode b_OS_isOutputOfAnother 32 = .ok (.ireturn, 1) := by decide +kernel
theorem d_OS_isStagedAgainst_0 : decode b_OS_isStagedAgainst 0 = .ok (.aload_n 0, 1) := by decide +kernel
theorem d_OS_isStagedAgainst_1 : decode b_OS_isStagedAgainst 1 = .ok (.getfield 30, 3) := by decide +kernel
theorem d_OS_isStagedAgainst_4 : decode b_OS_isStagedAgainst 4 = .ok (.iload_n 2, 1) := by decide +kernel
theorem d_OS_isStagedAgainst_5 : decode b_OS_isStagedAgainst 5 = .ok (.invokevirtual 134, 3) := by decide +kernel
theorem d_OS_isStagedAgainst_8 : decode b_OS_isStagedAgainst 8 = .ok (.ifCond .eq 23, 3) := by decide +kernel
theorem d_OS_isStagedAgainst_11 : decode b_OS_isStagedAgainst 11 = .ok (.iload_n 3, 1) := by decide +kernel
theorem d_OS_isStagedAgainst_12 : decode b_OS_isStagedAgainst 12 = .ok (.ifCond .eq 15, 3) := by decide +kernel
theorem d_OS_isStagedAgainst_15 : decode b_OS_isStagedAgainst 15 = .ok (.aload_n 0, 1) := by decide +kernel
theorem d_OS_isStagedAgainst_16 : decode b_OS_isStagedAgainst 16 = .ok (.getfield 30, 3) := by decide +kernel
theorem d_OS_isStagedAgainst_19 : decode b_OS_isStagedAgainst 19 = .ok (.iload_n 2, 1) := by decide +kernel
theorem d_OS_isStagedAgainst_20 : decode b_OS_isStagedAgainst 20 = .ok (.iload_n 1, 1) := by decide +kernel
theorem d_OS_isStagedAgainst_21 : decode b_OS_isStagedAgainst 21 = .ok (.invokevirtual 97, 3) := by decide +kernel
theorem d_OS_isStagedAgainst_24 : decode b_OS_isStagedAgainst 24 = .ok (.ifCond .ne 7, 3) := by decide +kernel
theorem d_OS_isStagedAgainst_27 : decode b_OS_isStagedAgainst 27 = .ok (.iconst 1, 1) := by decide +kernel
theorem d_OS_isStagedAgainst_28 : decode b_OS_isStagedAgainst 28 = .ok (.goto 4, 3) := by decide +kernel
theorem d_OS_isStagedAgainst_31 : decode b_OS_isStagedAgainst 31 = .ok (.iconst 0, 1) := by decide +kernel
theorem d_OS_isStagedAgainst_32 : decode b_OS_isStagedAgainst 32 = .ok (.ireturn, 1) := by decide +kernel
theorem d_OS_countStaged_0 : decode b_OS_countStaged 0 = .ok (.aload_n 0, 1) := by decide +kernel
theorem d_OS_countStaged_1 : decode b_OS_countStaged 1 = .ok (.getfield 19, 3) := by decide +kernel
theorem d_OS_countStaged_4 : decode b_OS_countStaged 4 = .ok (.iload_n 1, 1) := by decide +kernel
theorem d_OS_countStaged_5 : decode b_OS_countStaged 5 = .ok (.invokevirtual 90, 3) := by decide +kernel
theorem d_OS_countStaged_8 : decode b_OS_countStaged 8 = .ok (.istore_n 2, 1) := by decide +kernel
theorem d_OS_countStaged_9 : decode b_OS_countStaged 9 = .ok (.iconst 0, 1) := by decide +kernel
theorem d_OS_countStaged_10 : decode b_OS_countStaged 10 = .ok (.istore_n 3, 1) := by decide +kernel
theorem d_OS_countStaged_11 : decode b_OS_countStaged 11 = .ok (.iconst 0, 1) := by decide +kernel
theorem d_OS_countStaged_12 : decode b_OS_countStaged 12 = .ok (.istore 4, 2) := by decide +kernel
theorem d_OS_countStaged_14 : decode b_OS_countStaged 14 = .ok (.iload 4, 2) := by decide +kernel
theorem d_OS_countStaged_16 : decode b_OS_countStaged 16 = .ok (.bipush 40, 2) := by decide +kernel
theorem d_OS_countStaged_18 : decode b_OS_countStaged 18 = .ok (.if_icmp .ge 30, 3) := by decide +kernel
theorem d_OS_countStaged_21 : decode b_OS_countStaged 21 = .ok (.aload_n 0, 1) := by decide +kernel
theorem d_OS_countStaged_22 : decode b_OS_countStaged 22 = .ok (.getfield 30, 3) := by decide +kernel
theorem d_OS_countStaged_25 : decode b_OS_countStaged 25 = .ok (.aload_n 0, 1) := by decide +kernel
theorem d_OS_countStaged_26 : decode b_OS_countStaged 26 = .ok (.iload_n 2, 1) := by decide +kernel
theorem d_OS_countStaged_27 : decode b_OS_countStaged 27 = .ok (.iload 4, 2) := by decide +kernel
theorem d_OS_countStaged_29 : decode b_OS_countStaged 29 = .ok (.invokevirtual 93, 3) := by decide +kernel
theorem d_OS_countStaged_32 : decode b_OS_countStaged 32 = .ok (.iload_n 1, 1) := by decide +kernel
theorem d_OS_countStaged_33 : decode b_OS_countStaged 33 = .ok (.invokevirtual 97, 3) := by decide +kernel
theorem d_OS_countStaged_36 : decode b_OS_countStaged 36 = .ok (.ifCond .eq 6, 3) := by decide +kernel
theorem d_OS_countStaged_39 : decode b_OS_countStaged 39 = .ok (.iinc 3 1, 3) := by decide +kernel
theorem d_OS_countStaged_42 : decode b_OS_countStaged 42 = .ok (.iinc 4 1, 3) := by decide +kernel
theorem d_OS_countStaged_45 : decode b_OS_countStaged 45 = .ok (.goto (-31), 3) := by decide +kernel
theorem d_OS_countStaged_48 : decode b_OS_countStaged 48 = .ok (.iload_n 3, 1) := by decide +kernel
theorem d_OS_countStaged_49 : decode b_OS_countStaged 49 = .ok (.ireturn, 1) := by decide +kernel
theorem d_OS_replaceOutputs_0 : decode b_OS_replaceOutputs 0 = .ok (.aload_n 0, 1) := by decide +kernel
theorem d_OS_replaceOutputs_1 : decode b_OS_replaceOutputs 1 = .ok (.getfield 19, 3) := by decide +kernel
theorem d_OS_replaceOutputs_4 : decode b_OS_replaceOutputs 4 = .ok (.iload_n 1, 1) := by decide +kernel
theorem d_OS_replaceOutputs_5 : decode b_OS_replaceOutputs 5 = .ok (.invokevirtual 90, 3) := by decide +kernel
theorem d_OS_replaceOutputs_8 : decode b_OS_replaceOutputs 8 = .ok (.istore_n 2, 1) := by decide +kernel
theorem d_OS_replaceOutputs_9 : decode b_OS_replaceOutputs 9 = .ok (.aload_n 0, 1) := by decide +kernel
theorem d_OS_replaceOutputs_10 : decode b_OS_replaceOutputs 10 = .ok (.getfield 19, 3) := by decide +kernel
theorem d_OS_replaceOutputs_13 : decode b_OS_replaceOutputs 13 = .ok (.iload_n 1, 1) := by decide +kernel
theorem d_OS_replaceOutputs_14 : decode b_OS_replaceOutputs 14 = .ok (.invokevirtual 200, 3) := by decide +kernel
theorem d_OS_replaceOutputs_17 : decode b_OS_replaceOutputs 17 = .ok (.istore_n 3, 1) := by decide +kernel
theorem d_OS_replaceOutputs_18 : decode b_OS_replaceOutputs 18 = .ok (.iconst 0, 1) := by decide +kernel
theorem d_OS_replaceOutputs_19 : decode b_OS_replaceOutputs 19 = .ok (.istore 4, 2) := by decide +kernel
theorem d_OS_replaceOutputs_21 : decode b_OS_replaceOutputs 21 = .ok (.iconst 0, 1) := by decide +kernel
theorem d_OS_replaceOutputs_22 : decode b_OS_replaceOutputs 22 = .ok (.istore 5, 2) := by decide +kernel
theorem d_OS_replaceOutputs_24 : decode b_OS_replaceOutputs 24 = .ok (.iload 5, 2) := by decide +kernel
theorem d_OS_replaceOutputs_26 : decode b_OS_replaceOutputs 26 = .ok (.bipush 40, 2) := by decide +kernel
theorem d_OS_replaceOutputs_28 : decode b_OS_replaceOutputs 28 = .ok (.if_icmp .ge 105, 3) := by decide +kernel
theorem d_OS_replaceOutputs_31 : decode b_OS_replaceOutputs 31 = .ok (.aload_n 0, 1) := by decide +kernel
theorem d_OS_replaceOutputs_32 : decode b_OS_replaceOutputs 32 = .ok (.iload_n 2, 1) := by decide +kernel
theorem d_OS_replaceOutputs_33 : decode b_OS_replaceOutputs 33 = .ok (.iload 5, 2) := by decide +kernel
theorem d_OS_replaceOutputs_35 : decode b_OS_replaceOutputs 35 = .ok (.invokevirtual 93, 3) := by decide +kernel
theorem d_OS_replaceOutputs_38 : decode b_OS_replaceOutputs 38 = .ok (.istore 6, 2) := by decide +kernel
theorem d_OS_replaceOutputs_40 : decode b_OS_replaceOutputs 40 = .ok (.aload_n 0, 1) := by decide +kernel
theorem d_OS_replaceOutputs_41 : decode b_OS_replaceOutputs 41 = .ok (.getfield 30, 3) := by decide +kernel
theorem d_OS_replaceOutputs_44 : decode b_OS_replaceOutputs 44 = .ok (.iload 6, 2) := by decide +kernel
theorem d_OS_replaceOutputs_46 : decode b_OS_replaceOutputs 46 = .ok (.iload_n 1, 1) := by decide +kernel
theorem d_OS_replaceOutputs_47 : decode b_OS_replaceOutputs 47 = .ok (.invokevirtual 97, 3) := by decide +kernel
theorem d_OS_replaceOutputs_50 : decode b_OS_replaceOutputs 50 = .ok (.ifCond .eq 43, 3) := by decide +kernel
theorem d_OS_replaceOutputs_53 : decode b_OS_replaceOutputs 53 = .ok (.aload_n 0, 1) := by decide +kernel
theorem d_OS_replaceOutputs_54 : decode b_OS_replaceOutputs 54 = .ok (.getfield 26, 3) := by decide +kernel
theorem d_OS_replaceOutputs_57 : decode b_OS_replaceOutputs 57 = .ok (.iload 6, 2) := by decide +kernel
theorem d_OS_replaceOutputs_59 : decode b_OS_replaceOutputs 59 = .ok (.iload_n 1, 1) := by decide +kernel
theorem d_OS_replaceOutputs_60 : decode b_OS_replaceOutputs 60 = .ok (.aload_n 0, 1) := by decide +kernel
theorem d_OS_replaceOutputs_61 : decode b_OS_replaceOutputs 61 = .ok (.getfield 30, 3) := by decide +kernel
theorem d_OS_replaceOutputs_64 : decode b_OS_replaceOutputs 64 = .ok (.iload 6, 2) := by decide +kernel
theorem d_OS_replaceOutputs_66 : decode b_OS_replaceOutputs 66 = .ok (.invokevirtual 135, 3) := by decide +kernel
theorem d_OS_replaceOutputs_69 : decode b_OS_replaceOutputs 69 = .ok (.aload_n 0, 1) := by decide +kernel
theorem d_OS_replaceOutputs_70 : decode b_OS_replaceOutputs 70 = .ok (.getfield 30, 3) := by decide +kernel
theorem d_OS_replaceOutputs_73 : decode b_OS_replaceOutputs 73 = .ok (.iload 6, 2) := by decide +kernel
theorem d_OS_replaceOutputs_75 : decode b_OS_replaceOutputs 75 = .ok (.invokevirtual 165, 3) := by decide +kernel
theorem d_OS_replaceOutputs_78 : decode b_OS_replaceOutputs 78 = .ok (.aload_n 0, 1) := by decide +kernel
theorem d_OS_replaceOutputs_79 : decode b_OS_replaceOutputs 79 = .ok (.getfield 30, 3) := by decide +kernel
theorem d_OS_replaceOutputs_82 : decode b_OS_replaceOutputs 82 = .ok (.iload 6, 2) := by decide +kernel
theorem d_OS_replaceOutputs_84 : decode b_OS_replaceOutputs 84 = .ok (.invokevirtual 139, 3) := by decide +kernel
theorem d_OS_replaceOutputs_87 : decode b_OS_replaceOutputs 87 = .ok (.invokevirtual 109, 3) := by decide +kernel
theorem d_OS_replaceOutputs_90 : decode b_OS_replaceOutputs 90 = .ok (.goto 37, 3) := by decide +kernel
theorem d_OS_replaceOutputs_93 : decode b_OS_replaceOutputs 93 = .ok (.aload_n 0, 1) := by decide +kernel
theorem d_OS_replaceOutputs_94 : decode b_OS_replaceOutputs 94 = .ok (.getfield 26, 3) := by decide +kernel
theorem d_OS_replaceOutputs_97 : decode b_OS_replaceOutputs 97 = .ok (.iload 6, 2) := by decide +kernel
theorem d_OS_replaceOutputs_99 : decode b_OS_replaceOutputs 99 = .ok (.invokevirtual 134, 3) := by decide +kernel
theorem d_OS_replaceOutputs_102 : decode b_OS_replaceOutputs 102 = .ok (.ifCond .eq 25, 3) := by decide +kernel
theorem d_OS_replaceOutputs_105 : decode b_OS_replaceOutputs 105 = .ok (.aload_n 0, 1) := by decide +kernel
theorem d_OS_replaceOutputs_106 : decode b_OS_replaceOutputs 106 = .ok (.iload 6, 2) := by decide +kernel
theorem d_OS_replaceOutputs_108 : decode b_OS_replaceOutputs 108 = .ok (.invokevirtual 142, 3) := by decide +kernel
theorem d_OS_replaceOutputs_111 : decode b_OS_replaceOutputs 111 = .ok (.iload_n 3, 1) := by decide +kernel
theorem d_OS_replaceOutputs_112 : decode b_OS_replaceOutputs 112 = .ok (.if_icmp .ne 15, 3) := by decide +kernel
theorem d_OS_replaceOutputs_115 : decode b_OS_replaceOutputs 115 = .ok (.aload_n 0, 1) := by decide +kernel
theorem d_OS_replaceOutputs_116 : decode b_OS_replaceOutputs 116 = .ok (.getfield 26, 3) := by decide +kernel
theorem d_OS_replaceOutputs_119 : decode b_OS_replaceOutputs 119 = .ok (.iload 6, 2) := by decide +kernel
theorem d_OS_replaceOutputs_121 : decode b_OS_replaceOutputs 121 = .ok (.invokevirtual 149, 3) := by decide +kernel
theorem d_OS_replaceOutputs_124 : decode b_OS_replaceOutputs 124 = .ok (.iinc 4 1, 3) := by decide +kernel
theorem d_OS_replaceOutputs_127 : decode b_OS_replaceOutputs 127 = .ok (.iinc 5 1, 3) := by decide +kernel
theorem d_OS_replaceOutputs_130 : decode b_OS_replaceOutputs 130 = .ok (.goto (-106), 3) := by decide +kernel
theorem d_OS_replaceOutputs_133 : decode b_OS_replaceOutputs 133 = .ok (.aload_n 0, 1) := by decide +kernel
theorem d_OS_replaceOutputs_134 : decode b_OS_replaceOutputs 134 = .ok (.getfield 50, 3) := by decide +kernel
theorem d_OS_replaceOutputs_137 : decode b_OS_replaceOutputs 137 = .ok (.iload_n 3, 1) := by decide +kernel
theorem d_OS_replaceOutputs_138 : decode b_OS_replaceOutputs 138 = .ok (.iload_n 2, 1) := by decide +kernel
theorem d_OS_replaceOutputs_139 : decode b_OS_replaceOutputs 139 = .ok (.iconst 0, 1) := by decide +kernel
theorem d_OS_replaceOutputs_140 : decode b_OS_replaceOutputs 140 = .ok (.invokevirtual 145, 3) := by decide +kernel
theorem d_OS_replaceOutputs_143 : decode b_OS_replaceOutputs 143 = .ok (.iload 4, 2) := by decide +kernel
theorem d_OS_replaceOutputs_145 : decode b_OS_replaceOutputs 145 = .ok (.ireturn, 1) := by decide +kernel
theorem d_OS_dropStaged_0 : decode b_OS_dropStaged 0 = .ok (.aload_n 0, 1) := by decide +kernel
theorem d_OS_dropStaged_1 : decode b_OS_dropStaged 1 = .ok (.getfield 19, 3) := by decide +kernel
theorem d_OS_dropStaged_4 : decode b_OS_dropStaged 4 = .ok (.iload_n 1, 1) := by decide +kernel
theorem d_OS_dropStaged_5 : decode b_OS_dropStaged 5 = .ok (.invokevirtual 90, 3) := by decide +kernel
theorem d_OS_dropStaged_8 : decode b_OS_dropStaged 8 = .ok (.istore_n 2, 1) := by decide +kernel
theorem d_OS_dropStaged_9 : decode b_OS_dropStaged 9 = .ok (.iconst 0, 1) := by decide +kernel
theorem d_OS_dropStaged_10 : decode b_OS_dropStaged 10 = .ok (.istore_n 3, 1) := by decide +kernel
theorem d_OS_dropStaged_11 : decode b_OS_dropStaged 11 = .ok (.iload_n 3, 1) := by decide +kernel
theorem d_OS_dropStaged_12 : decode b_OS_dropStaged 12 = .ok (.bipush 40, 2) := by decide +kernel
theorem d_OS_dropStaged_14 : decode b_OS_dropStaged 14 = .ok (.if_icmp .ge 39, 3) := by decide +kernel
theorem d_OS_dropStaged_17 : decode b_OS_dropStaged 17 = .ok (.aload_n 0, 1) := by decide +kernel
theorem d_OS_dropStaged_18 : decode b_OS_dropStaged 18 = .ok (.iload_n 2, 1) := by decide +kernel
theorem d_OS_dropStaged_19 : decode b_OS_dropStaged 19 = .ok (.iload_n 3, 1) := by decide +kernel
theorem d_OS_dropStaged_20 : decode b_OS_dropStaged 20 = .ok (.invokevirtual 93, 3) := by decide +kernel
theorem d_OS_dropStaged_23 : decode b_OS_dropStaged 23 = .ok (.istore 4, 2) := by decide +kernel
theorem d_OS_dropStaged_25 : decode b_OS_dropStaged 25 = .ok (.aload_n 0, 1) := by decide +kernel
theorem d_OS_dropStaged_26 : decode b_OS_dropStaged 26 = .ok (.getfield 30, 3) := by decide +kernel
theorem d_OS_dropStaged_29 : decode b_OS_dropStaged 29 = .ok (.iload 4, 2) := by decide +kernel
theorem d_OS_dropStaged_31 : decode b_OS_dropStaged 31 = .ok (.iload_n 1, 1) := by decide +kernel
theorem d_OS_dropStaged_32 : decode b_OS_dropStaged 32 = .ok (.invokevirtual 97, 3) := by decide +kernel
theorem d_OS_dropStaged_35 : decode b_OS_dropStaged 35 = .ok (.ifCond .eq 12, 3) := by decide +kernel
theorem d_OS_dropStaged_38 : decode b_OS_dropStaged 38 = .ok (.aload_n 0, 1) := by decide +kernel
theorem d_OS_dropStaged_39 : decode b_OS_dropStaged 39 = .ok (.getfield 30, 3) := by decide +kernel
theorem d_OS_dropStaged_42 : decode b_OS_dropStaged 42 = .ok (.iload 4, 2) := by decide +kernel
theorem d_OS_dropStaged_44 : decode b_OS_dropStaged 44 = .ok (.invokevirtual 149, 3) := by decide +kernel
theorem d_OS_dropStaged_47 : decode b_OS_dropStaged 47 = .ok (.iinc 3 1, 3) := by decide +kernel
theorem d_OS_dropStaged_50 : decode b_OS_dropStaged 50 = .ok (.goto (-39), 3) := by decide +kernel
theorem d_OS_dropStaged_53 : decode b_OS_dropStaged 53 = .ok (.return_, 1) := by decide +kernel
theorem d_OS_targetAt_0 : decode b_OS_targetAt 0 = .ok (.aload_n 0, 1) := by decide +kernel
theorem d_OS_targetAt_1 : decode b_OS_targetAt 1 = .ok (.getfield 19, 3) := by decide +kernel
theorem d_OS_targetAt_4 : decode b_OS_targetAt 4 = .ok (.aload_n 0, 1) := by decide +kernel
theorem d_OS_targetAt_5 : decode b_OS_targetAt 5 = .ok (.getfield 26, 3) := by decide +kernel
theorem d_OS_targetAt_8 : decode b_OS_targetAt 8 = .ok (.iload_n 1, 1) := by decide +kernel
theorem d_OS_targetAt_9 : decode b_OS_targetAt 9 = .ok (.invokevirtual 168, 3) := by decide +kernel
theorem d_OS_targetAt_12 : decode b_OS_targetAt 12 = .ok (.invokevirtual 200, 3) := by decide +kernel
theorem d_OS_targetAt_15 : decode b_OS_targetAt 15 = .ok (.ireturn, 1) := by decide +kernel
theorem d_OS_slotOf_0 : decode b_OS_slotOf 0 = .ok (.iload_n 1, 1) := by decide +kernel
theorem d_OS_slotOf_1 : decode b_OS_slotOf 1 = .ok (.invokestatic 66, 3) := by decide +kernel
theorem d_OS_slotOf_4 : decode b_OS_slotOf 4 = .ok (.ifCond .eq 14, 3) := by decide +kernel
theorem d_OS_slotOf_7 : decode b_OS_slotOf 7 = .ok (.aload_n 0, 1) := by decide +kernel
theorem d_OS_slotOf_8 : decode b_OS_slotOf 8 = .ok (.getfield 12, 3) := by decide +kernel
theorem d_OS_slotOf_11 : decode b_OS_slotOf 11 = .ok (.iload_n 2, 1) := by decide +kernel
theorem d_OS_slotOf_12 : decode b_OS_slotOf 12 = .ok (.invokevirtual 87, 3) := by decide +kernel
theorem d_OS_slotOf_15 : decode b_OS_slotOf 15 = .ok (.ifCond .ne 5, 3) := by decide +kernel
theorem d_OS_slotOf_18 : decode b_OS_slotOf 18 = .ok (.iconst (-1), 1) := by decide +kernel
theorem d_OS_slotOf_19 : decode b_OS_slotOf 19 = .ok (.ireturn, 1) := by decide +kernel
theorem d_OS_slotOf_20 : decode b_OS_slotOf 20 = .ok (.iload_n 1, 1) := by decide +kernel
theorem d_OS_slotOf_21 : decode b_OS_slotOf 21 = .ok (.bipush 40, 2) := by decide +kernel
theorem d_OS_slotOf_23 : decode b_OS_slotOf 23 = .ok (.imul, 1) := by decide +kernel
theorem d_OS_slotOf_24 : decode b_OS_slotOf 24 = .ok (.iload_n 2, 1) := by decide +kernel
theorem d_OS_slotOf_25 : decode b_OS_slotOf 25 = .ok (.iadd, 1) := by decide +kernel
theorem d_OS_slotOf_26 : decode b_OS_slotOf 26 = .ok (.ireturn, 1) := by decide +kernel
theorem d_OS_isTarget_0 : decode b_OS_isTarget 0 = .ok (.iload_n 0, 1) := by decide +kernel
theorem d_OS_isTarget_1 : decode b_OS_isTarget 1 = .ok (.ifCond .lt 13, 3) := by decide +kernel
theorem d_OS_isTarget_4 : decode b_OS_isTarget 4 = .ok (.iload_n 0, 1) := by decide +kernel
theorem d_OS_isTarget_5 : decode b_OS_isTarget 5 = .ok (.bipush 12, 2) := by decide +kernel
theorem d_OS_isTarget_7 : decode b_OS_isTarget 7 = .ok (.if_icmp .ge 7, 3) := by decide +kernel
theorem d_OS_isTarget_10 : decode b_OS_isTarget 10 = .ok (.iconst 1, 1) := by decide +kernel
theorem d_OS_isTarget_11 : decode b_OS_isTarget 11 = .ok (.goto 4, 3) := by decide +kernel
theorem d_OS_isTarget_14 : decode b_OS_isTarget 14 = .ok (.iconst 0, 1) := by decide +kernel
theorem d_OS_isTarget_15 : decode b_OS_isTarget 15 = .ok (.ireturn, 1) := by decide +kernel
theorem d_OS_isConfiguration_0 : decode b_OS_isConfiguration 0 = .ok (.iload_n 0, 1) := by decide +kernel
theorem d_OS_isConfiguration_1 : decode b_OS_isConfiguration 1 = .ok (.ifCond .lt 12, 3) := by decide +kernel
theorem d_OS_isConfiguration_4 : decode b_OS_isConfiguration 4 = .ok (.iload_n 0, 1) := by decide +kernel
theorem d_OS_isConfiguration_5 : decode b_OS_isConfiguration 5 = .ok (.iconst 4, 1) := by decide +kernel
theorem d_OS_isConfiguration_6 : decode b_OS_isConfiguration 6 = .ok (.if_icmp .ge 7, 3) := by decide +kernel
theorem d_OS_isConfiguration_9 : decode b_OS_isConfiguration 9 = .ok (.iconst 1, 1) := by decide +kernel
theorem d_OS_isConfiguration_10 : decode b_OS_isConfiguration 10 = .ok (.goto 4, 3) := by decide +kernel
theorem d_OS_isConfiguration_13 : decode b_OS_isConfiguration 13 = .ok (.iconst 0, 1) := by decide +kernel
theorem d_OS_isConfiguration_14 : decode b_OS_isConfiguration 14 = .ok (.ireturn, 1) := by decide +kernel
theorem d_OS_isRun_0 : decode b_OS_isRun 0 = .ok (.iload_n 0, 1) := by decide +kernel
theorem d_OS_isRun_1 : decode b_OS_isRun 1 = .ok (.ifCond .lt 13, 3) := by decide +kernel
theorem d_OS_isRun_4 : decode b_OS_isRun 4 = .ok (.iload_n 0, 1) := by decide +kernel
theorem d_OS_isRun_5 : decode b_OS_isRun 5 = .ok (.bipush 8, 2) := by decide +kernel
theorem d_OS_isRun_7 : decode b_OS_isRun 7 = .ok (.if_icmp .ge 7, 3) := by decide +kernel
theorem d_OS_isRun_10 : decode b_OS_isRun 10 = .ok (.iconst 1, 1) := by decide +kernel
theorem d_OS_isRun_11 : decode b_OS_isRun 11 = .ok (.goto 4, 3) := by decide +kernel
theorem d_OS_isRun_14 : decode b_OS_isRun 14 = .ok (.iconst 0, 1) := by decide +kernel
theorem d_OS_isRun_15 : decode b_OS_isRun 15 = .ok (.ireturn, 1) := by decide +kernel
theorem d_OS_find_0 : decode b_OS_find 0 = .ok (.iconst 0, 1) := by decide +kernel
theorem d_OS_find_1 : decode b_OS_find 1 = .ok (.istore 4, 2) := by decide +kernel
theorem d_OS_find_3 : decode b_OS_find 3 = .ok (.iload 4, 2) := by decide +kernel
theorem d_OS_find_5 : decode b_OS_find 5 = .ok (.iload_n 1, 1) := by decide +kernel
theorem d_OS_find_6 : decode b_OS_find 6 = .ok (.if_icmp .ge 28, 3) := by decide +kernel
theorem d_OS_find_9 : decode b_OS_find 9 = .ok (.iload 4, 2) := by decide +kernel
theorem d_OS_find_11 : decode b_OS_find 11 = .ok (.aload_n 0, 1) := by decide +kernel
theorem d_OS_find_12 : decode b_OS_find 12 = .ok (.arraylength, 1) := by decide +kernel
theorem d_OS_find_13 : decode b_OS_find 13 = .ok (.if_icmp .ge 21, 3) := by decide +kernel
theorem d_OS_find_16 : decode b_OS_find 16 = .ok (.aload_n 0, 1) := by decide +kernel
theorem d_OS_find_17 : decode b_OS_find 17 = .ok (.iload 4, 2) := by decide +kernel
theorem d_OS_find_19 : decode b_OS_find 19 = .ok (.laload, 1) := by decide +kernel
theorem d_OS_find_20 : decode b_OS_find 20 = .ok (.lload_n 2, 1) := by decide +kernel
theorem d_OS_find_21 : decode b_OS_find 21 = .ok (.lcmp, 1) := by decide +kernel
theorem d_OS_find_22 : decode b_OS_find 22 = .ok (.ifCond .ne 6, 3) := by decide +kernel
theorem d_OS_find_25 : decode b_OS_find 25 = .ok (.iload 4, 2) := by decide +kernel
theorem d_OS_find_27 : decode b_OS_find 27 = .ok (.ireturn, 1) := by decide +kernel
theorem d_OS_find_28 : decode b_OS_find 28 = .ok (.iinc 4 1, 3) := by decide +kernel
theorem d_OS_find_31 : decode b_OS_find 31 = .ok (.goto (-28), 3) := by decide +kernel
theorem d_OS_find_34 : decode b_OS_find 34 = .ok (.iconst (-1), 1) := by decide +kernel
theorem d_OS_find_35 : decode b_OS_find 35 = .ok (.ireturn, 1) := by decide +kernel
