theorem d_PT_init_0 : decode b_PT_init 0 = .ok (.aload_n 0, 1) := by decide +kernel
theorem d_PT_init_1 : decode b_PT_init 1 = .ok (.invokespecial 3, 3) := by decide +kernel
theorem d_PT_init_4 : decode b_PT_init 4 = .ok (.aload_n 0, 1) := by decide +kernel
theorem d_PT_init_5 : decode b_PT_init 5 = .ok (.bipush 40, 2) := by decide +kernel
theorem d_PT_init_7 : decode b_PT_init 7 = .ok (.newarray .int, 2) := by decide +kernel
theorem d_PT_init_9 : decode b_PT_init 9 = .ok (.putfield 9, 3) := by decide +kernel
theorem d_PT_init_12 : decode b_PT_init 12 = .ok (.aload_n 0, 1) := by decide +kernel
theorem d_PT_init_13 : decode b_PT_init 13 = .ok (.iconst 0, 1) := by decide +kernel
theorem d_PT_init_14 : decode b_PT_init 14 = .ok (.putfield 15, 3) := by decide +kernel
theorem d_PT_init_17 : decode b_PT_init 17 = .ok (.return_, 1) := by decide +kernel
theorem d_PT_has_0 : decode b_PT_has 0 = .ok (.iload_n 1, 1) := by decide +kernel
theorem d_PT_has_1 : decode b_PT_has 1 = .ok (.ifCond .lt 15, 3) := by decide +kernel
theorem d_PT_has_4 : decode b_PT_has 4 = .ok (.iload_n 1, 1) := by decide +kernel
theorem d_PT_has_5 : decode b_PT_has 5 = .ok (.aload_n 0, 1) := by decide +kernel
theorem d_PT_has_6 : decode b_PT_has 6 = .ok (.getfield 15, 3) := by decide +kernel
theorem d_PT_has_9 : decode b_PT_has 9 = .ok (.if_icmp .ge 7, 3) := by decide +kernel
theorem d_PT_has_12 : decode b_PT_has 12 = .ok (.iconst 1, 1) := by decide +kernel
theorem d_PT_has_13 : decode b_PT_has 13 = .ok (.goto 4, 3) := by decide +kernel
theorem d_PT_has_16 : decode b_PT_has 16 = .ok (.iconst 0, 1) := by decide +kernel
theorem d_PT_has_17 : decode b_PT_has 17 = .ok (.ireturn, 1) := by decide +kernel
theorem d_PT_grow_0 : decode b_PT_grow 0 = .ok (.aload_n 0, 1) := by decide +kernel
theorem d_PT_grow_1 : decode b_PT_grow 1 = .ok (.getfield 15, 3) := by decide +kernel
theorem d_PT_grow_4 : decode b_PT_grow 4 = .ok (.bipush 40, 2) := by decide +kernel
theorem d_PT_grow_6 : decode b_PT_grow 6 = .ok (.if_icmp .ge 16, 3) := by decide +kernel
theorem d_PT_grow_9 : decode b_PT_grow 9 = .ok (.iload_n 1, 1) := by decide +kernel
theorem d_PT_grow_10 : decode b_PT_grow 10 = .ok (.iconst (-1), 1) := by decide +kernel
theorem d_PT_grow_11 : decode b_PT_grow 11 = .ok (.if_icmp .eq 13, 3) := by decide +kernel
theorem d_PT_grow_14 : decode b_PT_grow 14 = .ok (.aload_n 0, 1) := by decide +kernel
theorem d_PT_grow_15 : decode b_PT_grow 15 = .ok (.iload_n 1, 1) := by decide +kernel
theorem d_PT_grow_16 : decode b_PT_grow 16 = .ok (.invokevirtual 19, 3) := by decide +kernel
theorem d_PT_grow_19 : decode b_PT_grow 19 = .ok (.ifCond .ne 5, 3) := by decide +kernel
theorem d_PT_grow_22 : decode b_PT_grow 22 = .ok (.iconst (-1), 1) := by decide +kernel
theorem d_PT_grow_23 : decode b_PT_grow 23 = .ok (.ireturn, 1) := by decide +kernel
theorem d_PT_grow_24 : decode b_PT_grow 24 = .ok (.aload_n 0, 1) := by decide +kernel
theorem d_PT_grow_25 : decode b_PT_grow 25 = .ok (.getfield 9, 3) := by decide +kernel
theorem d_PT_grow_28 : decode b_PT_grow 28 = .ok (.aload_n 0, 1) := by decide +kernel
theorem d_PT_grow_29 : decode b_PT_grow 29 = .ok (.getfield 15, 3) := by decide +kernel
theorem d_PT_grow_32 : decode b_PT_grow 32 = .ok (.iload_n 1, 1) := by decide +kernel
theorem d_PT_grow_33 : decode b_PT_grow 33 = .ok (.iastore, 1) := by decide +kernel
theorem d_PT_grow_34 : decode b_PT_grow 34 = .ok (.aload_n 0, 1) := by decide +kernel
theorem d_PT_grow_35 : decode b_PT_grow 35 = .ok (.dup, 1) := by decide +kernel
theorem d_PT_grow_36 : decode b_PT_grow 36 = .ok (.getfield 15, 3) := by decide +kernel
theorem d_PT_grow_39 : decode b_PT_grow 39 = .ok (.iconst 1, 1) := by decide +kernel
theorem d_PT_grow_40 : decode b_PT_grow 40 = .ok (.iadd, 1) := by decide +kernel
theorem d_PT_grow_41 : decode b_PT_grow 41 = .ok (.putfield 15, 3) := by decide +kernel
theorem d_PT_grow_44 : decode b_PT_grow 44 = .ok (.aload_n 0, 1) := by decide +kernel
theorem d_PT_grow_45 : decode b_PT_grow 45 = .ok (.getfield 15, 3) := by decide +kernel
theorem d_PT_grow_48 : decode b_PT_grow 48 = .ok (.iconst 1, 1) := by decide +kernel
theorem d_PT_grow_49 : decode b_PT_grow 49 = .ok (.isub, 1) := by decide +kernel
theorem d_PT_grow_50 : decode b_PT_grow 50 = .ok (.ireturn, 1) := by decide +kernel
theorem d_PT_meet_0 : decode b_PT_meet 0 = .ok (.aload_n 0, 1) := by decide +kernel
theorem d_PT_meet_1 : decode b_PT_meet 1 = .ok (.iload_n 1, 1) := by decide +kernel
theorem d_PT_meet_2 : decode b_PT_meet 2 = .ok (.invokevirtual 19, 3) := by decide +kernel
theorem d_PT_meet_5 : decode b_PT_meet 5 = .ok (.ifCond .eq 33, 3) := by decide +kernel
theorem d_PT_meet_8 : decode b_PT_meet 8 = .ok (.aload_n 0, 1) := by decide +kernel
theorem d_PT_meet_9 : decode b_PT_meet 9 = .ok (.iload_n 2, 1) := by decide +kernel
theorem d_PT_meet_10 : decode b_PT_meet 10 = .ok (.invokevirtual 19, 3) := by decide +kernel
theorem d_PT_meet_13 : decode b_PT_meet 13 = .ok (.ifCond .eq 25, 3) := by decide +kernel
theorem d_PT_meet_16 : decode b_PT_meet 16 = .ok (.aload_n 0, 1) := by decide +kernel
theorem d_PT_meet_17 : decode b_PT_meet 17 = .ok (.iload_n 1, 1) := by decide +kernel
theorem d_PT_meet_18 : decode b_PT_meet 18 = .ok (.iload_n 2, 1) := by decide +kernel
theorem d_PT_meet_19 : decode b_PT_meet 19 = .ok (.invokevirtual 23, 3) := by decide +kernel
theorem d_PT_meet_22 : decode b_PT_meet 22 = .ok (.ifCond .ne 12, 3) := by decide +kernel
theorem d_PT_meet_25 : decode b_PT_meet 25 = .ok (.aload_n 0, 1) := by decide +kernel
theorem d_PT_meet_26 : decode b_PT_meet 26 = .ok (.iload_n 2, 1) := by decide +kernel
theorem d_PT_meet_27 : decode b_PT_meet 27 = .ok (.iload_n 1, 1) := by decide +kernel
theorem d_PT_meet_28 : decode b_PT_meet 28 = .ok (.invokevirtual 23, 3) := by decide +kernel
theorem d_PT_meet_31 : decode b_PT_meet 31 = .ok (.ifCond .eq 7, 3) := by decide +kernel
theorem d_PT_meet_34 : decode b_PT_meet 34 = .ok (.iconst 1, 1) := by decide +kernel
theorem d_PT_meet_35 : decode b_PT_meet 35 = .ok (.goto 4, 3) := by decide +kernel
theorem d_PT_meet_38 : decode b_PT_meet 38 = .ok (.iconst 0, 1) := by decide +kernel
theorem d_PT_meet_39 : decode b_PT_meet 39 = .ok (.ireturn, 1) := by decide +kernel
theorem d_PT_isAtOrWithin_0 : decode b_PT_isAtOrWithin 0 = .ok (.iload_n 1, 1) := by decide +kernel
theorem d_PT_isAtOrWithin_1 : decode b_PT_isAtOrWithin 1 = .ok (.istore_n 3, 1) := by decide +kernel
theorem d_PT_isAtOrWithin_2 : decode b_PT_isAtOrWithin 2 = .ok (.iconst 0, 1) := by decide +kernel
theorem d_PT_isAtOrWithin_3 : decode b_PT_isAtOrWithin 3 = .ok (.istore 4, 2) := by decide +kernel
theorem d_PT_isAtOrWithin_5 : decode b_PT_isAtOrWithin 5 = .ok (.iload 4, 2) := by decide +kernel
theorem d_PT_isAtOrWithin_7 : decode b_PT_isAtOrWithin 7 = .ok (.bipush 40, 2) := by decide +kernel
theorem d_PT_isAtOrWithin_9 : decode b_PT_isAtOrWithin 9 = .ok (.if_icmp .ge 29, 3) := by decide +kernel
theorem d_PT_isAtOrWithin_12 : decode b_PT_isAtOrWithin 12 = .ok (.iload_n 3, 1) := by decide +kernel
theorem d_PT_isAtOrWithin_13 : decode b_PT_isAtOrWithin 13 = .ok (.iload_n 2, 1) := by decide +kernel
theorem d_PT_isAtOrWithin_14 : decode b_PT_isAtOrWithin 14 = .ok (.if_icmp .le 24, 3) := by decide +kernel
theorem d_PT_isAtOrWithin_17 : decode b_PT_isAtOrWithin 17 = .ok (.aload_n 0, 1) := by decide +kernel
theorem d_PT_isAtOrWithin_18 : decode b_PT_isAtOrWithin 18 = .ok (.iload_n 3, 1) := by decide +kernel
theorem d_PT_isAtOrWithin_19 : decode b_PT_isAtOrWithin 19 = .ok (.invokevirtual 19, 3) := by decide +kernel
theorem d_PT_isAtOrWithin_22 : decode b_PT_isAtOrWithin 22 = .ok (.ifCond .eq 16, 3) := by decide +kernel
theorem d_PT_isAtOrWithin_25 : decode b_PT_isAtOrWithin 25 = .ok (.aload_n 0, 1) := by decide +kernel
theorem d_PT_isAtOrWithin_26 : decode b_PT_isAtOrWithin 26 = .ok (.getfield 9, 3) := by decide +kernel
theorem d_PT_isAtOrWithin_29 : decode b_PT_isAtOrWithin 29 = .ok (.iload_n 3, 1) := by decide +kernel
theorem d_PT_isAtOrWithin_30 : decode b_PT_isAtOrWithin 30 = .ok (.iaload, 1) := by decide +kernel
theorem d_PT_isAtOrWithin_31 : decode b_PT_isAtOrWithin 31 = .ok (.istore_n 3, 1) := by decide +kernel
theorem d_PT_isAtOrWithin_32 : decode b_PT_isAtOrWithin 32 = .ok (.iinc 4 1, 3) := by decide +kernel
theorem d_PT_isAtOrWithin_35 : decode b_PT_isAtOrWithin 35 = .ok (.goto (-30), 3) := by decide +kernel
theorem d_PT_isAtOrWithin_38 : decode b_PT_isAtOrWithin 38 = .ok (.iload_n 3, 1) := by decide +kernel
theorem d_PT_isAtOrWithin_39 : decode b_PT_isAtOrWithin 39 = .ok (.iload_n 2, 1) := by decide +kernel
theorem d_PT_isAtOrWithin_40 : decode b_PT_isAtOrWithin 40 = .ok (.if_icmp .ne 7, 3) := by decide +kernel
theorem d_PT_isAtOrWithin_43 : decode b_PT_isAtOrWithin 43 = .ok (.iconst 1, 1) := by decide +kernel
theorem d_PT_isAtOrWithin_44 : decode b_PT_isAtOrWithin 44 = .ok (.goto 4, 3) := by decide +kernel
theorem d_PT_isAtOrWithin_47 : decode b_PT_isAtOrWithin 47 = .ok (.iconst 0, 1) := by decide +kernel
theorem d_PT_isAtOrWithin_48 : decode b_PT_isAtOrWithin 48 = .ok (.ireturn, 1) := by decide +kernel
theorem d_SB_init_0 : decode b_SB_init 0 = .ok (.aload_n 0, 1) := by decide +kernel
theorem d_SB_init_1 : decode b_SB_init 1 = .ok (.invokespecial 3, 3) := by decide +kernel
theorem d_SB_init_4 : decode b_SB_init 4 = .ok (.aload_n 0, 1) := by decide +kernel
theorem d_SB_init_5 : decode b_SB_init 5 = .ok (.bipush 80, 2) := by decide +kernel
theorem d_SB_init_7 : decode b_SB_init 7 = .ok (.newarray .int, 2) := by decide +kernel
theorem d_SB_init_9 : decode b_SB_init 9 = .ok (.putfield 9, 3) := by decide +kernel
theorem d_SB_init_12 : decode b_SB_init 12 = .ok (.aload_n 0, 1) := by decide +kernel
theorem d_SB_init_13 : decode b_SB_init 13 = .ok (.bipush 80, 2) := by decide +kernel
theorem d_SB_init_15 : decode b_SB_init 15 = .ok (.newarray .int, 2) := by decide +kernel
theorem d_SB_init_17 : decode b_SB_init 17 = .ok (.putfield 15, 3) := by decide +kernel
theorem d_SB_init_20 : decode b_SB_init 20 = .ok (.aload_n 0, 1) := by decide +kernel
theorem d_SB_init_21 : decode b_SB_init 21 = .ok (.bipush 80, 2) := by decide +kernel
theorem d_SB_init_23 : decode b_SB_init 23 = .ok (.newarray .int, 2) := by decide +kernel
theorem d_SB_init_25 : decode b_SB_init 25 = .ok (.putfield 18, 3) := by decide +kernel
theorem d_SB_init_28 : decode b_SB_init 28 = .ok (.aload_n 0, 1) := by decide +kernel
theorem d_SB_init_29 : decode b_SB_init 29 = .ok (.bipush 80, 2) := by decide +kernel
theorem d_SB_init_31 : decode b_SB_init 31 = .ok (.newarray .boolean, 2) := by decide +kernel
theorem d_SB_init_33 : decode b_SB_init 33 = .ok (.putfield 21, 3) := by decide +kernel
theorem d_SB_init_36 : decode b_SB_init 36 = .ok (.aload_n 0, 1) := by decide +kernel
theorem d_SB_init_37 : decode b_SB_init 37 = .ok (.iconst 0, 1) := by decide +kernel
theorem d_SB_init_38 : decode b_SB_init 38 = .ok (.putfield 25, 3) := by decide +kernel
theorem d_SB_init_41 : decode b_SB_init 41 = .ok (.return_, 1) := by decide +kernel
theorem d_SB_isFull_0 : decode b_SB_isFull 0 = .ok (.aload_n 0, 1) := by decide +kernel
theorem d_SB_isFull_1 : decode b_SB_isFull 1 = .ok (.getfield 25, 3) := by decide +kernel
theorem d_SB_isFull_4 : decode b_SB_isFull 4 = .ok (.bipush 80, 2) := by decide +kernel
theorem d_SB_isFull_6 : decode b_SB_isFull 6 = .ok (.if_icmp .lt 7, 3) := by decide +kernel
theorem d_SB_isFull_9 : decode b_SB_isFull 9 = .ok (.iconst 1, 1) := by decide +kernel
theorem d_SB_isFull_10 : decode b_SB_isFull 10 = .ok (.goto 4, 3) := by decide +kernel
theorem d_SB_isFull_13 : decode b_SB_isFull 13 = .ok (.iconst 0, 1) := by decide +kernel
theorem d_SB_isFull_14 : decode b_SB_isFull 14 = .ok (.ireturn, 1) := by decide +kernel
theorem d_SB_has_0 : decode b_SB_has 0 = .ok (.iload_n 1, 1) := by decide +kernel
theorem d_SB_has_1 : decode b_SB_has 1 = .ok (.ifCond .lt 15, 3) := by decide +kernel
theorem d_SB_has_4 : decode b_SB_has 4 = .ok (.iload_n 1, 1) := by decide +kernel
theorem d_SB_has_5 : decode b_SB_has 5 = .ok (.aload_n 0, 1) := by decide +kernel
theorem d_SB_has_6 : decode b_SB_has 6 = .ok (.getfield 25, 3) := by decide +kernel
theorem d_SB_has_9 : decode b_SB_has 9 = .ok (.if_icmp .ge 7, 3) := by decide +kernel
theorem d_SB_has_12 : decode b_SB_has 12 = .ok (.iconst 1, 1) := by decide +kernel
theorem d_SB_has_13 : decode b_SB_has 13 = .ok (.goto 4, 3) := by decide +kernel
theorem d_SB_has_16 : decode b_SB_has 16 = .ok (.iconst 0, 1) := by decide +kernel
theorem d_SB_has_17 : decode b_SB_has 17 = .ok (.ireturn, 1) := by decide +kernel
theorem d_SB_isOpen_0 : decode b_SB_isOpen 0 = .ok (.aload_n 0, 1) := by decide +kernel
theorem d_SB_isOpen_1 : decode b_SB_isOpen 1 = .ok (.iload_n 1, 1) := by decide +kernel
theorem d_SB_isOpen_2 : decode b_SB_isOpen 2 = .ok (.invokevirtual 29, 3) := by decide +kernel
theorem d_SB_isOpen_5 : decode b_SB_isOpen 5 = .ok (.ifCond .eq 16, 3) := by decide +kernel
theorem d_SB_isOpen_8 : decode b_SB_isOpen 8 = .ok (.aload_n 0, 1) := by decide +kernel
theorem d_SB_isOpen_9 : decode b_SB_isOpen 9 = .ok (.getfield 21, 3) := by decide +kernel
theorem d_SB_isOpen_12 : decode b_SB_isOpen 12 = .ok (.iload_n 1, 1) := by decide +kernel
theorem d_SB_isOpen_13 : decode b_SB_isOpen 13 = .ok (.baload, 1) := by decide +kernel
theorem d_SB_isOpen_14 : decode b_SB_isOpen 14 = .ok (.ifCond .eq 7, 3) := by decide +kernel
theorem d_SB_isOpen_17 : decode b_SB_isOpen 17 = .ok (.iconst 1, 1) := by decide +kernel
theorem d_SB_isOpen_18 : decode b_SB_isOpen 18 = .ok (.goto 4, 3) := by decide +kernel
theorem d_SB_isOpen_21 : decode b_SB_isOpen 21 = .ok (.iconst 0, 1) := by decide +kernel
theorem d_SB_isOpen_22 : decode b_SB_isOpen 22 = .ok (.ireturn, 1) := by decide +kernel
theorem d_SB_open_0 : decode b_SB_open 0 = .ok (.aload_n 0, 1) := by decide +kernel
theorem d_SB_open_1 : decode b_SB_open 1 = .ok (.invokevirtual 33, 3) := by decide +kernel
theorem d_SB_open_4 : decode b_SB_open 4 = .ok (.ifCond .eq 5, 3) := by decide +kernel
theorem d_SB_open_7 : decode b_SB_open 7 = .ok (.iconst (-1), 1) := by decide +kernel
theorem d_SB_open_8 : decode b_SB_open 8 = .ok (.ireturn, 1) := by decide +kernel
theorem d_SB_open_9 : decode b_SB_open 9 = .ok (.aload_n 0, 1) := by decide +kernel
theorem d_SB_open_10 : decode b_SB_open 10 = .ok (.getfield 9, 3) := by decide +kernel
theorem d_SB_open_13 : decode b_SB_open 13 = .ok (.aload_n 0, 1) := by decide +kernel
theorem d_SB_open_14 : decode b_SB_open 14 = .ok (.getfield 25, 3) := by decide +kernel
theorem d_SB_open_17 : decode b_SB_open 17 = .ok (.iload_n 1, 1) := by decide +kernel
theorem d_SB_open_18 : decode b_SB_open 18 = .ok (.iastore, 1) := by decide +kernel
theorem d_SB_open_19 : decode b_SB_open 19 = .ok (.aload_n 0, 1) := by decide +kernel
theorem d_SB_open_20 : decode b_SB_open 20 = .ok (.getfield 15, 3) := by decide +kernel
theorem d_SB_open_23 : decode b_SB_open 23 = .ok (.aload_n 0, 1) := by decide +kernel
theorem d_SB_open_24 : decode b_SB_open 24 = .ok (.getfield 25, 3) := by decide +kernel
theorem d_SB_open_27 : decode b_SB_open 27 = .ok (.iload_n 2, 1) := by decide +kernel
theorem d_SB_open_28 : decode b_SB_open 28 = .ok (.iastore, 1) := by decide +kernel
theorem d_SB_open_29 : decode b_SB_open 29 = .ok (.aload_n 0, 1) := by decide +kernel
theorem d_SB_open_30 : decode b_SB_open 30 = .ok (.getfield 18, 3) := by decide +kernel
theorem d_SB_open_33 : decode b_SB_open 33 = .ok (.aload_n 0, 1) := by decide +kernel
theorem d_SB_open_34 : decode b_SB_open 34 = .ok (.getfield 25, 3) := by decide +kernel
theorem d_SB_open_37 : decode b_SB_open 37 = .ok (.iload_n 3, 1) := by decide +kernel
theorem d_SB_open_38 : decode b_SB_open 38 = .ok (.iastore, 1) := by decide +kernel
theorem d_SB_open_39 : decode b_SB_open 39 = .ok (.aload_n 0, 1) := by decide +kernel
theorem d_SB_open_40 : decode b_SB_open 40 = .ok (.getfield 21, 3) := by decide +kernel
theorem d_SB_open_43 : decode b_SB_open 43 = .ok (.aload_n 0, 1) := by decide +kernel
theorem d_SB_open_44 : decode b_SB_open 44 = .ok (.getfield 25, 3) := by decide +kernel
theorem d_SB_open_47 : decode b_SB_open 47 = .ok (.iconst 1, 1) := by decide +kernel
theorem d_SB_open_48 : decode b_SB_open 48 = .ok (.bastore, 1) := by decide +kernel
theorem d_SB_open_49 : decode b_SB_open 49 = .ok (.aload_n 0, 1) := by decide +kernel
theorem d_SB_open_50 : decode b_SB_open 50 = .ok (.dup, 1) := by decide +kernel
theorem d_SB_open_51 : decode b_SB_open 51 = .ok (.getfield 25, 3) := by decide +kernel
theorem d_SB_open_54 : decode b_SB_open 54 = .ok (.iconst 1, 1) := by decide +kernel
theorem d_SB_open_55 : decode b_SB_open 55 = .ok (.iadd, 1) := by decide +kernel
theorem d_SB_open_56 : decode b_SB_open 56 = .ok (.putfield 25, 3) := by decide +kernel
theorem d_SB_open_59 : decode b_SB_open 59 = .ok (.aload_n 0, 1) := by decide +kernel
theorem d_SB_open_60 : decode b_SB_open 60 = .ok (.getfield 25, 3) := by decide +kernel
theorem d_SB_open_63 : decode b_SB_open 63 = .ok (.iconst 1, 1) := by decide +kernel
theorem d_SB_open_64 : decode b_SB_open 64 = .ok (.isub, 1) := by decide +kernel
theorem d_SB_open_65 : decode b_SB_open 65 = .ok (.ireturn, 1) := by decide +kernel
theorem d_SB_close_0 : decode b_SB_close 0 = .ok (.aload_n 0, 1) := by decide +kernel
theorem d_SB_close_1 : decode b_SB_close 1 = .ok (.iload_n 1, 1) := by decide +kernel
theorem d_SB_close_2 : decode b_SB_close 2 = .ok (.invokevirtual 29, 3) := by decide +kernel
theorem d_SB_close_5 : decode b_SB_close 5 = .ok (.ifCond .eq 10, 3) := by decide +kernel
theorem d_SB_close_8 : decode b_SB_close 8 = .ok (.aload_n 0, 1) := by decide +kernel
theorem d_SB_close_9 : decode b_SB_close 9 = .ok (.getfield 21, 3) := by decide +kernel
theorem d_SB_close_12 : decode b_SB_close 12 = .ok (.iload_n 1, 1) := by decide +kernel
theorem d_SB_close_13 : decode b_SB_close 13 = .ok (.iconst 0, 1) := by decide +kernel
theorem d_SB_close_14 : decode b_SB_close 14 = .ok (.bastore, 1) := by decide +kernel
theorem d_SB_close_15 : decode b_SB_close 15 = .ok (.return_, 1) := by decide +kernel
theorem d_SB_targetOf_0 : decode b_SB_targetOf 0 = .ok (.aload_n 0, 1) := by decide +kernel
theorem d_SB_targetOf_1 : decode b_SB_targetOf 1 = .ok (.iload_n 1, 1) := by decide +kernel
theorem d_SB_targetOf_2 : decode b_SB_targetOf 2 = .ok (.invokevirtual 29, 3) := by decide +kernel
theorem d_SB_targetOf_5 : decode b_SB_targetOf 5 = .ok (.ifCond .eq 12, 3) := by decide +kernel
theorem d_SB_targetOf_8 : decode b_SB_targetOf 8 = .ok (.aload_n 0, 1) := by decide +kernel
theorem d_SB_targetOf_9 : decode b_SB_targetOf 9 = .ok (.getfield 9, 3) := by decide +kernel
theorem d_SB_targetOf_12 : decode b_SB_targetOf 12 = .ok (.iload_n 1, 1) := by decide +kernel
theorem d_SB_targetOf_13 : decode b_SB_targetOf 13 = .ok (.iaload, 1) := by decide +kernel
theorem d_SB_targetOf_14 : decode b_SB_targetOf 14 = .ok (.goto 4, 3) := by decide +kernel
theorem d_SB_targetOf_17 : decode b_SB_targetOf 17 = .ok (.iconst (-1), 1) := by decide +kernel
theorem d_SB_targetOf_18 : decode b_SB_targetOf 18 = .ok (.ireturn, 1) := by decide +kernel
theorem d_SB_configurationOf_0 : decode b_SB_configurationOf 0 = .ok (.aload_n 0, 1) := by decide +kernel
theorem d_SB_configurationOf_1 : decode b_SB_configurationOf 1 = .ok (.iload_n 1, 1) := by decide +kernel
theorem d_SB_configurationOf_2 : decode b_SB_configurationOf 2 = .ok (.invokevirtual 29, 3) := by decide +kernel
theorem d_SB_configurationOf_5 : decode b_SB_configurationOf 5 = .ok (.ifCond .eq 12, 3) := by decide +kernel
theorem d_SB_configurationOf_8 : decode b_SB_configurationOf 8 = .ok (.aload_n 0, 1) := by decide +kernel
theorem d_SB_configurationOf_9 : decode b_SB_configurationOf 9 = .ok (.getfield 15, 3) := by decide +kernel
theorem d_SB_configurationOf_12 : decode b_SB_configurationOf 12 = .ok (.iload_n 1, 1) := by decide +kernel
theorem d_SB_configurationOf_13 : decode b_SB_configurationOf 13 = .ok (.iaload, 1) := by decide +kernel
theorem d_SB_configurationOf_14 : decode b_SB_configurationOf 14 = .ok (.goto 4, 3) := by decide +kernel
theorem d_SB_configurationOf_17 : decode b_SB_configurationOf 17 = .ok (.iconst (-1), 1) := by decide +kernel
theorem d_SB_configurationOf_18 : decode b_SB_configurationOf 18 = .ok (.ireturn, 1) := by decide +kernel
theorem d_SB_runOf_0 : decode b_SB_runOf 0 = .ok (.aload_n 0, 1) := by decide +kernel
theorem d_SB_runOf_1 : decode b_SB_runOf 1 = .ok (.iload_n 1, 1) := by decide +kernel
theorem d_SB_runOf_2 : decode b_SB_runOf 2 = .ok (.invokevirtual 29, 3) := by decide +kernel
theorem d_SB_runOf_5 : decode b_SB_runOf 5 = .ok (.ifCond .eq 12, 3) := by decide +kernel
theorem d_SB_runOf_8 : decode b_SB_runOf 8 = .ok (.aload_n 0, 1) := by decide +kernel
theorem d_SB_runOf_9 : decode b_SB_runOf 9 = .ok (.getfield 18, 3) := by decide +kernel
theorem d_SB_runOf_12 : decode b_SB_runOf 12 = .ok (.iload_n 1, 1) := by decide +kernel
theorem d_SB_runOf_13 : decode b_SB_runOf 13 = .ok (.iaload, 1) := by decide +kernel
theorem d_SB_runOf_14 : decode b_SB_runOf 14 = .ok (.goto 4, 3) := by decide +kernel
theorem d_SB_runOf_17 : decode b_SB_runOf 17 = .ok (.iconst (-1), 1) := by decide +kernel
theorem d_SB_runOf_18 : decode b_SB_runOf 18 = .ok (.ireturn, 1) := by decide +kernel
theorem d_SB_hasOpenOne_0 : decode b_SB_hasOpenOne 0 = .ok (.iconst 0, 1) := by decide +kernel
theorem d_SB_hasOpenOne_1 : decode b_SB_hasOpenOne 1 = .ok (.istore_n 3, 1) := by decide +kernel
theorem d_SB_hasOpenOne_2 : decode b_SB_hasOpenOne 2 = .ok (.iload_n 3, 1) := by decide +kernel
theorem d_SB_hasOpenOne_3 : decode b_SB_hasOpenOne 3 = .ok (.bipush 80, 2) := by decide +kernel
theorem d_SB_hasOpenOne_5 : decode b_SB_hasOpenOne 5 = .ok (.if_icmp .ge 39, 3) := by decide +kernel
theorem d_SB_hasOpenOne_8 : decode b_SB_hasOpenOne 8 = .ok (.aload_n 0, 1) := by decide +kernel
theorem d_SB_hasOpenOne_9 : decode b_SB_hasOpenOne 9 = .ok (.iload_n 3, 1) := by decide +kernel
theorem d_SB_hasOpenOne_10 : decode b_SB_hasOpenOne 10 = .ok (.invokevirtual 37, 3) := by decide +kernel
theorem d_SB_hasOpenOne_13 : decode b_SB_hasOpenOne 13 = .ok (.ifCond .eq 25, 3) := by decide +kernel
theorem d_SB_hasOpenOne_16 : decode b_SB_hasOpenOne 16 = .ok (.aload_n 0, 1) := by decide +kernel
theorem d_SB_hasOpenOne_17 : decode b_SB_hasOpenOne 17 = .ok (.getfield 9, 3) := by decide +kernel
theorem d_SB_hasOpenOne_20 : decode b_SB_hasOpenOne 20 = .ok (.iload_n 3, 1) := by decide +kernel
theorem d_SB_hasOpenOne_21 : decode b_SB_hasOpenOne 21 = .ok (.iaload, 1) := by decide +kernel
theorem d_SB_hasOpenOne_22 : decode b_SB_hasOpenOne 22 = .ok (.iload_n 1, 1) := by decide +kernel
theorem d_SB_hasOpenOne_23 : decode b_SB_hasOpenOne 23 = .ok (.if_icmp .ne 15, 3) := by decide +kernel
theorem d_SB_hasOpenOne_26 : decode b_SB_hasOpenOne 26 = .ok (.aload_n 0, 1) := by decide +kernel
theorem d_SB_hasOpenOne_27 : decode b_SB_hasOpenOne 27 = .ok (.getfield 15, 3) := by decide +kernel
theorem d_SB_hasOpenOne_30 : decode b_SB_hasOpenOne 30 = .ok (.iload_n 3, 1) := by decide +kernel
theorem d_SB_hasOpenOne_31 : decode b_SB_hasOpenOne 31 = .ok (.iaload, 1) := by decide +kernel
theorem d_SB_hasOpenOne_32 : decode b_SB_hasOpenOne 32 = .ok (.iload_n 2, 1) := by decide +kernel
theorem d_SB_hasOpenOne_33 : decode b_SB_hasOpenOne 33 = .ok (.if_icmp .ne 5, 3) := by decide +kernel
theorem d_SB_hasOpenOne_36 : decode b_SB_hasOpenOne 36 = .ok (.iconst 1, 1) := by decide +kernel
theorem d_SB_hasOpenOne_37 : decode b_SB_hasOpenOne 37 = .ok (.ireturn, 1) := by decide +kernel
theorem d_SB_hasOpenOne_38 : decode b_SB_hasOpenOne 38 = .ok (.iinc 3 1, 3) := by decide +kernel
theorem d_SB_hasOpenOne_41 : decode b_SB_hasOpenOne 41 = .ok (.goto (-39), 3) := by decide +kernel
theorem d_SB_hasOpenOne_44 : decode b_SB_hasOpenOne 44 = .ok (.iconst 0, 1) := by decide +kernel
theorem d_SB_hasOpenOne_45 : decode b_SB_hasOpenOne 45 = .ok (.ireturn, 1) := by decide +kernel
theorem d_SB_hasOpenOneIn_0 : decode b_SB_hasOpenOneIn 0 = .ok (.iconst 0, 1) := by decide +kernel
theorem d_SB_hasOpenOneIn_1 : decode b_SB_hasOpenOneIn 1 = .ok (.istore_n 2, 1) := by decide +kernel
theorem d_SB_hasOpenOneIn_2 : decode b_SB_hasOpenOneIn 2 = .ok (.iload_n 2, 1) := by decide +kernel
theorem d_SB_hasOpenOneIn_3 : decode b_SB_hasOpenOneIn 3 = .ok (.bipush 80, 2) := by decide +kernel
theorem d_SB_hasOpenOneIn_5 : decode b_SB_hasOpenOneIn 5 = .ok (.if_icmp .ge 29, 3) := by decide +kernel
theorem d_SB_hasOpenOneIn_8 : decode b_SB_hasOpenOneIn 8 = .ok (.aload_n 0, 1) := by decide +kernel
theorem d_SB_hasOpenOneIn_9 : decode b_SB_hasOpenOneIn 9 = .ok (.iload_n 2, 1) := by decide +kernel
theorem d_SB_hasOpenOneIn_10 : decode b_SB_hasOpenOneIn 10 = .ok (.invokevirtual 37, 3) := by decide +kernel
theorem d_SB_hasOpenOneIn_13 : decode b_SB_hasOpenOneIn 13 = .ok (.ifCond .eq 15, 3) := by decide +kernel
theorem d_SB_hasOpenOneIn_16 : decode b_SB_hasOpenOneIn 16 = .ok (.aload_n 0, 1) := by decide +kernel
theorem d_SB_hasOpenOneIn_17 : decode b_SB_hasOpenOneIn 17 = .ok (.getfield 15, 3) := by decide +kernel
theorem d_SB_hasOpenOneIn_20 : decode b_SB_hasOpenOneIn 20 = .ok (.iload_n 2, 1) := by decide +kernel
theorem d_SB_hasOpenOneIn_21 : decode b_SB_hasOpenOneIn 21 = .ok (.iaload, 1) := by decide +kernel
theorem d_SB_hasOpenOneIn_22 : decode b_SB_hasOpenOneIn 22 = .ok (.iload_n 1, 1) := by decide +kernel
theorem d_SB_hasOpenOneIn_23 : decode b_SB_hasOpenOneIn 23 = .ok (.if_icmp .ne 5, 3) := by decide +kernel
theorem d_SB_hasOpenOneIn_26 : decode b_SB_hasOpenOneIn 26 = .ok (.iconst 1, 1) := by decide +kernel
theorem d_SB_hasOpenOneIn_27 : decode b_SB_hasOpenOneIn 27 = .ok (.ireturn, 1) := by decide +kernel
theorem d_SB_hasOpenOneIn_28 : decode b_SB_hasOpenOneIn 28 = .ok (.iinc 2 1, 3) := by decide +kernel
theorem d_SB_hasOpenOneIn_31 : decode b_SB_hasOpenOneIn 31 = .ok (.goto (-29), 3) := by decide +kernel
theorem d_SB_hasOpenOneIn_34 : decode b_SB_hasOpenOneIn 34 = .ok (.iconst 0, 1) := by decide +kernel
theorem d_SB_hasOpenOneIn_35 : decode b_SB_hasOpenOneIn 35 = .ok (.ireturn, 1) := by decide +kernel
theorem d_LT_init_0 : decode b_LT_init 0 = .ok (.aload_n 0, 1) := by decide +kernel
theorem d_LT_init_1 : decode b_LT_init 1 = .ok (.invokespecial 3, 3) := by decide +kernel
theorem d_LT_init_4 : decode b_LT_init 4 = .ok (.aload_n 0, 1) := by decide +kernel
theorem d_LT_init_5 : decode b_LT_init 5 = .ok (.sipush 160, 3) := by decide +kernel
theorem d_LT_init_8 : decode b_LT_init 8 = .ok (.newarray .long, 2) := by decide +kernel
theorem d_LT_init_10 : decode b_LT_init 10 = .ok (.putfield 9, 3) := by decide +kernel
theorem d_LT_init_13 : decode b_LT_init 13 = .ok (.aload_n 0, 1) := by decide +kernel
theorem d_LT_init_14 : decode b_LT_init 14 = .ok (.sipush 160, 3) := by decide +kernel
theorem d_LT_init_17 : decode b_LT_init 17 = .ok (.newarray .int, 2) := by decide +kernel
theorem d_LT_init_19 : decode b_LT_init 19 = .ok (.putfield 15, 3) := by decide +kernel
theorem d_LT_init_22 : decode b_LT_init 22 = .ok (.aload_n 0, 1) := by decide +kernel
theorem d_LT_init_23 : decode b_LT_init 23 = .ok (.sipush 160, 3) := by decide +kernel
theorem d_LT_init_26 : decode b_LT_init 26 = .ok (.newarray .boolean, 2) := by decide +kernel
theorem d_LT_init_28 : decode b_LT_init 28 = .ok (.putfield 19, 3) := by decide +kernel
theorem d_LT_init_31 : decode b_LT_init 31 = .ok (.aload_n 0, 1) := by decide +kernel
theorem d_LT_init_32 : decode b_LT_init 32 = .ok (.sipush 160, 3) := by decide +kernel
theorem d_LT_init_35 : decode b_LT_init 35 = .ok (.newarray .boolean, 2) := by decide +kernel
theorem d_LT_init_37 : decode b_LT_init 37 = .ok (.putfield 23, 3) := by decide +kernel
theorem d_LT_init_40 : decode b_LT_init 40 = .ok (.return_, 1) := by decide +kernel
theorem d_LT_has_0 : decode b_LT_has 0 = .ok (.iload_n 1, 1) := by decide +kernel
theorem d_LT_has_1 : decode b_LT_has 1 = .ok (.ifCond .lt 25, 3) := by decide +kernel
theorem d_LT_has_4 : decode b_LT_has 4 = .ok (.iload_n 1, 1) := by decide +kernel
theorem d_LT_has_5 : decode b_LT_has 5 = .ok (.sipush 160, 3) := by decide +kernel
theorem d_LT_has_8 : decode b_LT_has 8 = .ok (.if_icmp .ge 18, 3) := by decide +kernel
theorem d_LT_has_11 : decode b_LT_has 11 = .ok (.aload_n 0, 1) := by decide +kernel
theorem d_LT_has_12 : decode b_LT_has 12 = .ok (.getfield 9, 3) := by decide +kernel
theorem d_LT_has_15 : decode b_LT_has 15 = .ok (.iload_n 1, 1) := by decide +kernel
theorem d_LT_has_16 : decode b_LT_has 16 = .ok (.laload, 1) := by decide +kernel
theorem d_LT_has_17 : decode b_LT_has 17 = .ok (.lconst 0, 1) := by decide +kernel
theorem d_LT_has_18 : decode b_LT_has 18 = .ok (.lcmp, 1) := by decide +kernel
theorem d_LT_has_19 : decode b_LT_has 19 = .ok (.ifCond .eq 7, 3) := by decide +kernel
theorem d_LT_has_22 : decode b_LT_has 22 = .ok (.iconst 1, 1) := by decide +kernel
theorem d_LT_has_23 : decode b_LT_has 23 = .ok (.goto 4, 3) := by decide +kernel
theorem d_LT_has_26 : decode b_LT_has 26 = .ok (.iconst 0, 1) := by decide +kernel
theorem d_LT_has_27 : decode b_LT_has 27 = .ok (.ireturn, 1) := by decide +kernel
theorem d_LT_put_0 : decode b_LT_put 0 = .ok (.iload_n 1, 1) := by decide +kernel
theorem d_LT_put_1 : decode b_LT_put 1 = .ok (.ifCond .lt 40, 3) := by decide +kernel
theorem d_LT_put_4 : decode b_LT_put 4 = .ok (.iload_n 1, 1) := by decide +kernel
theorem d_LT_put_5 : decode b_LT_put 5 = .ok (.sipush 160, 3) := by decide +kernel
theorem d_LT_put_8 : decode b_LT_put 8 = .ok (.if_icmp .ge 33, 3) := by decide +kernel
theorem d_LT_put_11 : decode b_LT_put 11 = .ok (.aload_n 0, 1) := by decide +kernel
theorem d_LT_put_12 : decode b_LT_put 12 = .ok (.getfield 9, 3) := by decide +kernel
theorem d_LT_put_15 : decode b_LT_put 15 = .ok (.iload_n 1, 1) := by decide +kernel
theorem d_LT_put_16 : decode b_LT_put 16 = .ok (.lload_n 3, 1) := by decide +kernel
theorem d_LT_put_17 : decode b_LT_put 17 = .ok (.lastore, 1) := by decide +kernel
theorem d_LT_put_18 : decode b_LT_put 18 = .ok (.aload_n 0, 1) := by decide +kernel
theorem d_LT_put_19 : decode b_LT_put 19 = .ok (.getfield 15, 3) := by decide +kernel
theorem d_LT_put_22 : decode b_LT_put 22 = .ok (.iload_n 1, 1) := by decide +kernel
theorem d_LT_put_23 : decode b_LT_put 23 = .ok (.iload_n 2, 1) := by decide +kernel
theorem d_LT_put_24 : decode b_LT_put 24 = .ok (.iastore, 1) := by decide +kernel
theorem d_LT_put_25 : decode b_LT_put 25 = .ok (.aload_n 0, 1) := by decide +kernel
theorem d_LT_put_26 : decode b_LT_put 26 = .ok (.getfield 19, 3) := by decide +kernel
theorem d_LT_put_29 : decode b_LT_put 29 = .ok (.iload_n 1, 1) := by decide +kernel
theorem d_LT_put_30 : decode b_LT_put 30 = .ok (.iload 5, 2) := by decide +kernel
theorem d_LT_put_32 : decode b_LT_put 32 = .ok (.bastore, 1) := by decide +kernel
theorem d_LT_put_33 : decode b_LT_put 33 = .ok (.aload_n 0, 1) := by decide +kernel
theorem d_LT_put_34 : decode b_LT_put 34 = .ok (.getfield 23, 3) := by decide +kernel
theorem d_LT_put_37 : decode b_LT_put 37 = .ok (.iload_n 1, 1) := by decide +kernel
theorem d_LT_put_38 : decode b_LT_put 38 = .ok (.iload 6, 2) := by decide +kernel
theorem d_LT_put_40 : decode b_LT_put 40 = .ok (.bastore, 1) := by decide +kernel
theorem d_LT_put_41 : decode b_LT_put 41 = .ok (.return_, 1) := by decide +kernel
theorem d_LT_drop_0 : decode b_LT_drop 0 = .ok (.aload_n 0, 1) := by decide +kernel
theorem d_LT_drop_1 : decode b_LT_drop 1 = .ok (.iload_n 1, 1) := by decide +kernel
theorem d_LT_drop_2 : decode b_LT_drop 2 = .ok (.invokevirtual 26, 3) := by decide +kernel
theorem d_LT_drop_5 : decode b_LT_drop 5 = .ok (.ifCond .eq 10, 3) := by decide +kernel
theorem d_LT_drop_8 : decode b_LT_drop 8 = .ok (.aload_n 0, 1) := by decide +kernel
theorem d_LT_drop_9 : decode b_LT_drop 9 = .ok (.getfield 9, 3) := by decide +kernel
theorem d_LT_drop_12 : decode b_LT_drop 12 = .ok (.iload_n 1, 1) := by decide +kernel
theorem d_LT_drop_13 : decode b_LT_drop 13 = .ok (.lconst 0, 1) := by decide +kernel
theorem d_LT_drop_14 : decode b_LT_drop 14 = .ok (.lastore, 1) := by decide +kernel
theorem d_LT_drop_15 : decode b_LT_drop 15 = .ok (.return_, 1) := by decide +kernel
theorem d_LT_makeThere_0 : decode b_LT_makeThere 0 = .ok (.aload_n 0, 1) := by decide +kernel
theorem d_LT_makeThere_1 : decode b_LT_makeThere 1 = .ok (.iload_n 1, 1) := by decide +kernel
theorem d_LT_makeThere_2 : decode b_LT_makeThere 2 = .ok (.invokevirtual 26, 3) := by decide +kernel
theorem d_LT_makeThere_5 : decode b_LT_makeThere 5 = .ok (.ifCond .eq 10, 3) := by decide +kernel
theorem d_LT_makeThere_8 : decode b_LT_makeThere 8 = .ok (.aload_n 0, 1) := by decide +kernel
theorem d_LT_makeThere_9 : decode b_LT_makeThere 9 = .ok (.getfield 23, 3) := by decide +kernel
theorem d_LT_makeThere_12 : decode b_LT_makeThere 12 = .ok (.iload_n 1, 1) := by decide +kernel
theorem d_LT_makeThere_13 : decode b_LT_makeThere 13 = .ok (.iconst 0, 1) := by decide +kernel
theorem d_LT_makeThere_14 : decode b_LT_makeThere 14 = .ok (.bastore, 1) := by decide +kernel
theorem d_LT_makeThere_15 : decode b_LT_makeThere 15 = .ok (.return_, 1) := by decide +kernel
theorem d_LT_contentAt_0 : decode b_LT_contentAt 0 = .ok (.aload_n 0, 1) := by decide +kernel
theorem d_LT_contentAt_1 : decode b_LT_contentAt 1 = .ok (.iload_n 1, 1) := by decide +kernel
theorem d_LT_contentAt_2 : decode b_LT_contentAt 2 = .ok (.invokevirtual 26, 3) := by decide +kernel
theorem d_LT_contentAt_5 : decode b_LT_contentAt 5 = .ok (.ifCond .eq 12, 3) := by decide +kernel
theorem d_LT_contentAt_8 : decode b_LT_contentAt 8 = .ok (.aload_n 0, 1) := by decide +kernel
theorem d_LT_contentAt_9 : decode b_LT_contentAt 9 = .ok (.getfield 9, 3) := by decide +kernel
theorem d_LT_contentAt_12 : decode b_LT_contentAt 12 = .ok (.iload_n 1, 1) := by decide +kernel
theorem d_LT_contentAt_13 : decode b_LT_contentAt 13 = .ok (.laload, 1) := by decide +kernel
theorem d_LT_contentAt_14 : decode b_LT_contentAt 14 = .ok (.goto 4, 3) := by decide +kernel
theorem d_LT_contentAt_17 : decode b_LT_contentAt 17 = .ok (.lconst 0, 1) := by decide +kernel
theorem d_LT_contentAt_18 : decode b_LT_contentAt 18 = .ok (.lreturn, 1) := by decide +kernel
theorem d_LT_storedIn_0 : decode b_LT_storedIn 0 = .ok (.aload_n 0, 1) := by decide +kernel
theorem d_LT_storedIn_1 : decode b_LT_storedIn 1 = .ok (.iload_n 1, 1) := by decide +kernel
theorem d_LT_storedIn_2 : decode b_LT_storedIn 2 = .ok (.invokevirtual 30, 3) := by decide +kernel
theorem d_LT_storedIn_5 : decode b_LT_storedIn 5 = .ok (.ifCond .eq 7, 3) := by decide +kernel
theorem d_LT_storedIn_8 : decode b_LT_storedIn 8 = .ok (.lconst 0, 1) := by decide +kernel
theorem d_LT_storedIn_9 : decode b_LT_storedIn 9 = .ok (.goto 8, 3) := by decide +kernel
theorem d_LT_storedIn_12 : decode b_LT_storedIn 12 = .ok (.aload_n 0, 1) := by decide +kernel
theorem d_LT_storedIn_13 : decode b_LT_storedIn 13 = .ok (.iload_n 1, 1) := by decide +kernel
theorem d_LT_storedIn_14 : decode b_LT_storedIn 14 = .ok (.invokevirtual 33, 3) := by decide +kernel
theorem d_LT_storedIn_17 : decode b_LT_storedIn 17 = .ok (.lreturn, 1) := by decide +kernel
theorem d_LT_stepAt_0 : decode b_LT_stepAt 0 = .ok (.aload_n 0, 1) := by decide +kernel
theorem d_LT_stepAt_1 : decode b_LT_stepAt 1 = .ok (.iload_n 1, 1) := by decide +kernel
theorem d_LT_stepAt_2 : decode b_LT_stepAt 2 = .ok (.invokevirtual 26, 3) := by decide +kernel
theorem d_LT_stepAt_5 : decode b_LT_stepAt 5 = .ok (.ifCond .eq 12, 3) := by decide +kernel
theorem d_LT_stepAt_8 : decode b_LT_stepAt 8 = .ok (.aload_n 0, 1) := by decide +kernel
theorem d_LT_stepAt_9 : decode b_LT_stepAt 9 = .ok (.getfield 15, 3) := by decide +kernel
theorem d_LT_stepAt_12 : decode b_LT_stepAt 12 = .ok (.iload_n 1, 1) := by decide +kernel
theorem d_LT_stepAt_13 : decode b_LT_stepAt 13 = .ok (.iaload, 1) := by decide +kernel
theorem d_LT_stepAt_14 : decode b_LT_stepAt 14 = .ok (.goto 4, 3) := by decide +kernel
theorem d_LT_stepAt_17 : decode b_LT_stepAt 17 = .ok (.iconst (-1), 1) := by decide +kernel
theorem d_LT_stepAt_18 : decode b_LT_stepAt 18 = .ok (.ireturn, 1) := by decide +kernel
theorem d_LT_isOfStep_0 : decode b_LT_isOfStep 0 = .ok (.aload_n 0, 1) := by decide +kernel
theorem d_LT_isOfStep_1 : decode b_LT_isOfStep 1 = .ok (.iload_n 1, 1) := by decide +kernel
theorem d_LT_isOfStep_2 : decode b_LT_isOfStep 2 = .ok (.invokevirtual 26, 3) := by decide +kernel
theorem d_LT_isOfStep_5 : decode b_LT_isOfStep 5 = .ok (.ifCond .eq 17, 3) := by decide +kernel
theorem d_LT_isOfStep_8 : decode b_LT_isOfStep 8 = .ok (.aload_n 0, 1) := by decide +kernel
theorem d_LT_isOfStep_9 : decode b_LT_isOfStep 9 = .ok (.getfield 15, 3) := by decide +kernel
theorem d_LT_isOfStep_12 : decode b_LT_isOfStep 12 = .ok (.iload_n 1, 1) := by decide +kernel
theorem d_LT_isOfStep_13 : decode b_LT_isOfStep 13 = .ok (.iaload, 1) := by decide +kernel
theorem d_LT_isOfStep_14 : decode b_LT_isOfStep 14 = .ok (.iload_n 2, 1) := by decide +kernel
theorem d_LT_isOfStep_15 : decode b_LT_isOfStep 15 = .ok (.if_icmp .ne 7, 3) := by decide +kernel
theorem d_LT_isOfStep_18 : decode b_LT_isOfStep 18 = .ok (.iconst 1, 1) := by decide +kernel
theorem d_LT_isOfStep_19 : decode b_LT_isOfStep 19 = .ok (.goto 4, 3) := by decide +kernel
theorem d_LT_isOfStep_22 : decode b_LT_isOfStep 22 = .ok (.iconst 0, 1) := by decide +kernel
theorem d_LT_isOfStep_23 : decode b_LT_isOfStep 23 = .ok (.ireturn, 1) := by decide +kernel
theorem d_LT_isExecutable_0 : decode b_LT_isExecutable 0 = .ok (.aload_n 0, 1) := by decide +kernel
theorem d_LT_isExecutable_1 : decode b_LT_isExecutable 1 = .ok (.iload_n 1, 1) := by decide +kernel
theorem d_LT_isExecutable_2 : decode b_LT_isExecutable 2 = .ok (.invokevirtual 26, 3) := by decide +kernel
theorem d_LT_isExecutable_5 : decode b_LT_isExecutable 5 = .ok (.ifCond .eq 16, 3) := by decide +kernel
theorem d_LT_isExecutable_8 : decode b_LT_isExecutable 8 = .ok (.aload_n 0, 1) := by decide +kernel
theorem d_LT_isExecutable_9 : decode b_LT_isExecutable 9 = .ok (.getfield 19, 3) := by decide +kernel
theorem d_LT_isExecutable_12 : decode b_LT_isExecutable 12 = .ok (.iload_n 1, 1) := by decide +kernel
theorem d_LT_isExecutable_13 : decode b_LT_isExecutable 13 = .ok (.baload, 1) := by decide +kernel
theorem d_LT_isExecutable_14 : decode b_LT_isExecutable 14 = .ok (.ifCond .eq 7, 3) := by decide +kernel
theorem d_LT_isExecutable_17 : decode b_LT_isExecutable 17 = .ok (.iconst 1, 1) := by decide +kernel
theorem d_LT_isExecutable_18 : decode b_LT_isExecutable 18 = .ok (.goto 4, 3) := by decide +kernel
theorem d_LT_isExecutable_21 : decode b_LT_isExecutable 21 = .ok (.iconst 0, 1) := by decide +kernel
theorem d_LT_isExecutable_22 : decode b_LT_isExecutable 22 = .ok (.ireturn, 1) := by decide +kernel
theorem d_LT_isLazy_0 : decode b_LT_isLazy 0 = .ok (.aload_n 0, 1) := by decide +kernel
theorem d_LT_isLazy_1 : decode b_LT_isLazy 1 = .ok (.iload_n 1, 1) := by decide +kernel
theorem d_LT_isLazy_2 : decode b_LT_isLazy 2 = .ok (.invokevirtual 26, 3) := by decide +kernel
theorem d_LT_isLazy_5 : decode b_LT_isLazy 5 = .ok (.ifCond .eq 16, 3) := by decide +kernel
theorem d_LT_isLazy_8 : decode b_LT_isLazy 8 = .ok (.aload_n 0, 1) := by decide +kernel
theorem d_LT_isLazy_9 : decode b_LT_isLazy 9 = .ok (.getfield 23, 3) := by decide +kernel
theorem d_LT_isLazy_12 : decode b_LT_isLazy 12 = .ok (.iload_n 1, 1) := by decide +kernel
theorem d_LT_isLazy_13 : decode b_LT_isLazy 13 = .ok (.baload, 1) := by decide +kernel
theorem d_LT_isLazy_14 : decode b_LT_isLazy 14 = .ok (.ifCond .eq 7, 3) := by decide +kernel
theorem d_LT_isLazy_17 : decode b_LT_isLazy 17 = .ok (.iconst 1, 1) := by decide +kernel
theorem d_LT_isLazy_18 : decode b_LT_isLazy 18 = .ok (.goto 4, 3) := by decide +kernel
theorem d_LT_isLazy_21 : decode b_LT_isLazy 21 = .ok (.iconst 0, 1) := by decide +kernel
theorem d_LT_isLazy_22 : decode b_LT_isLazy 22 = .ok (.ireturn, 1) := by decide +kernel
theorem d_CS_init_0 : decode b_CS_init 0 = .ok (.aload_n 0, 1) := by decide +kernel
theorem d_CS_init_1 : decode b_CS_init 1 = .ok (.invokespecial 3, 3) := by decide +kernel
theorem d_CS_init_4 : decode b_CS_init 4 = .ok (.aload_n 0, 1) := by decide +kernel
theorem d_CS_init_5 : decode b_CS_init 5 = .ok (.bipush 60, 2) := by decide +kernel
theorem d_CS_init_7 : decode b_CS_init 7 = .ok (.newarray .long, 2) := by decide +kernel
theorem d_CS_init_9 : decode b_CS_init 9 = .ok (.putfield 9, 3) := by decide +kernel
theorem d_CS_init_12 : decode b_CS_init 12 = .ok (.aload_n 0, 1) := by decide +kernel
theorem d_CS_init_13 : decode b_CS_init 13 = .ok (.iconst 0, 1) := by decide +kernel
theorem d_CS_init_14 : decode b_CS_init 14 = .ok (.putfield 15, 3) := by decide +kernel
theorem d_CS_init_17 : decode b_CS_init 17 = .ok (.return_, 1) := by decide +kernel
theorem d_CS_has_0 : decode b_CS_has 0 = .ok (.aload_n 0, 1) := by decide +kernel
theorem d_CS_has_1 : decode b_CS_has 1 = .ok (.getfield 9, 3) := by decide +kernel
theorem d_CS_has_4 : decode b_CS_has 4 = .ok (.aload_n 0, 1) := by decide +kernel
theorem d_CS_has_5 : decode b_CS_has 5 = .ok (.getfield 15, 3) := by decide +kernel
theorem d_CS_has_8 : decode b_CS_has 8 = .ok (.lload_n 1, 1) := by decide +kernel
theorem d_CS_has_9 : decode b_CS_has 9 = .ok (.invokestatic 19, 3) := by decide +kernel
theorem d_CS_has_12 : decode b_CS_has 12 = .ok (.iconst (-1), 1) := by decide +kernel
theorem d_CS_has_13 : decode b_CS_has 13 = .ok (.if_icmp .eq 7, 3) := by decide +kernel
theorem d_CS_has_16 : decode b_CS_has 16 = .ok (.iconst 1, 1) := by decide +kernel
theorem d_CS_has_17 : decode b_CS_has 17 = .ok (.goto 4, 3) := by decide +kernel
theorem d_CS_has_20 : decode b_CS_has 20 = .ok (.iconst 0, 1) := by decide +kernel
theorem d_CS_has_21 : decode b_CS_has 21 = .ok (.ireturn, 1) := by decide +kernel
theorem d_CS_include_0 : decode b_CS_include 0 = .ok (.aload_n 0, 1) := by decide +kernel
theorem d_CS_include_1 : decode b_CS_include 1 = .ok (.lload_n 1, 1) := by decide +kernel
theorem d_CS_include_2 : decode b_CS_include 2 = .ok (.invokevirtual 23, 3) := by decide +kernel
theorem d_CS_include_5 : decode b_CS_include 5 = .ok (.ifCond .eq 5, 3) := by decide +kernel
theorem d_CS_include_8 : decode b_CS_include 8 = .ok (.iconst 1, 1) := by decide +kernel
theorem d_CS_include_9 : decode b_CS_include 9 = .ok (.ireturn, 1) := by decide +kernel
theorem d_CS_include_10 : decode b_CS_include 10 = .ok (.aload_n 0, 1) := by decide +kernel
theorem d_CS_include_11 : decode b_CS_include 11 = .ok (.getfield 15, 3) := by decide +kernel
theorem d_CS_include_14 : decode b_CS_include 14 = .ok (.bipush 60, 2) := by decide +kernel
theorem d_CS_include_16 : decode b_CS_include 16 = .ok (.if_icmp .lt 5, 3) := by decide +kernel
theorem d_CS_include_19 : decode b_CS_include 19 = .ok (.iconst 0, 1) := by decide +kernel
theorem d_CS_include_20 : decode b_CS_include 20 = .ok (.ireturn, 1) := by decide +kernel
theorem d_CS_include_21 : decode b_CS_include 21 = .ok (.aload_n 0, 1) := by decide +kernel
theorem d_CS_include_22 : decode b_CS_include 22 = .ok (.getfield 9, 3) := by decide +kernel
theorem d_CS_include_25 : decode b_CS_include 25 = .ok (.aload_n 0, 1) := by decide +kernel
theorem d_CS_include_26 : decode b_CS_include 26 = .ok (.getfield 15, 3) := by decide +kernel
theorem d_CS_include_29 : decode b_CS_include 29 = .ok (.lload_n 1, 1) := by decide +kernel
theorem d_CS_include_30 : decode b_CS_include 30 = .ok (.lastore, 1) := by decide +kernel
theorem d_CS_include_31 : decode b_CS_include 31 = .ok (.aload_n 0, 1) := by decide +kernel
theorem d_CS_include_32 : decode b_CS_include 32 = .ok (.dup, 1) := by decide +kernel
theorem d_CS_include_33 : decode b_CS_include 33 = .ok (.getfield 15, 3) := by decide +kernel
theorem d_CS_include_36 : decode b_CS_include 36 = .ok (.iconst 1, 1) := by decide +kernel
theorem d_CS_include_37 : decode b_CS_include 37 = .ok (.iadd, 1) := by decide +kernel
theorem d_CS_include_38 : decode b_CS_include 38 = .ok (.putfield 15, 3) := by decide +kernel
theorem d_CS_include_41 : decode b_CS_include 41 = .ok (.iconst 1, 1) := by decide +kernel
theorem d_CS_include_42 : decode b_CS_include 42 = .ok (.ireturn, 1) := by decide +kernel
theorem d_CS_exclude_0 : decode b_CS_exclude 0 = .ok (.aload_n 0, 1) := by decide +kernel
theorem d_CS_exclude_1 : decode b_CS_exclude 1 = .ok (.getfield 9, 3) := by decide +kernel
theorem d_CS_exclude_4 : decode b_CS_exclude 4 = .ok (.aload_n 0, 1) := by decide +kernel
theorem d_CS_exclude_5 : decode b_CS_exclude 5 = .ok (.getfield 15, 3) := by decide +kernel
theorem d_CS_exclude_8 : decode b_CS_exclude 8 = .ok (.lload_n 1, 1) := by decide +kernel
theorem d_CS_exclude_9 : decode b_CS_exclude 9 = .ok (.invokestatic 19, 3) := by decide +kernel
theorem d_CS_exclude_12 : decode b_CS_exclude 12 = .ok (.istore_n 3, 1) := by decide +kernel
theorem d_CS_exclude_13 : decode b_CS_exclude 13 = .ok (.iload_n 3, 1) := by decide +kernel
theorem d_CS_exclude_14 : decode b_CS_exclude 14 = .ok (.ifCond .lt 36, 3) := by decide +kernel
theorem d_CS_exclude_17 : decode b_CS_exclude 17 = .ok (.iload_n 3, 1) := by decide +kernel
theorem d_CS_exclude_18 : decode b_CS_exclude 18 = .ok (.aload_n 0, 1) := by decide +kernel
theorem d_CS_exclude_19 : decode b_CS_exclude 19 = .ok (.getfield 15, 3) := by decide +kernel
theorem d_CS_exclude_22 : decode b_CS_exclude 22 = .ok (.if_icmp .ge 28, 3) := by decide +kernel
theorem d_CS_exclude_25 : decode b_CS_exclude 25 = .ok (.aload_n 0, 1) := by decide +kernel
theorem d_CS_exclude_26 : decode b_CS_exclude 26 = .ok (.dup, 1) := by decide +kernel
theorem d_CS_exclude_27 : decode b_CS_exclude 27 = .ok (.getfield 15, 3) := by decide +kernel
theorem d_CS_exclude_30 : decode b_CS_exclude 30 = .ok (.iconst 1, 1) := by decide +kernel
theorem d_CS_exclude_31 : decode b_CS_exclude 31 = .ok (.isub, 1) := by decide +kernel
theorem d_CS_exclude_32 : decode b_CS_exclude 32 = .ok (.putfield 15, 3) := by decide +kernel
theorem d_CS_exclude_35 : decode b_CS_exclude 35 = .ok (.aload_n 0, 1) := by decide +kernel
theorem d_CS_exclude_36 : decode b_CS_exclude 36 = .ok (.getfield 9, 3) := by decide +kernel
theorem d_CS_exclude_39 : decode b_CS_exclude 39 = .ok (.iload_n 3, 1) := by decide +kernel
theorem d_CS_exclude_40 : decode b_CS_exclude 40 = .ok (.aload_n 0, 1) := by decide +kernel
theorem d_CS_exclude_41 : decode b_CS_exclude 41 = .ok (.getfield 9, 3) := by decide +kernel
theorem d_CS_exclude_44 : decode b_CS_exclude 44 = .ok (.aload_n 0, 1) := by decide +kernel
theorem d_CS_exclude_45 : decode b_CS_exclude 45 = .ok (.getfield 15, 3) := by decide +kernel
theorem d_CS_exclude_48 : decode b_CS_exclude 48 = .ok (.laload, 1) := by decide +kernel
theorem d_CS_exclude_49 : decode b_CS_exclude 49 = .ok (.lastore, 1) := by decide +kernel
theorem d_CS_exclude_50 : decode b_CS_exclude 50 = .ok (.return_, 1) := by decide +kernel
theorem d_HB_init_0 : decode b_HB_init 0 = .ok (.aload_n 0, 1) := by decide +kernel
theorem d_HB_init_1 : decode b_HB_init 1 = .ok (.invokespecial 3, 3) := by decide +kernel
theorem d_HB_init_4 : decode b_HB_init 4 = .ok (.aload_n 0, 1) := by decide +kernel
theorem d_HB_init_5 : decode b_HB_init 5 = .ok (.bipush 100, 2) := by decide +kernel
theorem d_HB_init_7 : decode b_HB_init 7 = .ok (.newarray .long, 2) := by decide +kernel
theorem d_HB_init_9 : decode b_HB_init 9 = .ok (.putfield 9, 3) := by decide +kernel
theorem d_HB_init_12 : decode b_HB_init 12 = .ok (.aload_n 0, 1) := by decide +kernel
theorem d_HB_init_13 : decode b_HB_init 13 = .ok (.iconst 0, 1) := by decide +kernel
theorem d_HB_init_14 : decode b_HB_init 14 = .ok (.putfield 15, 3) := by decide +kernel
theorem d_HB_init_17 : decode b_HB_init 17 = .ok (.return_, 1) := by decide +kernel
theorem d_HB_isFull_0 : decode b_HB_isFull 0 = .ok (.aload_n 0, 1) := by decide +kernel
theorem d_HB_isFull_1 : decode b_HB_isFull 1 = .ok (.getfield 15, 3) := by decide +kernel
theorem d_HB_isFull_4 : decode b_HB_isFull 4 = .ok (.bipush 100, 2) := by decide +kernel
theorem d_HB_isFull_6 : decode b_HB_isFull 6 = .ok (.if_icmp .lt 7, 3) := by decide +kernel
theorem d_HB_isFull_9 : decode b_HB_isFull 9 = .ok (.iconst 1, 1) := by decide +kernel
theorem d_HB_isFull_10 : decode b_HB_isFull 10 = .ok (.goto 4, 3) := by decide +kernel
theorem d_HB_isFull_13 : decode b_HB_isFull 13 = .ok (.iconst 0, 1) := by decide +kernel
theorem d_HB_isFull_14 : decode b_HB_isFull 14 = .ok (.ireturn, 1) := by decide +kernel
theorem d_HB_take_0 : decode b_HB_take 0 = .ok (.aload_n 0, 1) := by decide +kernel
theorem d_HB_take_1 : decode b_HB_take 1 = .ok (.invokevirtual 19, 3) := by decide +kernel
theorem d_HB_take_4 : decode b_HB_take 4 = .ok (.ifCond .eq 5, 3) := by decide +kernel
theorem d_HB_take_7 : decode b_HB_take 7 = .ok (.iconst (-1), 1) := by decide +kernel
theorem d_HB_take_8 : decode b_HB_take 8 = .ok (.ireturn, 1) := by decide +kernel
theorem d_HB_take_9 : decode b_HB_take 9 = .ok (.aload_n 0, 1) := by decide +kernel
theorem d_HB_take_10 : decode b_HB_take 10 = .ok (.getfield 9, 3) := by decide +kernel
theorem d_HB_take_13 : decode b_HB_take 13 = .ok (.aload_n 0, 1) := by decide +kernel
theorem d_HB_take_14 : decode b_HB_take 14 = .ok (.getfield 15, 3) := by decide +kernel
theorem d_HB_take_17 : decode b_HB_take 17 = .ok (.lload_n 1, 1) := by decide +kernel
theorem d_HB_take_18 : decode b_HB_take 18 = .ok (.lastore, 1) := by decide +kernel
theorem d_HB_take_19 : decode b_HB_take 19 = .ok (.aload_n 0, 1) := by decide +kernel
theorem d_HB_take_20 : decode b_HB_take 20 = .ok (.dup, 1) := by decide +kernel
theorem d_HB_take_21 : decode b_HB_take 21 = .ok (.getfield 15, 3) := by decide +kernel
theorem d_HB_take_24 : decode b_HB_take 24 = .ok (.iconst 1, 1) := by decide +kernel
theorem d_HB_take_25 : decode b_HB_take 25 = .ok (.iadd, 1) := by decide +kernel
theorem d_HB_take_26 : decode b_HB_take 26 = .ok (.putfield 15, 3) := by decide +kernel
theorem d_HB_take_29 : decode b_HB_take 29 = .ok (.aload_n 0, 1) := by decide +kernel
theorem d_HB_take_30 : decode b_HB_take 30 = .ok (.getfield 15, 3) := by decide +kernel
theorem d_HB_take_33 : decode b_HB_take 33 = .ok (.iconst 1, 1) := by decide +kernel
theorem d_HB_take_34 : decode b_HB_take 34 = .ok (.isub, 1) := by decide +kernel
theorem d_HB_take_35 : decode b_HB_take 35 = .ok (.ireturn, 1) := by decide +kernel
theorem d_HB_has_0 : decode b_HB_has 0 = .ok (.iload_n 1, 1) := by decide +kernel
theorem d_HB_has_1 : decode b_HB_has 1 = .ok (.ifCond .lt 26, 3) := by decide +kernel
theorem d_HB_has_4 : decode b_HB_has 4 = .ok (.iload_n 1, 1) := by decide +kernel
theorem d_HB_has_5 : decode b_HB_has 5 = .ok (.aload_n 0, 1) := by decide +kernel
theorem d_HB_has_6 : decode b_HB_has 6 = .ok (.getfield 15, 3) := by decide +kernel
theorem d_HB_has_9 : decode b_HB_has 9 = .ok (.if_icmp .ge 18, 3) := by decide +kernel
theorem d_HB_has_12 : decode b_HB_has 12 = .ok (.aload_n 0, 1) := by decide +kernel
theorem d_HB_has_13 : decode b_HB_has 13 = .ok (.getfield 9, 3) := by decide +kernel
theorem d_HB_has_16 : decode b_HB_has 16 = .ok (.iload_n 1, 1) := by decide +kernel
theorem d_HB_has_17 : decode b_HB_has 17 = .ok (.laload, 1) := by decide +kernel
theorem d_HB_has_18 : decode b_HB_has 18 = .ok (.lconst 0, 1) := by decide +kernel
theorem d_HB_has_19 : decode b_HB_has 19 = .ok (.lcmp, 1) := by decide +kernel
theorem d_HB_has_20 : decode b_HB_has 20 = .ok (.ifCond .eq 7, 3) := by decide +kernel
theorem d_HB_has_23 : decode b_HB_has 23 = .ok (.iconst 1, 1) := by decide +kernel
theorem d_HB_has_24 : decode b_HB_has 24 = .ok (.goto 4, 3) := by decide +kernel
theorem d_HB_has_27 : decode b_HB_has 27 = .ok (.iconst 0, 1) := by decide +kernel
theorem d_HB_has_28 : decode b_HB_has 28 = .ok (.ireturn, 1) := by decide +kernel
theorem d_HB_contentOf_0 : decode b_HB_contentOf 0 = .ok (.aload_n 0, 1) := by decide +kernel
theorem d_HB_contentOf_1 : decode b_HB_contentOf 1 = .ok (.iload_n 1, 1) := by decide +kernel
theorem d_HB_contentOf_2 : decode b_HB_contentOf 2 = .ok (.invokevirtual 23, 3) := by decide +kernel
theorem d_HB_contentOf_5 : decode b_HB_contentOf 5 = .ok (.ifCond .eq 12, 3) := by decide +kernel
theorem d_HB_contentOf_8 : decode b_HB_contentOf 8 = .ok (.aload_n 0, 1) := by decide +kernel
theorem d_HB_contentOf_9 : decode b_HB_contentOf 9 = .ok (.getfield 9, 3) := by decide +kernel
theorem d_HB_contentOf_12 : decode b_HB_contentOf 12 = .ok (.iload_n 1, 1) := by decide +kernel
theorem d_HB_contentOf_13 : decode b_HB_contentOf 13 = .ok (.laload, 1) := by decide +kernel
theorem d_HB_contentOf_14 : decode b_HB_contentOf 14 = .ok (.goto 4, 3) := by decide +kernel
theorem d_HB_contentOf_17 : decode b_HB_contentOf 17 = .ok (.lconst 0, 1) := by decide +kernel
theorem d_HB_contentOf_18 : decode b_HB_contentOf 18 = .ok (.lreturn, 1) := by decide +kernel
theorem d_HB_release_0 : decode b_HB_release 0 = .ok (.aload_n 0, 1) := by decide +kernel
theorem d_HB_release_1 : decode b_HB_release 1 = .ok (.iload_n 1, 1) := by decide +kernel
theorem d_HB_release_2 : decode b_HB_release 2 = .ok (.invokevirtual 23, 3) := by decide +kernel
theorem d_HB_release_5 : decode b_HB_release 5 = .ok (.ifCond .ne 5, 3) := by decide +kernel
theorem d_HB_release_8 : decode b_HB_release 8 = .ok (.iconst 0, 1) := by decide +kernel
theorem d_HB_release_9 : decode b_HB_release 9 = .ok (.ireturn, 1) := by decide +kernel
theorem d_HB_release_10 : decode b_HB_release 10 = .ok (.aload_n 0, 1) := by decide +kernel
theorem d_HB_release_11 : decode b_HB_release 11 = .ok (.getfield 9, 3) := by decide +kernel
theorem d_HB_release_14 : decode b_HB_release 14 = .ok (.iload_n 1, 1) := by decide +kernel
theorem d_HB_release_15 : decode b_HB_release 15 = .ok (.lconst 0, 1) := by decide +kernel
theorem d_HB_release_16 : decode b_HB_release 16 = .ok (.lastore, 1) := by decide +kernel
theorem d_HB_release_17 : decode b_HB_release 17 = .ok (.iconst 1, 1) := by decide +kernel
theorem d_HB_release_18 : decode b_HB_release 18 = .ok (.ireturn, 1) := by decide +kernel
theorem d_DM_init_0 : decode b_DM_init 0 = .ok (.aload_n 0, 1) := by decide +kernel
theorem d_DM_init_1 : decode b_DM_init 1 = .ok (.invokespecial 3, 3) := by decide +kernel
theorem d_DM_init_4 : decode b_DM_init 4 = .ok (.aload_n 0, 1) := by decide +kernel
theorem d_DM_init_5 : decode b_DM_init 5 = .ok (.bipush 48, 2) := by decide +kernel
theorem d_DM_init_7 : decode b_DM_init 7 = .ok (.newarray .boolean, 2) := by decide +kernel
theorem d_DM_init_9 : decode b_DM_init 9 = .ok (.putfield 9, 3) := by decide +kernel
theorem d_DM_init_12 : decode b_DM_init 12 = .ok (.return_, 1) := by decide +kernel
theorem d_DM_get_0 : decode b_DM_get 0 = .ok (.iload_n 1, 1) := by decide +kernel
theorem d_DM_get_1 : decode b_DM_get 1 = .ok (.invokestatic 15, 3) := by decide +kernel
theorem d_DM_get_4 : decode b_DM_get 4 = .ok (.ifCond .eq 28, 3) := by decide +kernel
theorem d_DM_get_7 : decode b_DM_get 7 = .ok (.iload_n 2, 1) := by decide +kernel
theorem d_DM_get_8 : decode b_DM_get 8 = .ok (.invokestatic 19, 3) := by decide +kernel
theorem d_DM_get_11 : decode b_DM_get 11 = .ok (.ifCond .eq 21, 3) := by decide +kernel
theorem d_DM_get_14 : decode b_DM_get 14 = .ok (.aload_n 0, 1) := by decide +kernel
theorem d_DM_get_15 : decode b_DM_get 15 = .ok (.getfield 9, 3) := by decide +kernel
theorem d_DM_get_18 : decode b_DM_get 18 = .ok (.iload_n 2, 1) := by decide +kernel
theorem d_DM_get_19 : decode b_DM_get 19 = .ok (.bipush 12, 2) := by decide +kernel
theorem d_DM_get_21 : decode b_DM_get 21 = .ok (.imul, 1) := by decide +kernel
theorem d_DM_get_22 : decode b_DM_get 22 = .ok (.iload_n 1, 1) := by decide +kernel
theorem d_DM_get_23 : decode b_DM_get 23 = .ok (.iadd, 1) := by decide +kernel
theorem d_DM_get_24 : decode b_DM_get 24 = .ok (.baload, 1) := by decide +kernel
theorem d_DM_get_25 : decode b_DM_get 25 = .ok (.ifCond .eq 7, 3) := by decide +kernel
theorem d_DM_get_28 : decode b_DM_get 28 = .ok (.iconst 1, 1) := by decide +kernel
theorem d_DM_get_29 : decode b_DM_get 29 = .ok (.goto 4, 3) := by decide +kernel
theorem d_DM_get_32 : decode b_DM_get 32 = .ok (.iconst 0, 1) := by decide +kernel
theorem d_DM_get_33 : decode b_DM_get 33 = .ok (.ireturn, 1) := by decide +kernel
theorem d_DM_set_0 : decode b_DM_set 0 = .ok (.iload_n 1, 1) := by decide +kernel
theorem d_DM_set_1 : decode b_DM_set 1 = .ok (.invokestatic 15, 3) := by decide +kernel
theorem d_DM_set_4 : decode b_DM_set 4 = .ok (.ifCond .eq 22, 3) := by decide +kernel
theorem d_DM_set_7 : decode b_DM_set 7 = .ok (.iload_n 2, 1) := by decide +kernel
theorem d_DM_set_8 : decode b_DM_set 8 = .ok (.invokestatic 19, 3) := by decide +kernel
theorem d_DM_set_11 : decode b_DM_set 11 = .ok (.ifCond .eq 15, 3) := by decide +kernel
theorem d_DM_set_14 : decode b_DM_set 14 = .ok (.aload_n 0, 1) := by decide +kernel
theorem d_DM_set_15 : decode b_DM_set 15 = .ok (.getfield 9, 3) := by decide +kernel
theorem d_DM_set_18 : decode b_DM_set 18 = .ok (.iload_n 2, 1) := by decide +kernel
theorem d_DM_set_19 : decode b_DM_set 19 = .ok (.bipush 12, 2) := by decide +kernel
theorem d_DM_set_21 : decode b_DM_set 21 = .ok (.imul, 1) := by decide +kernel
theorem d_DM_set_22 : decode b_DM_set 22 = .ok (.iload_n 1, 1) := by decide +kernel
theorem d_DM_set_23 : decode b_DM_set 23 = .ok (.iadd, 1) := by decide +kernel
theorem d_DM_set_24 : decode b_DM_set 24 = .ok (.iload_n 3, 1) := by decide +kernel
theorem d_DM_set_25 : decode b_DM_set 25 = .ok (.bastore, 1) := by decide +kernel
theorem d_DM_set_26 : decode b_DM_set 26 = .ok (.return_, 1) := by decide +kernel
