theorem dX0_init_0 : decode cX0_init 0 = .ok (.aload_n 0, 1) := by decide +kernel
theorem dX0_init_1 : decode cX0_init 1 = .ok (.invokespecial 3, 3) := by decide +kernel
theorem dX0_init_4 : decode cX0_init 4 = .ok (.aload_n 0, 1) := by decide +kernel
theorem dX0_init_5 : decode cX0_init 5 = .ok (.iconst 0, 1) := by decide +kernel
theorem dX0_init_6 : decode cX0_init 6 = .ok (.putfield 9, 3) := by decide +kernel
theorem dX0_init_9 : decode cX0_init 9 = .ok (.aload_n 0, 1) := by decide +kernel
theorem dX0_init_10 : decode cX0_init 10 = .ok (.iconst 2, 1) := by decide +kernel
theorem dX0_init_11 : decode cX0_init 11 = .ok (.putfield 15, 3) := by decide +kernel
theorem dX0_init_14 : decode cX0_init 14 = .ok (.aload_n 0, 1) := by decide +kernel
theorem dX0_init_15 : decode cX0_init 15 = .ok (.iconst 1, 1) := by decide +kernel
theorem dX0_init_16 : decode cX0_init 16 = .ok (.putfield 18, 3) := by decide +kernel
theorem dX0_init_19 : decode cX0_init 19 = .ok (.aload_n 0, 1) := by decide +kernel
theorem dX0_init_20 : decode cX0_init 20 = .ok (.iconst 0, 1) := by decide +kernel
theorem dX0_init_21 : decode cX0_init 21 = .ok (.putfield 21, 3) := by decide +kernel
theorem dX0_init_24 : decode cX0_init 24 = .ok (.aload_n 0, 1) := by decide +kernel
theorem dX0_init_25 : decode cX0_init 25 = .ok (.iconst 0, 1) := by decide +kernel
theorem dX0_init_26 : decode cX0_init 26 = .ok (.putfield 24, 3) := by decide +kernel
theorem dX0_init_29 : decode cX0_init 29 = .ok (.aload_n 0, 1) := by decide +kernel
theorem dX0_init_30 : decode cX0_init 30 = .ok (.iconst 0, 1) := by decide +kernel
theorem dX0_init_31 : decode cX0_init 31 = .ok (.putfield 28, 3) := by decide +kernel
theorem dX0_init_34 : decode cX0_init 34 = .ok (.aload_n 0, 1) := by decide +kernel
theorem dX0_init_35 : decode cX0_init 35 = .ok (.iconst 0, 1) := by decide +kernel
theorem dX0_init_36 : decode cX0_init 36 = .ok (.putfield 31, 3) := by decide +kernel
theorem dX0_init_39 : decode cX0_init 39 = .ok (.aload_n 0, 1) := by decide +kernel
theorem dX0_init_40 : decode cX0_init 40 = .ok (.iconst 0, 1) := by decide +kernel
theorem dX0_init_41 : decode cX0_init 41 = .ok (.putfield 34, 3) := by decide +kernel
theorem dX0_init_44 : decode cX0_init 44 = .ok (.aload_n 0, 1) := by decide +kernel
theorem dX0_init_45 : decode cX0_init 45 = .ok (.bipush (-10), 2) := by decide +kernel
theorem dX0_init_47 : decode cX0_init 47 = .ok (.putfield 37, 3) := by decide +kernel
theorem dX0_init_50 : decode cX0_init 50 = .ok (.aload_n 0, 1) := by decide +kernel
theorem dX0_init_51 : decode cX0_init 51 = .ok (.iconst 0, 1) := by decide +kernel
theorem dX0_init_52 : decode cX0_init 52 = .ok (.putfield 40, 3) := by decide +kernel
theorem dX0_init_55 : decode cX0_init 55 = .ok (.aload_n 0, 1) := by decide +kernel
theorem dX0_init_56 : decode cX0_init 56 = .ok (.iconst 0, 1) := by decide +kernel
theorem dX0_init_57 : decode cX0_init 57 = .ok (.putfield 43, 3) := by decide +kernel
theorem dX0_init_60 : decode cX0_init 60 = .ok (.aload_n 0, 1) := by decide +kernel
theorem dX0_init_61 : decode cX0_init 61 = .ok (.iload_n 1, 1) := by decide +kernel
theorem dX0_init_62 : decode cX0_init 62 = .ok (.putfield 46, 3) := by decide +kernel
theorem dX0_init_65 : decode cX0_init 65 = .ok (.return_, 1) := by decide +kernel
theorem dX0_lay_0 : decode cX0_lay 0 = .ok (.aload_n 0, 1) := by decide +kernel
theorem dX0_lay_1 : decode cX0_lay 1 = .ok (.iload_n 1, 1) := by decide +kernel
theorem dX0_lay_2 : decode cX0_lay 2 = .ok (.putfield 9, 3) := by decide +kernel
theorem dX0_lay_5 : decode cX0_lay 5 = .ok (.aload_n 0, 1) := by decide +kernel
theorem dX0_lay_6 : decode cX0_lay 6 = .ok (.iload_n 2, 1) := by decide +kernel
theorem dX0_lay_7 : decode cX0_lay 7 = .ok (.putfield 15, 3) := by decide +kernel
theorem dX0_lay_10 : decode cX0_lay 10 = .ok (.aload_n 0, 1) := by decide +kernel
theorem dX0_lay_11 : decode cX0_lay 11 = .ok (.iload_n 3, 1) := by decide +kernel
theorem dX0_lay_12 : decode cX0_lay 12 = .ok (.putfield 18, 3) := by decide +kernel
theorem dX0_lay_15 : decode cX0_lay 15 = .ok (.aload_n 0, 1) := by decide +kernel
theorem dX0_lay_16 : decode cX0_lay 16 = .ok (.iconst 0, 1) := by decide +kernel
theorem dX0_lay_17 : decode cX0_lay 17 = .ok (.putfield 21, 3) := by decide +kernel
theorem dX0_lay_20 : decode cX0_lay 20 = .ok (.aload_n 0, 1) := by decide +kernel
theorem dX0_lay_21 : decode cX0_lay 21 = .ok (.iconst 0, 1) := by decide +kernel
theorem dX0_lay_22 : decode cX0_lay 22 = .ok (.putfield 24, 3) := by decide +kernel
theorem dX0_lay_25 : decode cX0_lay 25 = .ok (.aload_n 0, 1) := by decide +kernel
theorem dX0_lay_26 : decode cX0_lay 26 = .ok (.iconst 0, 1) := by decide +kernel
theorem dX0_lay_27 : decode cX0_lay 27 = .ok (.putfield 28, 3) := by decide +kernel
theorem dX0_lay_30 : decode cX0_lay 30 = .ok (.aload_n 0, 1) := by decide +kernel
theorem dX0_lay_31 : decode cX0_lay 31 = .ok (.iconst 0, 1) := by decide +kernel
theorem dX0_lay_32 : decode cX0_lay 32 = .ok (.putfield 40, 3) := by decide +kernel
theorem dX0_lay_35 : decode cX0_lay 35 = .ok (.aload_n 0, 1) := by decide +kernel
theorem dX0_lay_36 : decode cX0_lay 36 = .ok (.iconst 0, 1) := by decide +kernel
theorem dX0_lay_37 : decode cX0_lay 37 = .ok (.putfield 43, 3) := by decide +kernel
theorem dX0_lay_40 : decode cX0_lay 40 = .ok (.aload_n 0, 1) := by decide +kernel
theorem dX0_lay_41 : decode cX0_lay 41 = .ok (.iload 4, 2) := by decide +kernel
theorem dX0_lay_43 : decode cX0_lay 43 = .ok (.invokevirtual 49, 3) := by decide +kernel
theorem dX0_lay_46 : decode cX0_lay 46 = .ok (.return_, 1) := by decide +kernel
theorem dX0_beginAnew_0 : decode cX0_beginAnew 0 = .ok (.aload_n 0, 1) := by decide +kernel
theorem dX0_beginAnew_1 : decode cX0_beginAnew 1 = .ok (.iload_n 1, 1) := by decide +kernel
theorem dX0_beginAnew_2 : decode cX0_beginAnew 2 = .ok (.putfield 34, 3) := by decide +kernel
theorem dX0_beginAnew_5 : decode cX0_beginAnew 5 = .ok (.aload_n 0, 1) := by decide +kernel
theorem dX0_beginAnew_6 : decode cX0_beginAnew 6 = .ok (.iconst 0, 1) := by decide +kernel
theorem dX0_beginAnew_7 : decode cX0_beginAnew 7 = .ok (.putfield 31, 3) := by decide +kernel
theorem dX0_beginAnew_10 : decode cX0_beginAnew 10 = .ok (.aload_n 0, 1) := by decide +kernel
theorem dX0_beginAnew_11 : decode cX0_beginAnew 11 = .ok (.bipush (-10), 2) := by decide +kernel
theorem dX0_beginAnew_13 : decode cX0_beginAnew 13 = .ok (.putfield 37, 3) := by decide +kernel
theorem dX0_beginAnew_16 : decode cX0_beginAnew 16 = .ok (.return_, 1) := by decide +kernel
theorem dX0_isTaken_0 : decode cX0_isTaken 0 = .ok (.aload_n 0, 1) := by decide +kernel
theorem dX0_isTaken_1 : decode cX0_isTaken 1 = .ok (.getfield 24, 3) := by decide +kernel
theorem dX0_isTaken_4 : decode cX0_isTaken 4 = .ok (.ifCond .eq 22, 3) := by decide +kernel
theorem dX0_isTaken_7 : decode cX0_isTaken 7 = .ok (.aload_n 0, 1) := by decide +kernel
theorem dX0_isTaken_8 : decode cX0_isTaken 8 = .ok (.getfield 9, 3) := by decide +kernel
theorem dX0_isTaken_11 : decode cX0_isTaken 11 = .ok (.iconst 3, 1) := by decide +kernel
theorem dX0_isTaken_12 : decode cX0_isTaken 12 = .ok (.if_icmp .ne 10, 3) := by decide +kernel
theorem dX0_isTaken_15 : decode cX0_isTaken 15 = .ok (.aload_n 0, 1) := by decide +kernel
theorem dX0_isTaken_16 : decode cX0_isTaken 16 = .ok (.getfield 28, 3) := by decide +kernel
theorem dX0_isTaken_19 : decode cX0_isTaken 19 = .ok (.ifCond .eq 7, 3) := by decide +kernel
theorem dX0_isTaken_22 : decode cX0_isTaken 22 = .ok (.iconst 1, 1) := by decide +kernel
theorem dX0_isTaken_23 : decode cX0_isTaken 23 = .ok (.goto 4, 3) := by decide +kernel
theorem dX0_isTaken_26 : decode cX0_isTaken 26 = .ok (.iconst 0, 1) := by decide +kernel
theorem dX0_isTaken_27 : decode cX0_isTaken 27 = .ok (.ireturn, 1) := by decide +kernel
theorem dX0_isSteered_0 : decode cX0_isSteered 0 = .ok (.aload_n 0, 1) := by decide +kernel
theorem dX0_isSteered_1 : decode cX0_isSteered 1 = .ok (.getfield 9, 3) := by decide +kernel
theorem dX0_isSteered_4 : decode cX0_isSteered 4 = .ok (.iconst 1, 1) := by decide +kernel
theorem dX0_isSteered_5 : decode cX0_isSteered 5 = .ok (.if_icmp .eq 11, 3) := by decide +kernel
theorem dX0_isSteered_8 : decode cX0_isSteered 8 = .ok (.aload_n 0, 1) := by decide +kernel
theorem dX0_isSteered_9 : decode cX0_isSteered 9 = .ok (.getfield 9, 3) := by decide +kernel
theorem dX0_isSteered_12 : decode cX0_isSteered 12 = .ok (.iconst 3, 1) := by decide +kernel
theorem dX0_isSteered_13 : decode cX0_isSteered 13 = .ok (.if_icmp .ne 7, 3) := by decide +kernel
theorem dX0_isSteered_16 : decode cX0_isSteered 16 = .ok (.iconst 1, 1) := by decide +kernel
theorem dX0_isSteered_17 : decode cX0_isSteered 17 = .ok (.goto 4, 3) := by decide +kernel
theorem dX0_isSteered_20 : decode cX0_isSteered 20 = .ok (.iconst 0, 1) := by decide +kernel
theorem dX0_isSteered_21 : decode cX0_isSteered 21 = .ok (.ireturn, 1) := by decide +kernel
theorem dX1_init_0 : decode cX1_init 0 = .ok (.aload_n 0, 1) := by decide +kernel
theorem dX1_init_1 : decode cX1_init 1 = .ok (.invokespecial 3, 3) := by decide +kernel
theorem dX1_init_4 : decode cX1_init 4 = .ok (.aload_n 0, 1) := by decide +kernel
theorem dX1_init_5 : decode cX1_init 5 = .ok (.bipush 24, 2) := by decide +kernel
theorem dX1_init_7 : decode cX1_init 7 = .ok (.newarray .int, 2) := by decide +kernel
theorem dX1_init_9 : decode cX1_init 9 = .ok (.putfield 9, 3) := by decide +kernel
theorem dX1_init_12 : decode cX1_init 12 = .ok (.aload_n 0, 1) := by decide +kernel
theorem dX1_init_13 : decode cX1_init 13 = .ok (.iconst 0, 1) := by decide +kernel
theorem dX1_init_14 : decode cX1_init 14 = .ok (.putfield 15, 3) := by decide +kernel
theorem dX1_init_17 : decode cX1_init 17 = .ok (.aload_n 0, 1) := by decide +kernel
theorem dX1_init_18 : decode cX1_init 18 = .ok (.aload_n 1, 1) := by decide +kernel
theorem dX1_init_19 : decode cX1_init 19 = .ok (.putfield 19, 3) := by decide +kernel
theorem dX1_init_22 : decode cX1_init 22 = .ok (.aload_n 0, 1) := by decide +kernel
theorem dX1_init_23 : decode cX1_init 23 = .ok (.aload_n 2, 1) := by decide +kernel
theorem dX1_init_24 : decode cX1_init 24 = .ok (.putfield 23, 3) := by decide +kernel
theorem dX1_init_27 : decode cX1_init 27 = .ok (.aload_n 0, 1) := by decide +kernel
theorem dX1_init_28 : decode cX1_init 28 = .ok (.aload_n 3, 1) := by decide +kernel
theorem dX1_init_29 : decode cX1_init 29 = .ok (.putfield 27, 3) := by decide +kernel
theorem dX1_init_32 : decode cX1_init 32 = .ok (.aload_n 0, 1) := by decide +kernel
theorem dX1_init_33 : decode cX1_init 33 = .ok (.aload 4, 2) := by decide +kernel
theorem dX1_init_35 : decode cX1_init 35 = .ok (.putfield 31, 3) := by decide +kernel
theorem dX1_init_38 : decode cX1_init 38 = .ok (.aload_n 0, 1) := by decide +kernel
theorem dX1_init_39 : decode cX1_init 39 = .ok (.aload 5, 2) := by decide +kernel
theorem dX1_init_41 : decode cX1_init 41 = .ok (.putfield 35, 3) := by decide +kernel
theorem dX1_init_44 : decode cX1_init 44 = .ok (.return_, 1) := by decide +kernel
theorem dX1_closeHour_0 : decode cX1_closeHour 0 = .ok (.aload_n 0, 1) := by decide +kernel
theorem dX1_closeHour_1 : decode cX1_closeHour 1 = .ok (.iconst 0, 1) := by decide +kernel
theorem dX1_closeHour_2 : decode cX1_closeHour 2 = .ok (.putfield 15, 3) := by decide +kernel
theorem dX1_closeHour_5 : decode cX1_closeHour 5 = .ok (.aload_n 0, 1) := by decide +kernel
theorem dX1_closeHour_6 : decode cX1_closeHour 6 = .ok (.invokevirtual 39, 3) := by decide +kernel
theorem dX1_closeHour_9 : decode cX1_closeHour 9 = .ok (.astore 4, 2) := by decide +kernel
theorem dX1_closeHour_11 : decode cX1_closeHour 11 = .ok (.aload 4, 2) := by decide +kernel
theorem dX1_closeHour_13 : decode cX1_closeHour 13 = .ok (.ifnull 69, 3) := by decide +kernel
theorem dX1_closeHour_16 : decode cX1_closeHour 16 = .ok (.aload_n 0, 1) := by decide +kernel
theorem dX1_closeHour_17 : decode cX1_closeHour 17 = .ok (.aload 4, 2) := by decide +kernel
theorem dX1_closeHour_19 : decode cX1_closeHour 19 = .ok (.iload_n 1, 1) := by decide +kernel
theorem dX1_closeHour_20 : decode cX1_closeHour 20 = .ok (.invokevirtual 43, 3) := by decide +kernel
theorem dX1_closeHour_23 : decode cX1_closeHour 23 = .ok (.aload_n 0, 1) := by decide +kernel
theorem dX1_closeHour_24 : decode cX1_closeHour 24 = .ok (.iload_n 1, 1) := by decide +kernel
theorem dX1_closeHour_25 : decode cX1_closeHour 25 = .ok (.iload_n 2, 1) := by decide +kernel
theorem dX1_closeHour_26 : decode cX1_closeHour 26 = .ok (.invokevirtual 47, 3) := by decide +kernel
theorem dX1_closeHour_29 : decode cX1_closeHour 29 = .ok (.aload_n 0, 1) := by decide +kernel
theorem dX1_closeHour_30 : decode cX1_closeHour 30 = .ok (.iload_n 1, 1) := by decide +kernel
theorem dX1_closeHour_31 : decode cX1_closeHour 31 = .ok (.aload_n 0, 1) := by decide +kernel
theorem dX1_closeHour_32 : decode cX1_closeHour 32 = .ok (.iload_n 1, 1) := by decide +kernel
theorem dX1_closeHour_33 : decode cX1_closeHour 33 = .ok (.invokevirtual 51, 3) := by decide +kernel
theorem dX1_closeHour_36 : decode cX1_closeHour 36 = .ok (.invokevirtual 55, 3) := by decide +kernel
theorem dX1_closeHour_39 : decode cX1_closeHour 39 = .ok (.aload_n 0, 1) := by decide +kernel
theorem dX1_closeHour_40 : decode cX1_closeHour 40 = .ok (.iload_n 1, 1) := by decide +kernel
theorem dX1_closeHour_41 : decode cX1_closeHour 41 = .ok (.iload_n 3, 1) := by decide +kernel
theorem dX1_closeHour_42 : decode cX1_closeHour 42 = .ok (.invokevirtual 59, 3) := by decide +kernel
theorem dX1_closeHour_45 : decode cX1_closeHour 45 = .ok (.aload_n 0, 1) := by decide +kernel
theorem dX1_closeHour_46 : decode cX1_closeHour 46 = .ok (.getfield 27, 3) := by decide +kernel
theorem dX1_closeHour_49 : decode cX1_closeHour 49 = .ok (.iconst 0, 1) := by decide +kernel
theorem dX1_closeHour_50 : decode cX1_closeHour 50 = .ok (.iload_n 1, 1) := by decide +kernel
theorem dX1_closeHour_51 : decode cX1_closeHour 51 = .ok (.aload 4, 2) := by decide +kernel
theorem dX1_closeHour_53 : decode cX1_closeHour 53 = .ok (.getfield 62, 3) := by decide +kernel
theorem dX1_closeHour_56 : decode cX1_closeHour 56 = .ok (.invokevirtual 67, 3) := by decide +kernel
theorem dX1_closeHour_59 : decode cX1_closeHour 59 = .ok (.aload_n 0, 1) := by decide +kernel
theorem dX1_closeHour_60 : decode cX1_closeHour 60 = .ok (.getfield 27, 3) := by decide +kernel
theorem dX1_closeHour_63 : decode cX1_closeHour 63 = .ok (.iconst 1, 1) := by decide +kernel
theorem dX1_closeHour_64 : decode cX1_closeHour 64 = .ok (.iload_n 1, 1) := by decide +kernel
theorem dX1_closeHour_65 : decode cX1_closeHour 65 = .ok (.aload_n 0, 1) := by decide +kernel
theorem dX1_closeHour_66 : decode cX1_closeHour 66 = .ok (.getfield 15, 3) := by decide +kernel
theorem dX1_closeHour_69 : decode cX1_closeHour 69 = .ok (.invokevirtual 67, 3) := by decide +kernel
theorem dX1_closeHour_72 : decode cX1_closeHour 72 = .ok (.aload_n 0, 1) := by decide +kernel
theorem dX1_closeHour_73 : decode cX1_closeHour 73 = .ok (.getfield 27, 3) := by decide +kernel
theorem dX1_closeHour_76 : decode cX1_closeHour 76 = .ok (.iconst 5, 1) := by decide +kernel
theorem dX1_closeHour_77 : decode cX1_closeHour 77 = .ok (.iload_n 1, 1) := by decide +kernel
theorem dX1_closeHour_78 : decode cX1_closeHour 78 = .ok (.iload_n 2, 1) := by decide +kernel
theorem dX1_closeHour_79 : decode cX1_closeHour 79 = .ok (.invokevirtual 67, 3) := by decide +kernel
theorem dX1_closeHour_82 : decode cX1_closeHour 82 = .ok (.aload_n 0, 1) := by decide +kernel
theorem dX1_closeHour_83 : decode cX1_closeHour 83 = .ok (.getfield 15, 3) := by decide +kernel
theorem dX1_closeHour_86 : decode cX1_closeHour 86 = .ok (.ireturn, 1) := by decide +kernel
theorem dX1_leastTaken_0 : decode cX1_leastTaken 0 = .ok (.iconst 0, 1) := by decide +kernel
theorem dX1_leastTaken_1 : decode cX1_leastTaken 1 = .ok (.istore_n 1, 1) := by decide +kernel
theorem dX1_leastTaken_2 : decode cX1_leastTaken 2 = .ok (.iload_n 1, 1) := by decide +kernel
theorem dX1_leastTaken_3 : decode cX1_leastTaken 3 = .ok (.bipush 24, 2) := by decide +kernel
theorem dX1_leastTaken_5 : decode cX1_leastTaken 5 = .ok (.if_icmp .ge 31, 3) := by decide +kernel
theorem dX1_leastTaken_8 : decode cX1_leastTaken 8 = .ok (.aload_n 0, 1) := by decide +kernel
theorem dX1_leastTaken_9 : decode cX1_leastTaken 9 = .ok (.getfield 19, 3) := by decide +kernel
theorem dX1_leastTaken_12 : decode cX1_leastTaken 12 = .ok (.iload_n 1, 1) := by decide +kernel
theorem dX1_leastTaken_13 : decode cX1_leastTaken 13 = .ok (.invokevirtual 73, 3) := by decide +kernel
theorem dX1_leastTaken_16 : decode cX1_leastTaken 16 = .ok (.astore_n 2, 1) := by decide +kernel
theorem dX1_leastTaken_17 : decode cX1_leastTaken 17 = .ok (.aload_n 2, 1) := by decide +kernel
theorem dX1_leastTaken_18 : decode cX1_leastTaken 18 = .ok (.ifnull 12, 3) := by decide +kernel
theorem dX1_leastTaken_21 : decode cX1_leastTaken 21 = .ok (.aload_n 2, 1) := by decide +kernel
theorem dX1_leastTaken_22 : decode cX1_leastTaken 22 = .ok (.invokevirtual 79, 3) := by decide +kernel
theorem dX1_leastTaken_25 : decode cX1_leastTaken 25 = .ok (.ifCond .eq 5, 3) := by decide +kernel
theorem dX1_leastTaken_28 : decode cX1_leastTaken 28 = .ok (.aload_n 2, 1) := by decide +kernel
theorem dX1_leastTaken_29 : decode cX1_leastTaken 29 = .ok (.areturn, 1) := by decide +kernel
theorem dX1_leastTaken_30 : decode cX1_leastTaken 30 = .ok (.iinc 1 1, 3) := by decide +kernel
theorem dX1_leastTaken_33 : decode cX1_leastTaken 33 = .ok (.goto (-31), 3) := by decide +kernel
theorem dX1_leastTaken_36 : decode cX1_leastTaken 36 = .ok (.aconst_null, 1) := by decide +kernel
theorem dX1_leastTaken_37 : decode cX1_leastTaken 37 = .ok (.areturn, 1) := by decide +kernel
theorem dX1_hold_0 : decode cX1_hold 0 = .ok (.aload_n 0, 1) := by decide +kernel
theorem dX1_hold_1 : decode cX1_hold 1 = .ok (.getfield 23, 3) := by decide +kernel
theorem dX1_hold_4 : decode cX1_hold 4 = .ok (.aload_n 1, 1) := by decide +kernel
theorem dX1_hold_5 : decode cX1_hold 5 = .ok (.getfield 62, 3) := by decide +kernel
theorem dX1_hold_8 : decode cX1_hold 8 = .ok (.iload_n 2, 1) := by decide +kernel
theorem dX1_hold_9 : decode cX1_hold 9 = .ok (.invokevirtual 83, 3) := by decide +kernel
theorem dX1_hold_12 : decode cX1_hold 12 = .ok (.iconst 0, 1) := by decide +kernel
theorem dX1_hold_13 : decode cX1_hold 13 = .ok (.istore_n 3, 1) := by decide +kernel
theorem dX1_hold_14 : decode cX1_hold 14 = .ok (.iload_n 3, 1) := by decide +kernel
theorem dX1_hold_15 : decode cX1_hold 15 = .ok (.bipush 24, 2) := by decide +kernel
theorem dX1_hold_17 : decode cX1_hold 17 = .ok (.if_icmp .ge 136, 3) := by decide +kernel
theorem dX1_hold_20 : decode cX1_hold 20 = .ok (.aload_n 0, 1) := by decide +kernel
theorem dX1_hold_21 : decode cX1_hold 21 = .ok (.getfield 9, 3) := by decide +kernel
theorem dX1_hold_24 : decode cX1_hold 24 = .ok (.iload_n 3, 1) := by decide +kernel
theorem dX1_hold_25 : decode cX1_hold 25 = .ok (.iconst 0, 1) := by decide +kernel
theorem dX1_hold_26 : decode cX1_hold 26 = .ok (.iastore, 1) := by decide +kernel
theorem dX1_hold_27 : decode cX1_hold 27 = .ok (.aload_n 0, 1) := by decide +kernel
theorem dX1_hold_28 : decode cX1_hold 28 = .ok (.getfield 19, 3) := by decide +kernel
theorem dX1_hold_31 : decode cX1_hold 31 = .ok (.iload_n 3, 1) := by decide +kernel
theorem dX1_hold_32 : decode cX1_hold 32 = .ok (.invokevirtual 73, 3) := by decide +kernel
theorem dX1_hold_35 : decode cX1_hold 35 = .ok (.astore 4, 2) := by decide +kernel
theorem dX1_hold_37 : decode cX1_hold 37 = .ok (.aload 4, 2) := by decide +kernel
theorem dX1_hold_39 : decode cX1_hold 39 = .ok (.ifnull 108, 3) := by decide +kernel
theorem dX1_hold_42 : decode cX1_hold 42 = .ok (.aload 4, 2) := by decide +kernel
theorem dX1_hold_44 : decode cX1_hold 44 = .ok (.invokevirtual 79, 3) := by decide +kernel
theorem dX1_hold_47 : decode cX1_hold 47 = .ok (.ifCond .eq 100, 3) := by decide +kernel
theorem dX1_hold_50 : decode cX1_hold 50 = .ok (.aload_n 0, 1) := by decide +kernel
theorem dX1_hold_51 : decode cX1_hold 51 = .ok (.getfield 23, 3) := by decide +kernel
theorem dX1_hold_54 : decode cX1_hold 54 = .ok (.iload_n 3, 1) := by decide +kernel
theorem dX1_hold_55 : decode cX1_hold 55 = .ok (.invokevirtual 88, 3) := by decide +kernel
theorem dX1_hold_58 : decode cX1_hold 58 = .ok (.iconst (-1), 1) := by decide +kernel
theorem dX1_hold_59 : decode cX1_hold 59 = .ok (.if_icmp .ne 6, 3) := by decide +kernel
theorem dX1_hold_62 : decode cX1_hold 62 = .ok (.goto 85, 3) := by decide +kernel
theorem dX1_hold_65 : decode cX1_hold 65 = .ok (.aload_n 0, 1) := by decide +kernel
theorem dX1_hold_66 : decode cX1_hold 66 = .ok (.getfield 31, 3) := by decide +kernel
theorem dX1_hold_69 : decode cX1_hold 69 = .ok (.aload 4, 2) := by decide +kernel
theorem dX1_hold_71 : decode cX1_hold 71 = .ok (.iload_n 2, 1) := by decide +kernel
theorem dX1_hold_72 : decode cX1_hold 72 = .ok (.invokevirtual 92, 3) := by decide +kernel
theorem dX1_hold_75 : decode cX1_hold 75 = .ok (.istore 5, 2) := by decide +kernel
theorem dX1_hold_77 : decode cX1_hold 77 = .ok (.aload_n 0, 1) := by decide +kernel
theorem dX1_hold_78 : decode cX1_hold 78 = .ok (.getfield 27, 3) := by decide +kernel
theorem dX1_hold_81 : decode cX1_hold 81 = .ok (.iconst 1, 1) := by decide +kernel
theorem dX1_hold_82 : decode cX1_hold 82 = .ok (.iload_n 2, 1) := by decide +kernel
theorem dX1_hold_83 : decode cX1_hold 83 = .ok (.iload_n 3, 1) := by decide +kernel
theorem dX1_hold_84 : decode cX1_hold 84 = .ok (.iload 5, 2) := by decide +kernel
theorem dX1_hold_86 : decode cX1_hold 86 = .ok (.invokevirtual 98, 3) := by decide +kernel
theorem dX1_hold_89 : decode cX1_hold 89 = .ok (.aload_n 0, 1) := by decide +kernel
theorem dX1_hold_90 : decode cX1_hold 90 = .ok (.getfield 27, 3) := by decide +kernel
theorem dX1_hold_93 : decode cX1_hold 93 = .ok (.iconst 4, 1) := by decide +kernel
theorem dX1_hold_94 : decode cX1_hold 94 = .ok (.iload_n 2, 1) := by decide +kernel
theorem dX1_hold_95 : decode cX1_hold 95 = .ok (.iload_n 3, 1) := by decide +kernel
theorem dX1_hold_96 : decode cX1_hold 96 = .ok (.aload_n 0, 1) := by decide +kernel
theorem dX1_hold_97 : decode cX1_hold 97 = .ok (.getfield 23, 3) := by decide +kernel
theorem dX1_hold_100 : decode cX1_hold 100 = .ok (.iload_n 3, 1) := by decide +kernel
theorem dX1_hold_101 : decode cX1_hold 101 = .ok (.invokevirtual 102, 3) := by decide +kernel
theorem dX1_hold_104 : decode cX1_hold 104 = .ok (.ineg, 1) := by decide +kernel
theorem dX1_hold_105 : decode cX1_hold 105 = .ok (.aload 4, 2) := by decide +kernel
theorem dX1_hold_107 : decode cX1_hold 107 = .ok (.getfield 105, 3) := by decide +kernel
theorem dX1_hold_110 : decode cX1_hold 110 = .ok (.isub, 1) := by decide +kernel
theorem dX1_hold_111 : decode cX1_hold 111 = .ok (.aload_n 1, 1) := by decide +kernel
theorem dX1_hold_112 : decode cX1_hold 112 = .ok (.getfield 105, 3) := by decide +kernel
theorem dX1_hold_115 : decode cX1_hold 115 = .ok (.iadd, 1) := by decide +kernel
theorem dX1_hold_116 : decode cX1_hold 116 = .ok (.invokevirtual 98, 3) := by decide +kernel
theorem dX1_hold_119 : decode cX1_hold 119 = .ok (.aload_n 0, 1) := by decide +kernel
theorem dX1_hold_120 : decode cX1_hold 120 = .ok (.getfield 9, 3) := by decide +kernel
theorem dX1_hold_123 : decode cX1_hold 123 = .ok (.iload_n 3, 1) := by decide +kernel
theorem dX1_hold_124 : decode cX1_hold 124 = .ok (.aload_n 0, 1) := by decide +kernel
theorem dX1_hold_125 : decode cX1_hold 125 = .ok (.getfield 31, 3) := by decide +kernel
theorem dX1_hold_128 : decode cX1_hold 128 = .ok (.aload 4, 2) := by decide +kernel
theorem dX1_hold_130 : decode cX1_hold 130 = .ok (.iload_n 2, 1) := by decide +kernel
theorem dX1_hold_131 : decode cX1_hold 131 = .ok (.iload 5, 2) := by decide +kernel
theorem dX1_hold_133 : decode cX1_hold 133 = .ok (.invokevirtual 108, 3) := by decide +kernel
theorem dX1_hold_136 : decode cX1_hold 136 = .ok (.iastore, 1) := by decide +kernel
theorem dX1_hold_137 : decode cX1_hold 137 = .ok (.aload_n 0, 1) := by decide +kernel
theorem dX1_hold_138 : decode cX1_hold 138 = .ok (.dup, 1) := by decide +kernel
theorem dX1_hold_139 : decode cX1_hold 139 = .ok (.getfield 15, 3) := by decide +kernel
theorem dX1_hold_142 : decode cX1_hold 142 = .ok (.iconst 1, 1) := by decide +kernel
theorem dX1_hold_143 : decode cX1_hold 143 = .ok (.iadd, 1) := by decide +kernel
theorem dX1_hold_144 : decode cX1_hold 144 = .ok (.putfield 15, 3) := by decide +kernel
theorem dX1_hold_147 : decode cX1_hold 147 = .ok (.iinc 3 1, 3) := by decide +kernel
theorem dX1_hold_150 : decode cX1_hold 150 = .ok (.goto (-136), 3) := by decide +kernel
theorem dX1_hold_153 : decode cX1_hold 153 = .ok (.return_, 1) := by decide +kernel
theorem dX1_weigh_0 : decode cX1_weigh 0 = .ok (.lconst 0, 1) := by decide +kernel
theorem dX1_weigh_1 : decode cX1_weigh 1 = .ok (.lstore_n 3, 1) := by decide +kernel
theorem dX1_weigh_2 : decode cX1_weigh 2 = .ok (.iconst 0, 1) := by decide +kernel
theorem dX1_weigh_3 : decode cX1_weigh 3 = .ok (.istore 5, 2) := by decide +kernel
theorem dX1_weigh_5 : decode cX1_weigh 5 = .ok (.iload 5, 2) := by decide +kernel
theorem dX1_weigh_7 : decode cX1_weigh 7 = .ok (.bipush 24, 2) := by decide +kernel
theorem dX1_weigh_9 : decode cX1_weigh 9 = .ok (.if_icmp .ge 20, 3) := by decide +kernel
theorem dX1_weigh_12 : decode cX1_weigh 12 = .ok (.lload_n 3, 1) := by decide +kernel
theorem dX1_weigh_13 : decode cX1_weigh 13 = .ok (.aload_n 0, 1) := by decide +kernel
theorem dX1_weigh_14 : decode cX1_weigh 14 = .ok (.getfield 9, 3) := by decide +kernel
theorem dX1_weigh_17 : decode cX1_weigh 17 = .ok (.iload 5, 2) := by decide +kernel
theorem dX1_weigh_19 : decode cX1_weigh 19 = .ok (.iaload, 1) := by decide +kernel
theorem dX1_weigh_20 : decode cX1_weigh 20 = .ok (.i2l, 1) := by decide +kernel
theorem dX1_weigh_21 : decode cX1_weigh 21 = .ok (.ladd, 1) := by decide +kernel
theorem dX1_weigh_22 : decode cX1_weigh 22 = .ok (.lstore_n 3, 1) := by decide +kernel
theorem dX1_weigh_23 : decode cX1_weigh 23 = .ok (.iinc 5 1, 3) := by decide +kernel
theorem dX1_weigh_26 : decode cX1_weigh 26 = .ok (.goto (-21), 3) := by decide +kernel
theorem dX1_weigh_29 : decode cX1_weigh 29 = .ok (.lconst 1, 1) := by decide +kernel
theorem dX1_weigh_30 : decode cX1_weigh 30 = .ok (.iload_n 2, 1) := by decide +kernel
theorem dX1_weigh_31 : decode cX1_weigh 31 = .ok (.i2l, 1) := by decide +kernel
theorem dX1_weigh_32 : decode cX1_weigh 32 = .ok (.lload_n 3, 1) := by decide +kernel
theorem dX1_weigh_33 : decode cX1_weigh 33 = .ok (.lmul, 1) := by decide +kernel
theorem dX1_weigh_34 : decode cX1_weigh 34 = .ok (.ldc2_w 112, 3) := by decide +kernel
theorem dX1_weigh_37 : decode cX1_weigh 37 = .ok (.ldiv, 1) := by decide +kernel
theorem dX1_weigh_38 : decode cX1_weigh 38 = .ok (.invokestatic 114, 3) := by decide +kernel
theorem dX1_weigh_41 : decode cX1_weigh 41 = .ok (.lstore 5, 2) := by decide +kernel
theorem dX1_weigh_43 : decode cX1_weigh 43 = .ok (.iconst 0, 1) := by decide +kernel
theorem dX1_weigh_44 : decode cX1_weigh 44 = .ok (.istore 7, 2) := by decide +kernel
theorem dX1_weigh_46 : decode cX1_weigh 46 = .ok (.iload 7, 2) := by decide +kernel
theorem dX1_weigh_48 : decode cX1_weigh 48 = .ok (.bipush 24, 2) := by decide +kernel
theorem dX1_weigh_50 : decode cX1_weigh 50 = .ok (.if_icmp .ge 34, 3) := by decide +kernel
theorem dX1_weigh_53 : decode cX1_weigh 53 = .ok (.aload_n 0, 1) := by decide +kernel
theorem dX1_weigh_54 : decode cX1_weigh 54 = .ok (.getfield 27, 3) := by decide +kernel
theorem dX1_weigh_57 : decode cX1_weigh 57 = .ok (.iconst 3, 1) := by decide +kernel
theorem dX1_weigh_58 : decode cX1_weigh 58 = .ok (.iload_n 1, 1) := by decide +kernel
theorem dX1_weigh_59 : decode cX1_weigh 59 = .ok (.iload 7, 2) := by decide +kernel
theorem dX1_weigh_61 : decode cX1_weigh 61 = .ok (.aload_n 0, 1) := by decide +kernel
theorem dX1_weigh_62 : decode cX1_weigh 62 = .ok (.getfield 9, 3) := by decide +kernel
theorem dX1_weigh_65 : decode cX1_weigh 65 = .ok (.iload 7, 2) := by decide +kernel
theorem dX1_weigh_67 : decode cX1_weigh 67 = .ok (.iaload, 1) := by decide +kernel
theorem dX1_weigh_68 : decode cX1_weigh 68 = .ok (.i2l, 1) := by decide +kernel
theorem dX1_weigh_69 : decode cX1_weigh 69 = .ok (.lload 5, 2) := by decide +kernel
theorem dX1_weigh_71 : decode cX1_weigh 71 = .ok (.invokestatic 120, 3) := by decide +kernel
theorem dX1_weigh_74 : decode cX1_weigh 74 = .ok (.l2i, 1) := by decide +kernel
theorem dX1_weigh_75 : decode cX1_weigh 75 = .ok (.invokevirtual 98, 3) := by decide +kernel
theorem dX1_weigh_78 : decode cX1_weigh 78 = .ok (.iinc 7 1, 3) := by decide +kernel
theorem dX1_weigh_81 : decode cX1_weigh 81 = .ok (.goto (-35), 3) := by decide +kernel
theorem dX1_weigh_84 : decode cX1_weigh 84 = .ok (.return_, 1) := by decide +kernel
theorem dX1_makePaper_0 : decode cX1_makePaper 0 = .ok (.lconst 0, 1) := by decide +kernel
theorem dX1_makePaper_1 : decode cX1_makePaper 1 = .ok (.lstore_n 2, 1) := by decide +kernel
theorem dX1_makePaper_2 : decode cX1_makePaper 2 = .ok (.lconst 0, 1) := by decide +kernel
theorem dX1_makePaper_3 : decode cX1_makePaper 3 = .ok (.lstore 4, 2) := by decide +kernel
theorem dX1_makePaper_5 : decode cX1_makePaper 5 = .ok (.iconst 0, 1) := by decide +kernel
theorem dX1_makePaper_6 : decode cX1_makePaper 6 = .ok (.istore 6, 2) := by decide +kernel
theorem dX1_makePaper_8 : decode cX1_makePaper 8 = .ok (.iload 6, 2) := by decide +kernel
theorem dX1_makePaper_10 : decode cX1_makePaper 10 = .ok (.bipush 24, 2) := by decide +kernel
theorem dX1_makePaper_12 : decode cX1_makePaper 12 = .ok (.if_icmp .ge 73, 3) := by decide +kernel
theorem dX1_makePaper_15 : decode cX1_makePaper 15 = .ok (.aload_n 0, 1) := by decide +kernel
theorem dX1_makePaper_16 : decode cX1_makePaper 16 = .ok (.getfield 27, 3) := by decide +kernel
theorem dX1_makePaper_19 : decode cX1_makePaper 19 = .ok (.iconst 3, 1) := by decide +kernel
theorem dX1_makePaper_20 : decode cX1_makePaper 20 = .ok (.iload_n 1, 1) := by decide +kernel
theorem dX1_makePaper_21 : decode cX1_makePaper 21 = .ok (.iload 6, 2) := by decide +kernel
theorem dX1_makePaper_23 : decode cX1_makePaper 23 = .ok (.invokevirtual 123, 3) := by decide +kernel
theorem dX1_makePaper_26 : decode cX1_makePaper 26 = .ok (.istore 7, 2) := by decide +kernel
theorem dX1_makePaper_28 : decode cX1_makePaper 28 = .ok (.aload_n 0, 1) := by decide +kernel
theorem dX1_makePaper_29 : decode cX1_makePaper 29 = .ok (.getfield 27, 3) := by decide +kernel
theorem dX1_makePaper_32 : decode cX1_makePaper 32 = .ok (.iconst 1, 1) := by decide +kernel
theorem dX1_makePaper_33 : decode cX1_makePaper 33 = .ok (.iload_n 1, 1) := by decide +kernel
theorem dX1_makePaper_34 : decode cX1_makePaper 34 = .ok (.iload 6, 2) := by decide +kernel
theorem dX1_makePaper_36 : decode cX1_makePaper 36 = .ok (.invokevirtual 123, 3) := by decide +kernel
theorem dX1_makePaper_39 : decode cX1_makePaper 39 = .ok (.istore 8, 2) := by decide +kernel
theorem dX1_makePaper_41 : decode cX1_makePaper 41 = .ok (.iload 8, 2) := by decide +kernel
theorem dX1_makePaper_43 : decode cX1_makePaper 43 = .ok (.ldc 127, 2) := by decide +kernel
theorem dX1_makePaper_45 : decode cX1_makePaper 45 = .ok (.if_icmp .eq 34, 3) := by decide +kernel
theorem dX1_makePaper_48 : decode cX1_makePaper 48 = .ok (.lload_n 2, 1) := by decide +kernel
theorem dX1_makePaper_49 : decode cX1_makePaper 49 = .ok (.iload 7, 2) := by decide +kernel
theorem dX1_makePaper_51 : decode cX1_makePaper 51 = .ok (.i2l, 1) := by decide +kernel
theorem dX1_makePaper_52 : decode cX1_makePaper 52 = .ok (.ladd, 1) := by decide +kernel
theorem dX1_makePaper_53 : decode cX1_makePaper 53 = .ok (.lstore_n 2, 1) := by decide +kernel
theorem dX1_makePaper_54 : decode cX1_makePaper 54 = .ok (.lload 4, 2) := by decide +kernel
theorem dX1_makePaper_56 : decode cX1_makePaper 56 = .ok (.iload 7, 2) := by decide +kernel
theorem dX1_makePaper_58 : decode cX1_makePaper 58 = .ok (.i2l, 1) := by decide +kernel
theorem dX1_makePaper_59 : decode cX1_makePaper 59 = .ok (.iload 8, 2) := by decide +kernel
theorem dX1_makePaper_61 : decode cX1_makePaper 61 = .ok (.i2l, 1) := by decide +kernel
theorem dX1_makePaper_62 : decode cX1_makePaper 62 = .ok (.aload_n 0, 1) := by decide +kernel
theorem dX1_makePaper_63 : decode cX1_makePaper 63 = .ok (.getfield 27, 3) := by decide +kernel
theorem dX1_makePaper_66 : decode cX1_makePaper 66 = .ok (.iconst 4, 1) := by decide +kernel
theorem dX1_makePaper_67 : decode cX1_makePaper 67 = .ok (.iload_n 1, 1) := by decide +kernel
theorem dX1_makePaper_68 : decode cX1_makePaper 68 = .ok (.iload 6, 2) := by decide +kernel
theorem dX1_makePaper_70 : decode cX1_makePaper 70 = .ok (.invokevirtual 123, 3) := by decide +kernel
theorem dX1_makePaper_73 : decode cX1_makePaper 73 = .ok (.i2l, 1) := by decide +kernel
theorem dX1_makePaper_74 : decode cX1_makePaper 74 = .ok (.ladd, 1) := by decide +kernel
theorem dX1_makePaper_75 : decode cX1_makePaper 75 = .ok (.lmul, 1) := by decide +kernel
theorem dX1_makePaper_76 : decode cX1_makePaper 76 = .ok (.ladd, 1) := by decide +kernel
theorem dX1_makePaper_77 : decode cX1_makePaper 77 = .ok (.lstore 4, 2) := by decide +kernel
theorem dX1_makePaper_79 : decode cX1_makePaper 79 = .ok (.iinc 6 1, 3) := by decide +kernel
theorem dX1_makePaper_82 : decode cX1_makePaper 82 = .ok (.goto (-74), 3) := by decide +kernel
theorem dX1_makePaper_85 : decode cX1_makePaper 85 = .ok (.aload_n 0, 1) := by decide +kernel
theorem dX1_makePaper_86 : decode cX1_makePaper 86 = .ok (.getfield 27, 3) := by decide +kernel
theorem dX1_makePaper_89 : decode cX1_makePaper 89 = .ok (.iconst 2, 1) := by decide +kernel
theorem dX1_makePaper_90 : decode cX1_makePaper 90 = .ok (.iload_n 1, 1) := by decide +kernel
theorem dX1_makePaper_91 : decode cX1_makePaper 91 = .ok (.lload_n 2, 1) := by decide +kernel
theorem dX1_makePaper_92 : decode cX1_makePaper 92 = .ok (.l2i, 1) := by decide +kernel
theorem dX1_makePaper_93 : decode cX1_makePaper 93 = .ok (.invokevirtual 67, 3) := by decide +kernel
theorem dX1_makePaper_96 : decode cX1_makePaper 96 = .ok (.aload_n 0, 1) := by decide +kernel
theorem dX1_makePaper_97 : decode cX1_makePaper 97 = .ok (.getfield 27, 3) := by decide +kernel
theorem dX1_makePaper_100 : decode cX1_makePaper 100 = .ok (.iconst 3, 1) := by decide +kernel
theorem dX1_makePaper_101 : decode cX1_makePaper 101 = .ok (.iload_n 1, 1) := by decide +kernel
theorem dX1_makePaper_102 : decode cX1_makePaper 102 = .ok (.lload_n 2, 1) := by decide +kernel
theorem dX1_makePaper_103 : decode cX1_makePaper 103 = .ok (.lconst 0, 1) := by decide +kernel
theorem dX1_makePaper_104 : decode cX1_makePaper 104 = .ok (.lcmp, 1) := by decide +kernel
theorem dX1_makePaper_105 : decode cX1_makePaper 105 = .ok (.ifCond .le 13, 3) := by decide +kernel
theorem dX1_makePaper_108 : decode cX1_makePaper 108 = .ok (.lload 4, 2) := by decide +kernel
theorem dX1_makePaper_110 : decode cX1_makePaper 110 = .ok (.lload_n 2, 1) := by decide +kernel
theorem dX1_makePaper_111 : decode cX1_makePaper 111 = .ok (.invokestatic 128, 3) := by decide +kernel
theorem dX1_makePaper_114 : decode cX1_makePaper 114 = .ok (.l2i, 1) := by decide +kernel
theorem dX1_makePaper_115 : decode cX1_makePaper 115 = .ok (.goto 4, 3) := by decide +kernel
theorem dX1_makePaper_118 : decode cX1_makePaper 118 = .ok (.iconst 0, 1) := by decide +kernel
theorem dX1_makePaper_119 : decode cX1_makePaper 119 = .ok (.invokevirtual 67, 3) := by decide +kernel
theorem dX1_makePaper_122 : decode cX1_makePaper 122 = .ok (.lload_n 2, 1) := by decide +kernel
theorem dX1_makePaper_123 : decode cX1_makePaper 123 = .ok (.lconst 0, 1) := by decide +kernel
theorem dX1_makePaper_124 : decode cX1_makePaper 124 = .ok (.lcmp, 1) := by decide +kernel
theorem dX1_makePaper_125 : decode cX1_makePaper 125 = .ok (.ifCond .le 12, 3) := by decide +kernel
theorem dX1_makePaper_128 : decode cX1_makePaper 128 = .ok (.lload 4, 2) := by decide +kernel
theorem dX1_makePaper_130 : decode cX1_makePaper 130 = .ok (.lload_n 2, 1) := by decide +kernel
theorem dX1_makePaper_131 : decode cX1_makePaper 131 = .ok (.invokestatic 131, 3) := by decide +kernel
theorem dX1_makePaper_134 : decode cX1_makePaper 134 = .ok (.goto 4, 3) := by decide +kernel
theorem dX1_makePaper_137 : decode cX1_makePaper 137 = .ok (.lconst 0, 1) := by decide +kernel
theorem dX1_makePaper_138 : decode cX1_makePaper 138 = .ok (.lreturn, 1) := by decide +kernel
theorem dX1_tellXs_0 : decode cX1_tellXs 0 = .ok (.iconst 0, 1) := by decide +kernel
theorem dX1_tellXs_1 : decode cX1_tellXs 1 = .ok (.istore 4, 2) := by decide +kernel
theorem dX1_tellXs_3 : decode cX1_tellXs 3 = .ok (.iload 4, 2) := by decide +kernel
theorem dX1_tellXs_5 : decode cX1_tellXs 5 = .ok (.bipush 24, 2) := by decide +kernel
theorem dX1_tellXs_7 : decode cX1_tellXs 7 = .ok (.if_icmp .ge 96, 3) := by decide +kernel
theorem dX1_tellXs_10 : decode cX1_tellXs 10 = .ok (.aload_n 0, 1) := by decide +kernel
theorem dX1_tellXs_11 : decode cX1_tellXs 11 = .ok (.getfield 27, 3) := by decide +kernel
theorem dX1_tellXs_14 : decode cX1_tellXs 14 = .ok (.iconst 4, 1) := by decide +kernel
theorem dX1_tellXs_15 : decode cX1_tellXs 15 = .ok (.iload_n 1, 1) := by decide +kernel
theorem dX1_tellXs_16 : decode cX1_tellXs 16 = .ok (.iload 4, 2) := by decide +kernel
theorem dX1_tellXs_18 : decode cX1_tellXs 18 = .ok (.invokevirtual 123, 3) := by decide +kernel
theorem dX1_tellXs_21 : decode cX1_tellXs 21 = .ok (.istore 5, 2) := by decide +kernel
theorem dX1_tellXs_23 : decode cX1_tellXs 23 = .ok (.iload 5, 2) := by decide +kernel
theorem dX1_tellXs_25 : decode cX1_tellXs 25 = .ok (.ldc 127, 2) := by decide +kernel
theorem dX1_tellXs_27 : decode cX1_tellXs 27 = .ok (.if_icmp .ne 6, 3) := by decide +kernel
theorem dX1_tellXs_30 : decode cX1_tellXs 30 = .ok (.goto 67, 3) := by decide +kernel
theorem dX1_tellXs_33 : decode cX1_tellXs 33 = .ok (.lload_n 2, 1) := by decide +kernel
theorem dX1_tellXs_34 : decode cX1_tellXs 34 = .ok (.iload 5, 2) := by decide +kernel
theorem dX1_tellXs_36 : decode cX1_tellXs 36 = .ok (.i2l, 1) := by decide +kernel
theorem dX1_tellXs_37 : decode cX1_tellXs 37 = .ok (.lsub, 1) := by decide +kernel
theorem dX1_tellXs_38 : decode cX1_tellXs 38 = .ok (.lstore 6, 2) := by decide +kernel
theorem dX1_tellXs_40 : decode cX1_tellXs 40 = .ok (.aload_n 0, 1) := by decide +kernel
theorem dX1_tellXs_41 : decode cX1_tellXs 41 = .ok (.getfield 27, 3) := by decide +kernel
theorem dX1_tellXs_44 : decode cX1_tellXs 44 = .ok (.iconst 1, 1) := by decide +kernel
theorem dX1_tellXs_45 : decode cX1_tellXs 45 = .ok (.iload_n 1, 1) := by decide +kernel
theorem dX1_tellXs_46 : decode cX1_tellXs 46 = .ok (.iload 4, 2) := by decide +kernel
theorem dX1_tellXs_48 : decode cX1_tellXs 48 = .ok (.invokevirtual 123, 3) := by decide +kernel
theorem dX1_tellXs_51 : decode cX1_tellXs 51 = .ok (.istore 8, 2) := by decide +kernel
theorem dX1_tellXs_53 : decode cX1_tellXs 53 = .ok (.aload_n 0, 1) := by decide +kernel
theorem dX1_tellXs_54 : decode cX1_tellXs 54 = .ok (.getfield 27, 3) := by decide +kernel
theorem dX1_tellXs_57 : decode cX1_tellXs 57 = .ok (.iconst 0, 1) := by decide +kernel
theorem dX1_tellXs_58 : decode cX1_tellXs 58 = .ok (.iload_n 1, 1) := by decide +kernel
theorem dX1_tellXs_59 : decode cX1_tellXs 59 = .ok (.iload 4, 2) := by decide +kernel
theorem dX1_tellXs_61 : decode cX1_tellXs 61 = .ok (.lload 6, 2) := by decide +kernel
theorem dX1_tellXs_63 : decode cX1_tellXs 63 = .ok (.l2i, 1) := by decide +kernel
theorem dX1_tellXs_64 : decode cX1_tellXs 64 = .ok (.invokevirtual 98, 3) := by decide +kernel
theorem dX1_tellXs_67 : decode cX1_tellXs 67 = .ok (.iload 8, 2) := by decide +kernel
theorem dX1_tellXs_69 : decode cX1_tellXs 69 = .ok (.ldc 127, 2) := by decide +kernel
theorem dX1_tellXs_71 : decode cX1_tellXs 71 = .ok (.if_icmp .eq 26, 3) := by decide +kernel
theorem dX1_tellXs_74 : decode cX1_tellXs 74 = .ok (.aload_n 0, 1) := by decide +kernel
theorem dX1_tellXs_75 : decode cX1_tellXs 75 = .ok (.getfield 27, 3) := by decide +kernel
theorem dX1_tellXs_78 : decode cX1_tellXs 78 = .ok (.iconst 2, 1) := by decide +kernel
theorem dX1_tellXs_79 : decode cX1_tellXs 79 = .ok (.iload_n 1, 1) := by decide +kernel
theorem dX1_tellXs_80 : decode cX1_tellXs 80 = .ok (.iload 4, 2) := by decide +kernel
theorem dX1_tellXs_82 : decode cX1_tellXs 82 = .ok (.lload 6, 2) := by decide +kernel
theorem dX1_tellXs_84 : decode cX1_tellXs 84 = .ok (.iload 8, 2) := by decide +kernel
theorem dX1_tellXs_86 : decode cX1_tellXs 86 = .ok (.i2l, 1) := by decide +kernel
theorem dX1_tellXs_87 : decode cX1_tellXs 87 = .ok (.lsub, 1) := by decide +kernel
theorem dX1_tellXs_88 : decode cX1_tellXs 88 = .ok (.sipush 30000, 3) := by decide +kernel
theorem dX1_tellXs_91 : decode cX1_tellXs 91 = .ok (.invokestatic 134, 3) := by decide +kernel
theorem dX1_tellXs_94 : decode cX1_tellXs 94 = .ok (.invokevirtual 98, 3) := by decide +kernel
theorem dX1_tellXs_97 : decode cX1_tellXs 97 = .ok (.iinc 4 1, 3) := by decide +kernel
theorem dX1_tellXs_100 : decode cX1_tellXs 100 = .ok (.goto (-97), 3) := by decide +kernel
theorem dX1_tellXs_103 : decode cX1_tellXs 103 = .ok (.return_, 1) := by decide +kernel
theorem dX1_judgeAll_0 : decode cX1_judgeAll 0 = .ok (.iconst 0, 1) := by decide +kernel
theorem dX1_judgeAll_1 : decode cX1_judgeAll 1 = .ok (.istore_n 3, 1) := by decide +kernel
theorem dX1_judgeAll_2 : decode cX1_judgeAll 2 = .ok (.iload_n 3, 1) := by decide +kernel
theorem dX1_judgeAll_3 : decode cX1_judgeAll 3 = .ok (.bipush 24, 2) := by decide +kernel
theorem dX1_judgeAll_5 : decode cX1_judgeAll 5 = .ok (.if_icmp .ge 61, 3) := by decide +kernel
theorem dX1_judgeAll_8 : decode cX1_judgeAll 8 = .ok (.aload_n 0, 1) := by decide +kernel
theorem dX1_judgeAll_9 : decode cX1_judgeAll 9 = .ok (.getfield 19, 3) := by decide +kernel
theorem dX1_judgeAll_12 : decode cX1_judgeAll 12 = .ok (.iload_n 3, 1) := by decide +kernel
theorem dX1_judgeAll_13 : decode cX1_judgeAll 13 = .ok (.invokevirtual 73, 3) := by decide +kernel
theorem dX1_judgeAll_16 : decode cX1_judgeAll 16 = .ok (.astore 4, 2) := by decide +kernel
theorem dX1_judgeAll_18 : decode cX1_judgeAll 18 = .ok (.aload_n 0, 1) := by decide +kernel
theorem dX1_judgeAll_19 : decode cX1_judgeAll 19 = .ok (.getfield 27, 3) := by decide +kernel
theorem dX1_judgeAll_22 : decode cX1_judgeAll 22 = .ok (.iconst 2, 1) := by decide +kernel
theorem dX1_judgeAll_23 : decode cX1_judgeAll 23 = .ok (.iload_n 1, 1) := by decide +kernel
theorem dX1_judgeAll_24 : decode cX1_judgeAll 24 = .ok (.iload_n 3, 1) := by decide +kernel
theorem dX1_judgeAll_25 : decode cX1_judgeAll 25 = .ok (.invokevirtual 123, 3) := by decide +kernel
theorem dX1_judgeAll_28 : decode cX1_judgeAll 28 = .ok (.istore 5, 2) := by decide +kernel
theorem dX1_judgeAll_30 : decode cX1_judgeAll 30 = .ok (.aload 4, 2) := by decide +kernel
theorem dX1_judgeAll_32 : decode cX1_judgeAll 32 = .ok (.ifnull 28, 3) := by decide +kernel
theorem dX1_judgeAll_35 : decode cX1_judgeAll 35 = .ok (.aload 4, 2) := by decide +kernel
theorem dX1_judgeAll_37 : decode cX1_judgeAll 37 = .ok (.getfield 138, 3) := by decide +kernel
theorem dX1_judgeAll_40 : decode cX1_judgeAll 40 = .ok (.ifCond .ne 20, 3) := by decide +kernel
theorem dX1_judgeAll_43 : decode cX1_judgeAll 43 = .ok (.iload 5, 2) := by decide +kernel
theorem dX1_judgeAll_45 : decode cX1_judgeAll 45 = .ok (.ldc 127, 2) := by decide +kernel
theorem dX1_judgeAll_47 : decode cX1_judgeAll 47 = .ok (.if_icmp .eq 13, 3) := by decide +kernel
theorem dX1_judgeAll_50 : decode cX1_judgeAll 50 = .ok (.aload_n 0, 1) := by decide +kernel
theorem dX1_judgeAll_51 : decode cX1_judgeAll 51 = .ok (.aload 4, 2) := by decide +kernel
theorem dX1_judgeAll_53 : decode cX1_judgeAll 53 = .ok (.iload_n 1, 1) := by decide +kernel
theorem dX1_judgeAll_54 : decode cX1_judgeAll 54 = .ok (.iload 5, 2) := by decide +kernel
theorem dX1_judgeAll_56 : decode cX1_judgeAll 56 = .ok (.iload_n 2, 1) := by decide +kernel
theorem dX1_judgeAll_57 : decode cX1_judgeAll 57 = .ok (.invokevirtual 142, 3) := by decide +kernel
theorem dX1_judgeAll_60 : decode cX1_judgeAll 60 = .ok (.iinc 3 1, 3) := by decide +kernel
theorem dX1_judgeAll_63 : decode cX1_judgeAll 63 = .ok (.goto (-61), 3) := by decide +kernel
theorem dX1_judgeAll_66 : decode cX1_judgeAll 66 = .ok (.return_, 1) := by decide +kernel
theorem dX1_judge_0 : decode cX1_judge 0 = .ok (.aload_n 0, 1) := by decide +kernel
theorem dX1_judge_1 : decode cX1_judge 1 = .ok (.getfield 31, 3) := by decide +kernel
theorem dX1_judge_4 : decode cX1_judge 4 = .ok (.aload_n 1, 1) := by decide +kernel
theorem dX1_judge_5 : decode cX1_judge 5 = .ok (.iload_n 2, 1) := by decide +kernel
theorem dX1_judge_6 : decode cX1_judge 6 = .ok (.invokevirtual 146, 3) := by decide +kernel
theorem dX1_judge_9 : decode cX1_judge 9 = .ok (.ifCond .eq 13, 3) := by decide +kernel
theorem dX1_judge_12 : decode cX1_judge 12 = .ok (.aload_n 1, 1) := by decide +kernel
theorem dX1_judge_13 : decode cX1_judge 13 = .ok (.dup, 1) := by decide +kernel
theorem dX1_judge_14 : decode cX1_judge 14 = .ok (.getfield 150, 3) := by decide +kernel
theorem dX1_judge_17 : decode cX1_judge 17 = .ok (.iconst 1, 1) := by decide +kernel
theorem dX1_judge_18 : decode cX1_judge 18 = .ok (.iadd, 1) := by decide +kernel
theorem dX1_judge_19 : decode cX1_judge 19 = .ok (.putfield 150, 3) := by decide +kernel
theorem dX1_judge_22 : decode cX1_judge 22 = .ok (.aload_n 1, 1) := by decide +kernel
theorem dX1_judge_23 : decode cX1_judge 23 = .ok (.getfield 152, 3) := by decide +kernel
theorem dX1_judge_26 : decode cX1_judge 26 = .ok (.iload_n 2, 1) := by decide +kernel
theorem dX1_judge_27 : decode cX1_judge 27 = .ok (.iconst 1, 1) := by decide +kernel
theorem dX1_judge_28 : decode cX1_judge 28 = .ok (.isub, 1) := by decide +kernel
theorem dX1_judge_29 : decode cX1_judge 29 = .ok (.if_icmp .ne 13, 3) := by decide +kernel
theorem dX1_judge_32 : decode cX1_judge 32 = .ok (.aload_n 0, 1) := by decide +kernel
theorem dX1_judge_33 : decode cX1_judge 33 = .ok (.aload_n 1, 1) := by decide +kernel
theorem dX1_judge_34 : decode cX1_judge 34 = .ok (.iload_n 2, 1) := by decide +kernel
theorem dX1_judge_35 : decode cX1_judge 35 = .ok (.iload_n 3, 1) := by decide +kernel
theorem dX1_judge_36 : decode cX1_judge 36 = .ok (.invokevirtual 155, 3) := by decide +kernel
theorem dX1_judge_39 : decode cX1_judge 39 = .ok (.goto 32, 3) := by decide +kernel
theorem dX1_judge_42 : decode cX1_judge 42 = .ok (.iload_n 3, 1) := by decide +kernel
theorem dX1_judge_43 : decode cX1_judge 43 = .ok (.invokestatic 159, 3) := by decide +kernel
theorem dX1_judge_46 : decode cX1_judge 46 = .ok (.i2l, 1) := by decide +kernel
theorem dX1_judge_47 : decode cX1_judge 47 = .ok (.iload 4, 2) := by decide +kernel
theorem dX1_judge_49 : decode cX1_judge 49 = .ok (.i2l, 1) := by decide +kernel
theorem dX1_judge_50 : decode cX1_judge 50 = .ok (.aload_n 0, 1) := by decide +kernel
theorem dX1_judge_51 : decode cX1_judge 51 = .ok (.getfield 31, 3) := by decide +kernel
theorem dX1_judge_54 : decode cX1_judge 54 = .ok (.aload_n 1, 1) := by decide +kernel
theorem dX1_judge_55 : decode cX1_judge 55 = .ok (.iload_n 2, 1) := by decide +kernel
theorem dX1_judge_56 : decode cX1_judge 56 = .ok (.invokevirtual 162, 3) := by decide +kernel
theorem dX1_judge_59 : decode cX1_judge 59 = .ok (.lconst 1, 1) := by decide +kernel
theorem dX1_judge_60 : decode cX1_judge 60 = .ok (.ladd, 1) := by decide +kernel
theorem dX1_judge_61 : decode cX1_judge 61 = .ok (.lmul, 1) := by decide +kernel
theorem dX1_judge_62 : decode cX1_judge 62 = .ok (.lcmp, 1) := by decide +kernel
theorem dX1_judge_63 : decode cX1_judge 63 = .ok (.ifCond .le 8, 3) := by decide +kernel
theorem dX1_judge_66 : decode cX1_judge 66 = .ok (.aload_n 1, 1) := by decide +kernel
theorem dX1_judge_67 : decode cX1_judge 67 = .ok (.iload_n 2, 1) := by decide +kernel
theorem dX1_judge_68 : decode cX1_judge 68 = .ok (.putfield 152, 3) := by decide +kernel
theorem dX1_judge_71 : decode cX1_judge 71 = .ok (.return_, 1) := by decide +kernel
theorem dX1_judgeSuspect_0 : decode cX1_judgeSuspect 0 = .ok (.aload_n 0, 1) := by decide +kernel
theorem dX1_judgeSuspect_1 : decode cX1_judgeSuspect 1 = .ok (.getfield 31, 3) := by decide +kernel
theorem dX1_judgeSuspect_4 : decode cX1_judgeSuspect 4 = .ok (.aload_n 1, 1) := by decide +kernel
theorem dX1_judgeSuspect_5 : decode cX1_judgeSuspect 5 = .ok (.iload_n 2, 1) := by decide +kernel
theorem dX1_judgeSuspect_6 : decode cX1_judgeSuspect 6 = .ok (.iconst 1, 1) := by decide +kernel
theorem dX1_judgeSuspect_7 : decode cX1_judgeSuspect 7 = .ok (.isub, 1) := by decide +kernel
theorem dX1_judgeSuspect_8 : decode cX1_judgeSuspect 8 = .ok (.invokevirtual 166, 3) := by decide +kernel
theorem dX1_judgeSuspect_11 : decode cX1_judgeSuspect 11 = .ok (.istore 4, 2) := by decide +kernel
theorem dX1_judgeSuspect_13 : decode cX1_judgeSuspect 13 = .ok (.iload 4, 2) := by decide +kernel
theorem dX1_judgeSuspect_15 : decode cX1_judgeSuspect 15 = .ok (.iload_n 3, 1) := by decide +kernel
theorem dX1_judgeSuspect_16 : decode cX1_judgeSuspect 16 = .ok (.invokestatic 169, 3) := by decide +kernel
theorem dX1_judgeSuspect_19 : decode cX1_judgeSuspect 19 = .ok (.ifCond .eq 23, 3) := by decide +kernel
theorem dX1_judgeSuspect_22 : decode cX1_judgeSuspect 22 = .ok (.iload_n 3, 1) := by decide +kernel
theorem dX1_judgeSuspect_23 : decode cX1_judgeSuspect 23 = .ok (.invokestatic 159, 3) := by decide +kernel
theorem dX1_judgeSuspect_26 : decode cX1_judgeSuspect 26 = .ok (.iload 4, 2) := by decide +kernel
theorem dX1_judgeSuspect_28 : decode cX1_judgeSuspect 28 = .ok (.invokestatic 159, 3) := by decide +kernel
theorem dX1_judgeSuspect_31 : decode cX1_judgeSuspect 31 = .ok (.iconst 1, 1) := by decide +kernel
theorem dX1_judgeSuspect_32 : decode cX1_judgeSuspect 32 = .ok (.iadd, 1) := by decide +kernel
theorem dX1_judgeSuspect_33 : decode cX1_judgeSuspect 33 = .ok (.iconst 2, 1) := by decide +kernel
theorem dX1_judgeSuspect_34 : decode cX1_judgeSuspect 34 = .ok (.idiv, 1) := by decide +kernel
theorem dX1_judgeSuspect_35 : decode cX1_judgeSuspect 35 = .ok (.if_icmp .lt 7, 3) := by decide +kernel
theorem dX1_judgeSuspect_38 : decode cX1_judgeSuspect 38 = .ok (.iconst 1, 1) := by decide +kernel
theorem dX1_judgeSuspect_39 : decode cX1_judgeSuspect 39 = .ok (.goto 4, 3) := by decide +kernel
theorem dX1_judgeSuspect_42 : decode cX1_judgeSuspect 42 = .ok (.iconst 0, 1) := by decide +kernel
theorem dX1_judgeSuspect_43 : decode cX1_judgeSuspect 43 = .ok (.istore 5, 2) := by decide +kernel
theorem dX1_judgeSuspect_45 : decode cX1_judgeSuspect 45 = .ok (.iload 4, 2) := by decide +kernel
theorem dX1_judgeSuspect_47 : decode cX1_judgeSuspect 47 = .ok (.ldc 127, 2) := by decide +kernel
theorem dX1_judgeSuspect_49 : decode cX1_judgeSuspect 49 = .ok (.if_icmp .eq 39, 3) := by decide +kernel
theorem dX1_judgeSuspect_52 : decode cX1_judgeSuspect 52 = .ok (.iload 5, 2) := by decide +kernel
theorem dX1_judgeSuspect_54 : decode cX1_judgeSuspect 54 = .ok (.ifCond .eq 34, 3) := by decide +kernel
theorem dX1_judgeSuspect_57 : decode cX1_judgeSuspect 57 = .ok (.aload_n 1, 1) := by decide +kernel
theorem dX1_judgeSuspect_58 : decode cX1_judgeSuspect 58 = .ok (.iconst 1, 1) := by decide +kernel
theorem dX1_judgeSuspect_59 : decode cX1_judgeSuspect 59 = .ok (.putfield 138, 3) := by decide +kernel
theorem dX1_judgeSuspect_62 : decode cX1_judgeSuspect 62 = .ok (.aload_n 1, 1) := by decide +kernel
theorem dX1_judgeSuspect_63 : decode cX1_judgeSuspect 63 = .ok (.dup, 1) := by decide +kernel
theorem dX1_judgeSuspect_64 : decode cX1_judgeSuspect 64 = .ok (.getfield 173, 3) := by decide +kernel
theorem dX1_judgeSuspect_67 : decode cX1_judgeSuspect 67 = .ok (.iconst 1, 1) := by decide +kernel
theorem dX1_judgeSuspect_68 : decode cX1_judgeSuspect 68 = .ok (.iadd, 1) := by decide +kernel
theorem dX1_judgeSuspect_69 : decode cX1_judgeSuspect 69 = .ok (.putfield 173, 3) := by decide +kernel
theorem dX1_judgeSuspect_72 : decode cX1_judgeSuspect 72 = .ok (.aload_n 0, 1) := by decide +kernel
theorem dX1_judgeSuspect_73 : decode cX1_judgeSuspect 73 = .ok (.getfield 35, 3) := by decide +kernel
theorem dX1_judgeSuspect_76 : decode cX1_judgeSuspect 76 = .ok (.iload_n 2, 1) := by decide +kernel
theorem dX1_judgeSuspect_77 : decode cX1_judgeSuspect 77 = .ok (.iconst 1, 1) := by decide +kernel
theorem dX1_judgeSuspect_78 : decode cX1_judgeSuspect 78 = .ok (.isub, 1) := by decide +kernel
theorem dX1_judgeSuspect_79 : decode cX1_judgeSuspect 79 = .ok (.aload_n 1, 1) := by decide +kernel
theorem dX1_judgeSuspect_80 : decode cX1_judgeSuspect 80 = .ok (.getfield 62, 3) := by decide +kernel
theorem dX1_judgeSuspect_83 : decode cX1_judgeSuspect 83 = .ok (.iload 4, 2) := by decide +kernel
theorem dX1_judgeSuspect_85 : decode cX1_judgeSuspect 85 = .ok (.invokevirtual 175, 3) := by decide +kernel
theorem dX1_judgeSuspect_88 : decode cX1_judgeSuspect 88 = .ok (.return_, 1) := by decide +kernel
theorem dX2_init_0 : decode cX2_init 0 = .ok (.aload_n 0, 1) := by decide +kernel
theorem dX2_init_1 : decode cX2_init 1 = .ok (.invokespecial 3, 3) := by decide +kernel
theorem dX2_init_4 : decode cX2_init 4 = .ok (.aload_n 0, 1) := by decide +kernel
theorem dX2_init_5 : decode cX2_init 5 = .ok (.new 9, 3) := by decide +kernel
theorem dX2_init_8 : decode cX2_init 8 = .ok (.dup, 1) := by decide +kernel
theorem dX2_init_9 : decode cX2_init 9 = .ok (.invokespecial 11, 3) := by decide +kernel
theorem dX2_init_12 : decode cX2_init 12 = .ok (.putfield 12, 3) := by decide +kernel
theorem dX2_init_15 : decode cX2_init 15 = .ok (.aload_n 0, 1) := by decide +kernel
theorem dX2_init_16 : decode cX2_init 16 = .ok (.new 9, 3) := by decide +kernel
theorem dX2_init_19 : decode cX2_init 19 = .ok (.dup, 1) := by decide +kernel
theorem dX2_init_20 : decode cX2_init 20 = .ok (.invokespecial 11, 3) := by decide +kernel
theorem dX2_init_23 : decode cX2_init 23 = .ok (.putfield 18, 3) := by decide +kernel
theorem dX2_init_26 : decode cX2_init 26 = .ok (.aload_n 0, 1) := by decide +kernel
theorem dX2_init_27 : decode cX2_init 27 = .ok (.lconst 0, 1) := by decide +kernel
theorem dX2_init_28 : decode cX2_init 28 = .ok (.putfield 21, 3) := by decide +kernel
theorem dX2_init_31 : decode cX2_init 31 = .ok (.aload_n 0, 1) := by decide +kernel
theorem dX2_init_32 : decode cX2_init 32 = .ok (.iconst 0, 1) := by decide +kernel
theorem dX2_init_33 : decode cX2_init 33 = .ok (.putfield 25, 3) := by decide +kernel
theorem dX2_init_36 : decode cX2_init 36 = .ok (.aload_n 0, 1) := by decide +kernel
theorem dX2_init_37 : decode cX2_init 37 = .ok (.lconst 0, 1) := by decide +kernel
theorem dX2_init_38 : decode cX2_init 38 = .ok (.putfield 29, 3) := by decide +kernel
theorem dX2_init_41 : decode cX2_init 41 = .ok (.aload_n 0, 1) := by decide +kernel
theorem dX2_init_42 : decode cX2_init 42 = .ok (.lconst 0, 1) := by decide +kernel
theorem dX2_init_43 : decode cX2_init 43 = .ok (.putfield 32, 3) := by decide +kernel
theorem dX2_init_46 : decode cX2_init 46 = .ok (.aload_n 0, 1) := by decide +kernel
theorem dX2_init_47 : decode cX2_init 47 = .ok (.aload_n 1, 1) := by decide +kernel
theorem dX2_init_48 : decode cX2_init 48 = .ok (.putfield 35, 3) := by decide +kernel
theorem dX2_init_51 : decode cX2_init 51 = .ok (.return_, 1) := by decide +kernel
theorem dX2_xOf_0 : decode cX2_xOf 0 = .ok (.iload_n 2, 1) := by decide +kernel
theorem dX2_xOf_1 : decode cX2_xOf 1 = .ok (.aload_n 1, 1) := by decide +kernel
theorem dX2_xOf_2 : decode cX2_xOf 2 = .ok (.getfield 39, 3) := by decide +kernel
theorem dX2_xOf_5 : decode cX2_xOf 5 = .ok (.if_icmp .ge 8, 3) := by decide +kernel
theorem dX2_xOf_8 : decode cX2_xOf 8 = .ok (.ldc 44, 2) := by decide +kernel
theorem dX2_xOf_10 : decode cX2_xOf 10 = .ok (.goto 16, 3) := by decide +kernel
theorem dX2_xOf_13 : decode cX2_xOf 13 = .ok (.aload_n 0, 1) := by decide +kernel
theorem dX2_xOf_14 : decode cX2_xOf 14 = .ok (.getfield 35, 3) := by decide +kernel
theorem dX2_xOf_17 : decode cX2_xOf 17 = .ok (.iconst 0, 1) := by decide +kernel
theorem dX2_xOf_18 : decode cX2_xOf 18 = .ok (.iload_n 2, 1) := by decide +kernel
theorem dX2_xOf_19 : decode cX2_xOf 19 = .ok (.aload_n 1, 1) := by decide +kernel
theorem dX2_xOf_20 : decode cX2_xOf 20 = .ok (.getfield 45, 3) := by decide +kernel
theorem dX2_xOf_23 : decode cX2_xOf 23 = .ok (.invokevirtual 48, 3) := by decide +kernel
theorem dX2_xOf_26 : decode cX2_xOf 26 = .ok (.ireturn, 1) := by decide +kernel
theorem dX2_missedOf_0 : decode cX2_missedOf 0 = .ok (.iload_n 2, 1) := by decide +kernel
theorem dX2_missedOf_1 : decode cX2_missedOf 1 = .ok (.aload_n 1, 1) := by decide +kernel
theorem dX2_missedOf_2 : decode cX2_missedOf 2 = .ok (.getfield 39, 3) := by decide +kernel
theorem dX2_missedOf_5 : decode cX2_missedOf 5 = .ok (.if_icmp .ge 8, 3) := by decide +kernel
theorem dX2_missedOf_8 : decode cX2_missedOf 8 = .ok (.ldc 44, 2) := by decide +kernel
theorem dX2_missedOf_10 : decode cX2_missedOf 10 = .ok (.goto 16, 3) := by decide +kernel
theorem dX2_missedOf_13 : decode cX2_missedOf 13 = .ok (.aload_n 0, 1) := by decide +kernel
theorem dX2_missedOf_14 : decode cX2_missedOf 14 = .ok (.getfield 35, 3) := by decide +kernel
theorem dX2_missedOf_17 : decode cX2_missedOf 17 = .ok (.iconst 2, 1) := by decide +kernel
theorem dX2_missedOf_18 : decode cX2_missedOf 18 = .ok (.iload_n 2, 1) := by decide +kernel
theorem dX2_missedOf_19 : decode cX2_missedOf 19 = .ok (.aload_n 1, 1) := by decide +kernel
theorem dX2_missedOf_20 : decode cX2_missedOf 20 = .ok (.getfield 45, 3) := by decide +kernel
theorem dX2_missedOf_23 : decode cX2_missedOf 23 = .ok (.invokevirtual 48, 3) := by decide +kernel
theorem dX2_missedOf_26 : decode cX2_missedOf 26 = .ok (.ireturn, 1) := by decide +kernel
theorem dX2_countXs_0 : decode cX2_countXs 0 = .ok (.iconst 0, 1) := by decide +kernel
theorem dX2_countXs_1 : decode cX2_countXs 1 = .ok (.istore_n 3, 1) := by decide +kernel
theorem dX2_countXs_2 : decode cX2_countXs 2 = .ok (.aload_n 1, 1) := by decide +kernel
theorem dX2_countXs_3 : decode cX2_countXs 3 = .ok (.getfield 39, 3) := by decide +kernel
theorem dX2_countXs_6 : decode cX2_countXs 6 = .ok (.istore 4, 2) := by decide +kernel
theorem dX2_countXs_8 : decode cX2_countXs 8 = .ok (.iload 4, 2) := by decide +kernel
theorem dX2_countXs_10 : decode cX2_countXs 10 = .ok (.iload_n 2, 1) := by decide +kernel
theorem dX2_countXs_11 : decode cX2_countXs 11 = .ok (.if_icmp .ge 24, 3) := by decide +kernel
theorem dX2_countXs_14 : decode cX2_countXs 14 = .ok (.aload_n 0, 1) := by decide +kernel
theorem dX2_countXs_15 : decode cX2_countXs 15 = .ok (.aload_n 1, 1) := by decide +kernel
theorem dX2_countXs_16 : decode cX2_countXs 16 = .ok (.iload 4, 2) := by decide +kernel
theorem dX2_countXs_18 : decode cX2_countXs 18 = .ok (.invokevirtual 54, 3) := by decide +kernel
theorem dX2_countXs_21 : decode cX2_countXs 21 = .ok (.ldc 44, 2) := by decide +kernel
theorem dX2_countXs_23 : decode cX2_countXs 23 = .ok (.if_icmp .eq 6, 3) := by decide +kernel
theorem dX2_countXs_26 : decode cX2_countXs 26 = .ok (.iinc 3 1, 3) := by decide +kernel
theorem dX2_countXs_29 : decode cX2_countXs 29 = .ok (.iinc 4 1, 3) := by decide +kernel
theorem dX2_countXs_32 : decode cX2_countXs 32 = .ok (.goto (-24), 3) := by decide +kernel
theorem dX2_countXs_35 : decode cX2_countXs 35 = .ok (.iload_n 3, 1) := by decide +kernel
theorem dX2_countXs_36 : decode cX2_countXs 36 = .ok (.ireturn, 1) := by decide +kernel
theorem dX2_lineOf_0 : decode cX2_lineOf 0 = .ok (.aload_n 0, 1) := by decide +kernel
theorem dX2_lineOf_1 : decode cX2_lineOf 1 = .ok (.getfield 12, 3) := by decide +kernel
theorem dX2_lineOf_4 : decode cX2_lineOf 4 = .ok (.invokevirtual 58, 3) := by decide +kernel
theorem dX2_lineOf_7 : decode cX2_lineOf 7 = .ok (.aload_n 0, 1) := by decide +kernel
theorem dX2_lineOf_8 : decode cX2_lineOf 8 = .ok (.getfield 18, 3) := by decide +kernel
theorem dX2_lineOf_11 : decode cX2_lineOf 11 = .ok (.invokevirtual 58, 3) := by decide +kernel
theorem dX2_lineOf_14 : decode cX2_lineOf 14 = .ok (.ldc 44, 2) := by decide +kernel
theorem dX2_lineOf_16 : decode cX2_lineOf 16 = .ok (.istore_n 3, 1) := by decide +kernel
theorem dX2_lineOf_17 : decode cX2_lineOf 17 = .ok (.iload_n 2, 1) := by decide +kernel
theorem dX2_lineOf_18 : decode cX2_lineOf 18 = .ok (.aload_n 1, 1) := by decide +kernel
theorem dX2_lineOf_19 : decode cX2_lineOf 19 = .ok (.getfield 61, 3) := by decide +kernel
theorem dX2_lineOf_22 : decode cX2_lineOf 22 = .ok (.isub, 1) := by decide +kernel
theorem dX2_lineOf_23 : decode cX2_lineOf 23 = .ok (.istore 4, 2) := by decide +kernel
theorem dX2_lineOf_25 : decode cX2_lineOf 25 = .ok (.iload 4, 2) := by decide +kernel
theorem dX2_lineOf_27 : decode cX2_lineOf 27 = .ok (.iload_n 2, 1) := by decide +kernel
theorem dX2_lineOf_28 : decode cX2_lineOf 28 = .ok (.if_icmp .ge 74, 3) := by decide +kernel
theorem dX2_lineOf_31 : decode cX2_lineOf 31 = .ok (.aload_n 0, 1) := by decide +kernel
theorem dX2_lineOf_32 : decode cX2_lineOf 32 = .ok (.aload_n 1, 1) := by decide +kernel
theorem dX2_lineOf_33 : decode cX2_lineOf 33 = .ok (.iload 4, 2) := by decide +kernel
theorem dX2_lineOf_35 : decode cX2_lineOf 35 = .ok (.invokevirtual 54, 3) := by decide +kernel
theorem dX2_lineOf_38 : decode cX2_lineOf 38 = .ok (.istore 5, 2) := by decide +kernel
theorem dX2_lineOf_40 : decode cX2_lineOf 40 = .ok (.iload 5, 2) := by decide +kernel
theorem dX2_lineOf_42 : decode cX2_lineOf 42 = .ok (.ldc 44, 2) := by decide +kernel
theorem dX2_lineOf_44 : decode cX2_lineOf 44 = .ok (.if_icmp .eq 18, 3) := by decide +kernel
theorem dX2_lineOf_47 : decode cX2_lineOf 47 = .ok (.aload_n 0, 1) := by decide +kernel
theorem dX2_lineOf_48 : decode cX2_lineOf 48 = .ok (.getfield 12, 3) := by decide +kernel
theorem dX2_lineOf_51 : decode cX2_lineOf 51 = .ok (.iload 4, 2) := by decide +kernel
theorem dX2_lineOf_53 : decode cX2_lineOf 53 = .ok (.iload_n 2, 1) := by decide +kernel
theorem dX2_lineOf_54 : decode cX2_lineOf 54 = .ok (.isub, 1) := by decide +kernel
theorem dX2_lineOf_55 : decode cX2_lineOf 55 = .ok (.i2l, 1) := by decide +kernel
theorem dX2_lineOf_56 : decode cX2_lineOf 56 = .ok (.iload 5, 2) := by decide +kernel
theorem dX2_lineOf_58 : decode cX2_lineOf 58 = .ok (.i2l, 1) := by decide +kernel
theorem dX2_lineOf_59 : decode cX2_lineOf 59 = .ok (.invokevirtual 64, 3) := by decide +kernel
theorem dX2_lineOf_62 : decode cX2_lineOf 62 = .ok (.iload 5, 2) := by decide +kernel
theorem dX2_lineOf_64 : decode cX2_lineOf 64 = .ok (.ldc 44, 2) := by decide +kernel
theorem dX2_lineOf_66 : decode cX2_lineOf 66 = .ok (.if_icmp .eq 27, 3) := by decide +kernel
theorem dX2_lineOf_69 : decode cX2_lineOf 69 = .ok (.iload_n 3, 1) := by decide +kernel
theorem dX2_lineOf_70 : decode cX2_lineOf 70 = .ok (.ldc 44, 2) := by decide +kernel
theorem dX2_lineOf_72 : decode cX2_lineOf 72 = .ok (.if_icmp .eq 21, 3) := by decide +kernel
theorem dX2_lineOf_75 : decode cX2_lineOf 75 = .ok (.aload_n 0, 1) := by decide +kernel
theorem dX2_lineOf_76 : decode cX2_lineOf 76 = .ok (.getfield 18, 3) := by decide +kernel
theorem dX2_lineOf_79 : decode cX2_lineOf 79 = .ok (.iload 4, 2) := by decide +kernel
theorem dX2_lineOf_81 : decode cX2_lineOf 81 = .ok (.iload_n 2, 1) := by decide +kernel
theorem dX2_lineOf_82 : decode cX2_lineOf 82 = .ok (.isub, 1) := by decide +kernel
theorem dX2_lineOf_83 : decode cX2_lineOf 83 = .ok (.i2l, 1) := by decide +kernel
theorem dX2_lineOf_84 : decode cX2_lineOf 84 = .ok (.iload 5, 2) := by decide +kernel
theorem dX2_lineOf_86 : decode cX2_lineOf 86 = .ok (.i2l, 1) := by decide +kernel
theorem dX2_lineOf_87 : decode cX2_lineOf 87 = .ok (.iload_n 3, 1) := by decide +kernel
theorem dX2_lineOf_88 : decode cX2_lineOf 88 = .ok (.i2l, 1) := by decide +kernel
theorem dX2_lineOf_89 : decode cX2_lineOf 89 = .ok (.lsub, 1) := by decide +kernel
theorem dX2_lineOf_90 : decode cX2_lineOf 90 = .ok (.invokevirtual 64, 3) := by decide +kernel
theorem dX2_lineOf_93 : decode cX2_lineOf 93 = .ok (.iload 5, 2) := by decide +kernel
theorem dX2_lineOf_95 : decode cX2_lineOf 95 = .ok (.istore_n 3, 1) := by decide +kernel
theorem dX2_lineOf_96 : decode cX2_lineOf 96 = .ok (.iinc 4 1, 3) := by decide +kernel
theorem dX2_lineOf_99 : decode cX2_lineOf 99 = .ok (.goto (-74), 3) := by decide +kernel
theorem dX2_lineOf_102 : decode cX2_lineOf 102 = .ok (.aload_n 1, 1) := by decide +kernel
theorem dX2_lineOf_103 : decode cX2_lineOf 103 = .ok (.getfield 68, 3) := by decide +kernel
theorem dX2_lineOf_106 : decode cX2_lineOf 106 = .ok (.iconst 2, 1) := by decide +kernel
theorem dX2_lineOf_107 : decode cX2_lineOf 107 = .ok (.if_icmp .ne 24, 3) := by decide +kernel
theorem dX2_lineOf_110 : decode cX2_lineOf 110 = .ok (.aload_n 0, 1) := by decide +kernel
theorem dX2_lineOf_111 : decode cX2_lineOf 111 = .ok (.getfield 18, 3) := by decide +kernel
theorem dX2_lineOf_114 : decode cX2_lineOf 114 = .ok (.invokevirtual 71, 3) := by decide +kernel
theorem dX2_lineOf_117 : decode cX2_lineOf 117 = .ok (.iconst 2, 1) := by decide +kernel
theorem dX2_lineOf_118 : decode cX2_lineOf 118 = .ok (.if_icmp .lt 13, 3) := by decide +kernel
theorem dX2_lineOf_121 : decode cX2_lineOf 121 = .ok (.iload_n 3, 1) := by decide +kernel
theorem dX2_lineOf_122 : decode cX2_lineOf 122 = .ok (.ldc 44, 2) := by decide +kernel
theorem dX2_lineOf_124 : decode cX2_lineOf 124 = .ok (.if_icmp .eq 7, 3) := by decide +kernel
theorem dX2_lineOf_127 : decode cX2_lineOf 127 = .ok (.iconst 1, 1) := by decide +kernel
theorem dX2_lineOf_128 : decode cX2_lineOf 128 = .ok (.goto 4, 3) := by decide +kernel
theorem dX2_lineOf_131 : decode cX2_lineOf 131 = .ok (.iconst 0, 1) := by decide +kernel
theorem dX2_lineOf_132 : decode cX2_lineOf 132 = .ok (.istore 4, 2) := by decide +kernel
theorem dX2_lineOf_134 : decode cX2_lineOf 134 = .ok (.aload_n 0, 1) := by decide +kernel
theorem dX2_lineOf_135 : decode cX2_lineOf 135 = .ok (.iload 4, 2) := by decide +kernel
theorem dX2_lineOf_137 : decode cX2_lineOf 137 = .ok (.ifCond .eq 8, 3) := by decide +kernel
theorem dX2_lineOf_140 : decode cX2_lineOf 140 = .ok (.iload_n 3, 1) := by decide +kernel
theorem dX2_lineOf_141 : decode cX2_lineOf 141 = .ok (.i2l, 1) := by decide +kernel
theorem dX2_lineOf_142 : decode cX2_lineOf 142 = .ok (.goto 4, 3) := by decide +kernel
theorem dX2_lineOf_145 : decode cX2_lineOf 145 = .ok (.lconst 0, 1) := by decide +kernel
theorem dX2_lineOf_146 : decode cX2_lineOf 146 = .ok (.putfield 21, 3) := by decide +kernel
theorem dX2_lineOf_149 : decode cX2_lineOf 149 = .ok (.iload 4, 2) := by decide +kernel
theorem dX2_lineOf_151 : decode cX2_lineOf 151 = .ok (.ifCond .eq 10, 3) := by decide +kernel
theorem dX2_lineOf_154 : decode cX2_lineOf 154 = .ok (.aload_n 0, 1) := by decide +kernel
theorem dX2_lineOf_155 : decode cX2_lineOf 155 = .ok (.getfield 18, 3) := by decide +kernel
theorem dX2_lineOf_158 : decode cX2_lineOf 158 = .ok (.goto 7, 3) := by decide +kernel
theorem dX2_lineOf_161 : decode cX2_lineOf 161 = .ok (.aload_n 0, 1) := by decide +kernel
theorem dX2_lineOf_162 : decode cX2_lineOf 162 = .ok (.getfield 12, 3) := by decide +kernel
theorem dX2_lineOf_165 : decode cX2_lineOf 165 = .ok (.areturn, 1) := by decide +kernel
theorem dX2_foretoldOf_0 : decode cX2_foretoldOf 0 = .ok (.aload_n 0, 1) := by decide +kernel
theorem dX2_foretoldOf_1 : decode cX2_foretoldOf 1 = .ok (.aload_n 1, 1) := by decide +kernel
theorem dX2_foretoldOf_2 : decode cX2_foretoldOf 2 = .ok (.iload_n 2, 1) := by decide +kernel
theorem dX2_foretoldOf_3 : decode cX2_foretoldOf 3 = .ok (.invokevirtual 75, 3) := by decide +kernel
theorem dX2_foretoldOf_6 : decode cX2_foretoldOf 6 = .ok (.astore_n 3, 1) := by decide +kernel
theorem dX2_foretoldOf_7 : decode cX2_foretoldOf 7 = .ok (.aload_n 3, 1) := by decide +kernel
theorem dX2_foretoldOf_8 : decode cX2_foretoldOf 8 = .ok (.invokevirtual 71, 3) := by decide +kernel
theorem dX2_foretoldOf_11 : decode cX2_foretoldOf 11 = .ok (.ifCond .ne 8, 3) := by decide +kernel
theorem dX2_foretoldOf_14 : decode cX2_foretoldOf 14 = .ok (.ldc 44, 2) := by decide +kernel
theorem dX2_foretoldOf_16 : decode cX2_foretoldOf 16 = .ok (.goto 17, 3) := by decide +kernel
theorem dX2_foretoldOf_19 : decode cX2_foretoldOf 19 = .ok (.aload_n 0, 1) := by decide +kernel
theorem dX2_foretoldOf_20 : decode cX2_foretoldOf 20 = .ok (.getfield 21, 3) := by decide +kernel
theorem dX2_foretoldOf_23 : decode cX2_foretoldOf 23 = .ok (.aload_n 3, 1) := by decide +kernel
theorem dX2_foretoldOf_24 : decode cX2_foretoldOf 24 = .ok (.invokevirtual 79, 3) := by decide +kernel
theorem dX2_foretoldOf_27 : decode cX2_foretoldOf 27 = .ok (.ladd, 1) := by decide +kernel
theorem dX2_foretoldOf_28 : decode cX2_foretoldOf 28 = .ok (.ldc 83, 2) := by decide +kernel
theorem dX2_foretoldOf_30 : decode cX2_foretoldOf 30 = .ok (.invokestatic 84, 3) := by decide +kernel
theorem dX2_foretoldOf_33 : decode cX2_foretoldOf 33 = .ok (.ireturn, 1) := by decide +kernel
theorem dX2_fullWeightOf_0 : decode cX2_fullWeightOf 0 = .ok (.iload_n 3, 1) := by decide +kernel
theorem dX2_fullWeightOf_1 : decode cX2_fullWeightOf 1 = .ok (.ldc 44, 2) := by decide +kernel
theorem dX2_fullWeightOf_3 : decode cX2_fullWeightOf 3 = .ok (.if_icmp .eq 10, 3) := by decide +kernel
theorem dX2_fullWeightOf_6 : decode cX2_fullWeightOf 6 = .ok (.aload_n 1, 1) := by decide +kernel
theorem dX2_fullWeightOf_7 : decode cX2_fullWeightOf 7 = .ok (.getfield 88, 3) := by decide +kernel
theorem dX2_fullWeightOf_10 : decode cX2_fullWeightOf 10 = .ok (.ifCond .eq 5, 3) := by decide +kernel
theorem dX2_fullWeightOf_13 : decode cX2_fullWeightOf 13 = .ok (.iconst 0, 1) := by decide +kernel
theorem dX2_fullWeightOf_14 : decode cX2_fullWeightOf 14 = .ok (.ireturn, 1) := by decide +kernel
theorem dX2_fullWeightOf_15 : decode cX2_fullWeightOf 15 = .ok (.aload_n 0, 1) := by decide +kernel
theorem dX2_fullWeightOf_16 : decode cX2_fullWeightOf 16 = .ok (.aload_n 1, 1) := by decide +kernel
theorem dX2_fullWeightOf_17 : decode cX2_fullWeightOf 17 = .ok (.iload_n 2, 1) := by decide +kernel
theorem dX2_fullWeightOf_18 : decode cX2_fullWeightOf 18 = .ok (.invokevirtual 92, 3) := by decide +kernel
theorem dX2_fullWeightOf_21 : decode cX2_fullWeightOf 21 = .ok (.aload_n 0, 1) := by decide +kernel
theorem dX2_fullWeightOf_22 : decode cX2_fullWeightOf 22 = .ok (.getfield 25, 3) := by decide +kernel
theorem dX2_fullWeightOf_25 : decode cX2_fullWeightOf 25 = .ok (.ifCond .ne 5, 3) := by decide +kernel
theorem dX2_fullWeightOf_28 : decode cX2_fullWeightOf 28 = .ok (.iconst 1, 1) := by decide +kernel
theorem dX2_fullWeightOf_29 : decode cX2_fullWeightOf 29 = .ok (.ireturn, 1) := by decide +kernel
theorem dX2_fullWeightOf_30 : decode cX2_fullWeightOf 30 = .ok (.lconst 1, 1) := by decide +kernel
theorem dX2_fullWeightOf_31 : decode cX2_fullWeightOf 31 = .ok (.aload_n 0, 1) := by decide +kernel
theorem dX2_fullWeightOf_32 : decode cX2_fullWeightOf 32 = .ok (.getfield 32, 3) := by decide +kernel
theorem dX2_fullWeightOf_35 : decode cX2_fullWeightOf 35 = .ok (.ladd, 1) := by decide +kernel
theorem dX2_fullWeightOf_36 : decode cX2_fullWeightOf 36 = .ok (.lstore 4, 2) := by decide +kernel
theorem dX2_fullWeightOf_38 : decode cX2_fullWeightOf 38 = .ok (.lload 4, 2) := by decide +kernel
theorem dX2_fullWeightOf_40 : decode cX2_fullWeightOf 40 = .ok (.lconst 0, 1) := by decide +kernel
theorem dX2_fullWeightOf_41 : decode cX2_fullWeightOf 41 = .ok (.lcmp, 1) := by decide +kernel
theorem dX2_fullWeightOf_42 : decode cX2_fullWeightOf 42 = .ok (.ifCond .le 17, 3) := by decide +kernel
theorem dX2_fullWeightOf_45 : decode cX2_fullWeightOf 45 = .ok (.lconst 1, 1) := by decide +kernel
theorem dX2_fullWeightOf_46 : decode cX2_fullWeightOf 46 = .ok (.ldc2_w 96, 3) := by decide +kernel
theorem dX2_fullWeightOf_49 : decode cX2_fullWeightOf 49 = .ok (.lload 4, 2) := by decide +kernel
theorem dX2_fullWeightOf_51 : decode cX2_fullWeightOf 51 = .ok (.ldiv, 1) := by decide +kernel
theorem dX2_fullWeightOf_52 : decode cX2_fullWeightOf 52 = .ok (.invokestatic 98, 3) := by decide +kernel
theorem dX2_fullWeightOf_55 : decode cX2_fullWeightOf 55 = .ok (.l2i, 1) := by decide +kernel
theorem dX2_fullWeightOf_56 : decode cX2_fullWeightOf 56 = .ok (.goto 4, 3) := by decide +kernel
theorem dX2_fullWeightOf_59 : decode cX2_fullWeightOf 59 = .ok (.iconst 1, 1) := by decide +kernel
theorem dX2_fullWeightOf_60 : decode cX2_fullWeightOf 60 = .ok (.ireturn, 1) := by decide +kernel
theorem dX2_usuallyMissedBy_0 : decode cX2_usuallyMissedBy 0 = .ok (.aload_n 0, 1) := by decide +kernel
theorem dX2_usuallyMissedBy_1 : decode cX2_usuallyMissedBy 1 = .ok (.aload_n 1, 1) := by decide +kernel
theorem dX2_usuallyMissedBy_2 : decode cX2_usuallyMissedBy 2 = .ok (.iload_n 2, 1) := by decide +kernel
theorem dX2_usuallyMissedBy_3 : decode cX2_usuallyMissedBy 3 = .ok (.invokevirtual 92, 3) := by decide +kernel
theorem dX2_usuallyMissedBy_6 : decode cX2_usuallyMissedBy 6 = .ok (.aload_n 0, 1) := by decide +kernel
theorem dX2_usuallyMissedBy_7 : decode cX2_usuallyMissedBy 7 = .ok (.getfield 25, 3) := by decide +kernel
theorem dX2_usuallyMissedBy_10 : decode cX2_usuallyMissedBy 10 = .ok (.ifCond .le 16, 3) := by decide +kernel
theorem dX2_usuallyMissedBy_13 : decode cX2_usuallyMissedBy 13 = .ok (.aload_n 0, 1) := by decide +kernel
theorem dX2_usuallyMissedBy_14 : decode cX2_usuallyMissedBy 14 = .ok (.getfield 29, 3) := by decide +kernel
theorem dX2_usuallyMissedBy_17 : decode cX2_usuallyMissedBy 17 = .ok (.aload_n 0, 1) := by decide +kernel
theorem dX2_usuallyMissedBy_18 : decode cX2_usuallyMissedBy 18 = .ok (.getfield 25, 3) := by decide +kernel
theorem dX2_usuallyMissedBy_21 : decode cX2_usuallyMissedBy 21 = .ok (.i2l, 1) := by decide +kernel
theorem dX2_usuallyMissedBy_22 : decode cX2_usuallyMissedBy 22 = .ok (.ldiv, 1) := by decide +kernel
theorem dX2_usuallyMissedBy_23 : decode cX2_usuallyMissedBy 23 = .ok (.goto 4, 3) := by decide +kernel
theorem dX2_usuallyMissedBy_26 : decode cX2_usuallyMissedBy 26 = .ok (.lconst 0, 1) := by decide +kernel
theorem dX2_usuallyMissedBy_27 : decode cX2_usuallyMissedBy 27 = .ok (.lreturn, 1) := by decide +kernel
theorem dX2_gatherMissed_0 : decode cX2_gatherMissed 0 = .ok (.aload_n 0, 1) := by decide +kernel
theorem dX2_gatherMissed_1 : decode cX2_gatherMissed 1 = .ok (.iconst 0, 1) := by decide +kernel
theorem dX2_gatherMissed_2 : decode cX2_gatherMissed 2 = .ok (.putfield 25, 3) := by decide +kernel
theorem dX2_gatherMissed_5 : decode cX2_gatherMissed 5 = .ok (.aload_n 0, 1) := by decide +kernel
theorem dX2_gatherMissed_6 : decode cX2_gatherMissed 6 = .ok (.lconst 0, 1) := by decide +kernel
theorem dX2_gatherMissed_7 : decode cX2_gatherMissed 7 = .ok (.putfield 29, 3) := by decide +kernel
theorem dX2_gatherMissed_10 : decode cX2_gatherMissed 10 = .ok (.aload_n 0, 1) := by decide +kernel
theorem dX2_gatherMissed_11 : decode cX2_gatherMissed 11 = .ok (.lconst 0, 1) := by decide +kernel
theorem dX2_gatherMissed_12 : decode cX2_gatherMissed 12 = .ok (.putfield 32, 3) := by decide +kernel
theorem dX2_gatherMissed_15 : decode cX2_gatherMissed 15 = .ok (.iload_n 2, 1) := by decide +kernel
theorem dX2_gatherMissed_16 : decode cX2_gatherMissed 16 = .ok (.aload_n 1, 1) := by decide +kernel
theorem dX2_gatherMissed_17 : decode cX2_gatherMissed 17 = .ok (.getfield 104, 3) := by decide +kernel
theorem dX2_gatherMissed_20 : decode cX2_gatherMissed 20 = .ok (.isub, 1) := by decide +kernel
theorem dX2_gatherMissed_21 : decode cX2_gatherMissed 21 = .ok (.aload_n 1, 1) := by decide +kernel
theorem dX2_gatherMissed_22 : decode cX2_gatherMissed 22 = .ok (.getfield 39, 3) := by decide +kernel
theorem dX2_gatherMissed_25 : decode cX2_gatherMissed 25 = .ok (.invokestatic 107, 3) := by decide +kernel
theorem dX2_gatherMissed_28 : decode cX2_gatherMissed 28 = .ok (.istore_n 3, 1) := by decide +kernel
theorem dX2_gatherMissed_29 : decode cX2_gatherMissed 29 = .ok (.iload_n 3, 1) := by decide +kernel
theorem dX2_gatherMissed_30 : decode cX2_gatherMissed 30 = .ok (.iload_n 2, 1) := by decide +kernel
theorem dX2_gatherMissed_31 : decode cX2_gatherMissed 31 = .ok (.if_icmp .ge 72, 3) := by decide +kernel
theorem dX2_gatherMissed_34 : decode cX2_gatherMissed 34 = .ok (.aload_n 0, 1) := by decide +kernel
theorem dX2_gatherMissed_35 : decode cX2_gatherMissed 35 = .ok (.getfield 35, 3) := by decide +kernel
theorem dX2_gatherMissed_38 : decode cX2_gatherMissed 38 = .ok (.iconst 2, 1) := by decide +kernel
theorem dX2_gatherMissed_39 : decode cX2_gatherMissed 39 = .ok (.iload_n 3, 1) := by decide +kernel
theorem dX2_gatherMissed_40 : decode cX2_gatherMissed 40 = .ok (.aload_n 1, 1) := by decide +kernel
theorem dX2_gatherMissed_41 : decode cX2_gatherMissed 41 = .ok (.getfield 45, 3) := by decide +kernel
theorem dX2_gatherMissed_44 : decode cX2_gatherMissed 44 = .ok (.invokevirtual 48, 3) := by decide +kernel
theorem dX2_gatherMissed_47 : decode cX2_gatherMissed 47 = .ok (.istore 4, 2) := by decide +kernel
theorem dX2_gatherMissed_49 : decode cX2_gatherMissed 49 = .ok (.iload 4, 2) := by decide +kernel
theorem dX2_gatherMissed_51 : decode cX2_gatherMissed 51 = .ok (.ldc 44, 2) := by decide +kernel
theorem dX2_gatherMissed_53 : decode cX2_gatherMissed 53 = .ok (.if_icmp .eq 44, 3) := by decide +kernel
theorem dX2_gatherMissed_56 : decode cX2_gatherMissed 56 = .ok (.aload_n 0, 1) := by decide +kernel
theorem dX2_gatherMissed_57 : decode cX2_gatherMissed 57 = .ok (.dup, 1) := by decide +kernel
theorem dX2_gatherMissed_58 : decode cX2_gatherMissed 58 = .ok (.getfield 25, 3) := by decide +kernel
theorem dX2_gatherMissed_61 : decode cX2_gatherMissed 61 = .ok (.iconst 1, 1) := by decide +kernel
theorem dX2_gatherMissed_62 : decode cX2_gatherMissed 62 = .ok (.iadd, 1) := by decide +kernel
theorem dX2_gatherMissed_63 : decode cX2_gatherMissed 63 = .ok (.putfield 25, 3) := by decide +kernel
theorem dX2_gatherMissed_66 : decode cX2_gatherMissed 66 = .ok (.aload_n 0, 1) := by decide +kernel
theorem dX2_gatherMissed_67 : decode cX2_gatherMissed 67 = .ok (.dup, 1) := by decide +kernel
theorem dX2_gatherMissed_68 : decode cX2_gatherMissed 68 = .ok (.getfield 29, 3) := by decide +kernel
theorem dX2_gatherMissed_71 : decode cX2_gatherMissed 71 = .ok (.iload 4, 2) := by decide +kernel
theorem dX2_gatherMissed_73 : decode cX2_gatherMissed 73 = .ok (.invokestatic 110, 3) := by decide +kernel
theorem dX2_gatherMissed_76 : decode cX2_gatherMissed 76 = .ok (.i2l, 1) := by decide +kernel
theorem dX2_gatherMissed_77 : decode cX2_gatherMissed 77 = .ok (.ladd, 1) := by decide +kernel
theorem dX2_gatherMissed_78 : decode cX2_gatherMissed 78 = .ok (.putfield 29, 3) := by decide +kernel
theorem dX2_gatherMissed_81 : decode cX2_gatherMissed 81 = .ok (.aload_n 0, 1) := by decide +kernel
theorem dX2_gatherMissed_82 : decode cX2_gatherMissed 82 = .ok (.dup, 1) := by decide +kernel
theorem dX2_gatherMissed_83 : decode cX2_gatherMissed 83 = .ok (.getfield 32, 3) := by decide +kernel
theorem dX2_gatherMissed_86 : decode cX2_gatherMissed 86 = .ok (.iload 4, 2) := by decide +kernel
theorem dX2_gatherMissed_88 : decode cX2_gatherMissed 88 = .ok (.i2l, 1) := by decide +kernel
theorem dX2_gatherMissed_89 : decode cX2_gatherMissed 89 = .ok (.iload 4, 2) := by decide +kernel
theorem dX2_gatherMissed_91 : decode cX2_gatherMissed 91 = .ok (.i2l, 1) := by decide +kernel
theorem dX2_gatherMissed_92 : decode cX2_gatherMissed 92 = .ok (.lmul, 1) := by decide +kernel
theorem dX2_gatherMissed_93 : decode cX2_gatherMissed 93 = .ok (.ladd, 1) := by decide +kernel
theorem dX2_gatherMissed_94 : decode cX2_gatherMissed 94 = .ok (.putfield 32, 3) := by decide +kernel
theorem dX2_gatherMissed_97 : decode cX2_gatherMissed 97 = .ok (.iinc 3 1, 3) := by decide +kernel
theorem dX2_gatherMissed_100 : decode cX2_gatherMissed 100 = .ok (.goto (-71), 3) := by decide +kernel
theorem dX2_gatherMissed_103 : decode cX2_gatherMissed 103 = .ok (.return_, 1) := by decide +kernel
theorem dX2_drifts_0 : decode cX2_drifts 0 = .ok (.iload_n 2, 1) := by decide +kernel
theorem dX2_drifts_1 : decode cX2_drifts 1 = .ok (.iconst 2, 1) := by decide +kernel
theorem dX2_drifts_2 : decode cX2_drifts 2 = .ok (.isub, 1) := by decide +kernel
theorem dX2_drifts_3 : decode cX2_drifts 3 = .ok (.istore_n 3, 1) := by decide +kernel
theorem dX2_drifts_4 : decode cX2_drifts 4 = .ok (.iload_n 3, 1) := by decide +kernel
theorem dX2_drifts_5 : decode cX2_drifts 5 = .ok (.iload_n 2, 1) := by decide +kernel
theorem dX2_drifts_6 : decode cX2_drifts 6 = .ok (.if_icmp .gt 66, 3) := by decide +kernel
theorem dX2_drifts_9 : decode cX2_drifts 9 = .ok (.aload_n 0, 1) := by decide +kernel
theorem dX2_drifts_10 : decode cX2_drifts 10 = .ok (.aload_n 1, 1) := by decide +kernel
theorem dX2_drifts_11 : decode cX2_drifts 11 = .ok (.iload_n 3, 1) := by decide +kernel
theorem dX2_drifts_12 : decode cX2_drifts 12 = .ok (.iconst 1, 1) := by decide +kernel
theorem dX2_drifts_13 : decode cX2_drifts 13 = .ok (.isub, 1) := by decide +kernel
theorem dX2_drifts_14 : decode cX2_drifts 14 = .ok (.invokevirtual 114, 3) := by decide +kernel
theorem dX2_drifts_17 : decode cX2_drifts 17 = .ok (.istore 4, 2) := by decide +kernel
theorem dX2_drifts_19 : decode cX2_drifts 19 = .ok (.aload_n 0, 1) := by decide +kernel
theorem dX2_drifts_20 : decode cX2_drifts 20 = .ok (.aload_n 1, 1) := by decide +kernel
theorem dX2_drifts_21 : decode cX2_drifts 21 = .ok (.iload_n 3, 1) := by decide +kernel
theorem dX2_drifts_22 : decode cX2_drifts 22 = .ok (.invokevirtual 114, 3) := by decide +kernel
theorem dX2_drifts_25 : decode cX2_drifts 25 = .ok (.istore 5, 2) := by decide +kernel
theorem dX2_drifts_27 : decode cX2_drifts 27 = .ok (.iload 4, 2) := by decide +kernel
theorem dX2_drifts_29 : decode cX2_drifts 29 = .ok (.ldc 44, 2) := by decide +kernel
theorem dX2_drifts_31 : decode cX2_drifts 31 = .ok (.if_icmp .eq 33, 3) := by decide +kernel
theorem dX2_drifts_34 : decode cX2_drifts 34 = .ok (.iload 5, 2) := by decide +kernel
theorem dX2_drifts_36 : decode cX2_drifts 36 = .ok (.ldc 44, 2) := by decide +kernel
theorem dX2_drifts_38 : decode cX2_drifts 38 = .ok (.if_icmp .eq 26, 3) := by decide +kernel
theorem dX2_drifts_41 : decode cX2_drifts 41 = .ok (.iload 4, 2) := by decide +kernel
theorem dX2_drifts_43 : decode cX2_drifts 43 = .ok (.iload 5, 2) := by decide +kernel
theorem dX2_drifts_45 : decode cX2_drifts 45 = .ok (.invokestatic 117, 3) := by decide +kernel
theorem dX2_drifts_48 : decode cX2_drifts 48 = .ok (.ifCond .eq 16, 3) := by decide +kernel
theorem dX2_drifts_51 : decode cX2_drifts 51 = .ok (.iload 5, 2) := by decide +kernel
theorem dX2_drifts_53 : decode cX2_drifts 53 = .ok (.invokestatic 110, 3) := by decide +kernel
theorem dX2_drifts_56 : decode cX2_drifts 56 = .ok (.iload 4, 2) := by decide +kernel
theorem dX2_drifts_58 : decode cX2_drifts 58 = .ok (.invokestatic 110, 3) := by decide +kernel
theorem dX2_drifts_61 : decode cX2_drifts 61 = .ok (.if_icmp .gt 5, 3) := by decide +kernel
theorem dX2_drifts_64 : decode cX2_drifts 64 = .ok (.iconst 0, 1) := by decide +kernel
theorem dX2_drifts_65 : decode cX2_drifts 65 = .ok (.ireturn, 1) := by decide +kernel
theorem dX2_drifts_66 : decode cX2_drifts 66 = .ok (.iinc 3 1, 3) := by decide +kernel
theorem dX2_drifts_69 : decode cX2_drifts 69 = .ok (.goto (-65), 3) := by decide +kernel
theorem dX2_drifts_72 : decode cX2_drifts 72 = .ok (.iconst 1, 1) := by decide +kernel
theorem dX2_drifts_73 : decode cX2_drifts 73 = .ok (.ireturn, 1) := by decide +kernel
theorem dX2_haveOneSign_0 : decode cX2_haveOneSign 0 = .ok (.iload_n 0, 1) := by decide +kernel
theorem dX2_haveOneSign_1 : decode cX2_haveOneSign 1 = .ok (.ifCond .le 7, 3) := by decide +kernel
theorem dX2_haveOneSign_4 : decode cX2_haveOneSign 4 = .ok (.iload_n 1, 1) := by decide +kernel
theorem dX2_haveOneSign_5 : decode cX2_haveOneSign 5 = .ok (.ifCond .gt 11, 3) := by decide +kernel
theorem dX2_haveOneSign_8 : decode cX2_haveOneSign 8 = .ok (.iload_n 0, 1) := by decide +kernel
theorem dX2_haveOneSign_9 : decode cX2_haveOneSign 9 = .ok (.ifCond .ge 11, 3) := by decide +kernel
theorem dX2_haveOneSign_12 : decode cX2_haveOneSign 12 = .ok (.iload_n 1, 1) := by decide +kernel
theorem dX2_haveOneSign_13 : decode cX2_haveOneSign 13 = .ok (.ifCond .ge 7, 3) := by decide +kernel
theorem dX2_haveOneSign_16 : decode cX2_haveOneSign 16 = .ok (.iconst 1, 1) := by decide +kernel
theorem dX2_haveOneSign_17 : decode cX2_haveOneSign 17 = .ok (.goto 4, 3) := by decide +kernel
theorem dX2_haveOneSign_20 : decode cX2_haveOneSign 20 = .ok (.iconst 0, 1) := by decide +kernel
theorem dX2_haveOneSign_21 : decode cX2_haveOneSign 21 = .ok (.ireturn, 1) := by decide +kernel
theorem dX3_init_0 : decode cX3_init 0 = .ok (.aload_n 0, 1) := by decide +kernel
theorem dX3_init_1 : decode cX3_init 1 = .ok (.invokespecial 1, 3) := by decide +kernel
theorem dX3_init_4 : decode cX3_init 4 = .ok (.aload_n 0, 1) := by decide +kernel
theorem dX3_init_5 : decode cX3_init 5 = .ok (.iconst 0, 1) := by decide +kernel
theorem dX3_init_6 : decode cX3_init 6 = .ok (.putfield 7, 3) := by decide +kernel
theorem dX3_init_9 : decode cX3_init 9 = .ok (.aload_n 0, 1) := by decide +kernel
theorem dX3_init_10 : decode cX3_init 10 = .ok (.lconst 0, 1) := by decide +kernel
theorem dX3_init_11 : decode cX3_init 11 = .ok (.putfield 13, 3) := by decide +kernel
theorem dX3_init_14 : decode cX3_init 14 = .ok (.aload_n 0, 1) := by decide +kernel
theorem dX3_init_15 : decode cX3_init 15 = .ok (.lconst 0, 1) := by decide +kernel
theorem dX3_init_16 : decode cX3_init 16 = .ok (.putfield 17, 3) := by decide +kernel
theorem dX3_init_19 : decode cX3_init 19 = .ok (.aload_n 0, 1) := by decide +kernel
theorem dX3_init_20 : decode cX3_init 20 = .ok (.lconst 0, 1) := by decide +kernel
theorem dX3_init_21 : decode cX3_init 21 = .ok (.putfield 20, 3) := by decide +kernel
theorem dX3_init_24 : decode cX3_init 24 = .ok (.aload_n 0, 1) := by decide +kernel
theorem dX3_init_25 : decode cX3_init 25 = .ok (.lconst 0, 1) := by decide +kernel
theorem dX3_init_26 : decode cX3_init 26 = .ok (.putfield 23, 3) := by decide +kernel
theorem dX3_init_29 : decode cX3_init 29 = .ok (.return_, 1) := by decide +kernel
theorem dX3_clear_0 : decode cX3_clear 0 = .ok (.aload_n 0, 1) := by decide +kernel
theorem dX3_clear_1 : decode cX3_clear 1 = .ok (.iconst 0, 1) := by decide +kernel
theorem dX3_clear_2 : decode cX3_clear 2 = .ok (.putfield 7, 3) := by decide +kernel
theorem dX3_clear_5 : decode cX3_clear 5 = .ok (.aload_n 0, 1) := by decide +kernel
theorem dX3_clear_6 : decode cX3_clear 6 = .ok (.lconst 0, 1) := by decide +kernel
theorem dX3_clear_7 : decode cX3_clear 7 = .ok (.putfield 13, 3) := by decide +kernel
theorem dX3_clear_10 : decode cX3_clear 10 = .ok (.aload_n 0, 1) := by decide +kernel
theorem dX3_clear_11 : decode cX3_clear 11 = .ok (.lconst 0, 1) := by decide +kernel
theorem dX3_clear_12 : decode cX3_clear 12 = .ok (.putfield 17, 3) := by decide +kernel
theorem dX3_clear_15 : decode cX3_clear 15 = .ok (.aload_n 0, 1) := by decide +kernel
theorem dX3_clear_16 : decode cX3_clear 16 = .ok (.lconst 0, 1) := by decide +kernel
theorem dX3_clear_17 : decode cX3_clear 17 = .ok (.putfield 20, 3) := by decide +kernel
theorem dX3_clear_20 : decode cX3_clear 20 = .ok (.aload_n 0, 1) := by decide +kernel
theorem dX3_clear_21 : decode cX3_clear 21 = .ok (.lconst 0, 1) := by decide +kernel
theorem dX3_clear_22 : decode cX3_clear 22 = .ok (.putfield 23, 3) := by decide +kernel
theorem dX3_clear_25 : decode cX3_clear 25 = .ok (.return_, 1) := by decide +kernel
theorem dX3_add_0 : decode cX3_add 0 = .ok (.aload_n 0, 1) := by decide +kernel
theorem dX3_add_1 : decode cX3_add 1 = .ok (.dup, 1) := by decide +kernel
theorem dX3_add_2 : decode cX3_add 2 = .ok (.getfield 7, 3) := by decide +kernel
theorem dX3_add_5 : decode cX3_add 5 = .ok (.iconst 1, 1) := by decide +kernel
theorem dX3_add_6 : decode cX3_add 6 = .ok (.iadd, 1) := by decide +kernel
theorem dX3_add_7 : decode cX3_add 7 = .ok (.putfield 7, 3) := by decide +kernel
theorem dX3_add_10 : decode cX3_add 10 = .ok (.aload_n 0, 1) := by decide +kernel
theorem dX3_add_11 : decode cX3_add 11 = .ok (.dup, 1) := by decide +kernel
theorem dX3_add_12 : decode cX3_add 12 = .ok (.getfield 13, 3) := by decide +kernel
theorem dX3_add_15 : decode cX3_add 15 = .ok (.lload_n 1, 1) := by decide +kernel
theorem dX3_add_16 : decode cX3_add 16 = .ok (.ladd, 1) := by decide +kernel
theorem dX3_add_17 : decode cX3_add 17 = .ok (.putfield 13, 3) := by decide +kernel
theorem dX3_add_20 : decode cX3_add 20 = .ok (.aload_n 0, 1) := by decide +kernel
theorem dX3_add_21 : decode cX3_add 21 = .ok (.dup, 1) := by decide +kernel
theorem dX3_add_22 : decode cX3_add 22 = .ok (.getfield 17, 3) := by decide +kernel
theorem dX3_add_25 : decode cX3_add 25 = .ok (.lload_n 3, 1) := by decide +kernel
theorem dX3_add_26 : decode cX3_add 26 = .ok (.ladd, 1) := by decide +kernel
theorem dX3_add_27 : decode cX3_add 27 = .ok (.putfield 17, 3) := by decide +kernel
theorem dX3_add_30 : decode cX3_add 30 = .ok (.aload_n 0, 1) := by decide +kernel
theorem dX3_add_31 : decode cX3_add 31 = .ok (.dup, 1) := by decide +kernel
theorem dX3_add_32 : decode cX3_add 32 = .ok (.getfield 20, 3) := by decide +kernel
theorem dX3_add_35 : decode cX3_add 35 = .ok (.lload_n 1, 1) := by decide +kernel
theorem dX3_add_36 : decode cX3_add 36 = .ok (.lload_n 1, 1) := by decide +kernel
theorem dX3_add_37 : decode cX3_add 37 = .ok (.lmul, 1) := by decide +kernel
theorem dX3_add_38 : decode cX3_add 38 = .ok (.ladd, 1) := by decide +kernel
theorem dX3_add_39 : decode cX3_add 39 = .ok (.putfield 20, 3) := by decide +kernel
theorem dX3_add_42 : decode cX3_add 42 = .ok (.aload_n 0, 1) := by decide +kernel
theorem dX3_add_43 : decode cX3_add 43 = .ok (.dup, 1) := by decide +kernel
theorem dX3_add_44 : decode cX3_add 44 = .ok (.getfield 23, 3) := by decide +kernel
theorem dX3_add_47 : decode cX3_add 47 = .ok (.lload_n 1, 1) := by decide +kernel
theorem dX3_add_48 : decode cX3_add 48 = .ok (.lload_n 3, 1) := by decide +kernel
theorem dX3_add_49 : decode cX3_add 49 = .ok (.lmul, 1) := by decide +kernel
theorem dX3_add_50 : decode cX3_add 50 = .ok (.ladd, 1) := by decide +kernel
theorem dX3_add_51 : decode cX3_add 51 = .ok (.putfield 23, 3) := by decide +kernel
theorem dX3_add_54 : decode cX3_add 54 = .ok (.return_, 1) := by decide +kernel
theorem dX3_count_0 : decode cX3_count 0 = .ok (.aload_n 0, 1) := by decide +kernel
theorem dX3_count_1 : decode cX3_count 1 = .ok (.getfield 7, 3) := by decide +kernel
theorem dX3_count_4 : decode cX3_count 4 = .ok (.ireturn, 1) := by decide +kernel
theorem dX3_valueAtZero_0 : decode cX3_valueAtZero 0 = .ok (.aload_n 0, 1) := by decide +kernel
theorem dX3_valueAtZero_1 : decode cX3_valueAtZero 1 = .ok (.invokevirtual 26, 3) := by decide +kernel
theorem dX3_valueAtZero_4 : decode cX3_valueAtZero 4 = .ok (.lstore_n 1, 1) := by decide +kernel
theorem dX3_valueAtZero_5 : decode cX3_valueAtZero 5 = .ok (.lload_n 1, 1) := by decide +kernel
theorem dX3_valueAtZero_6 : decode cX3_valueAtZero 6 = .ok (.lconst 0, 1) := by decide +kernel
theorem dX3_valueAtZero_7 : decode cX3_valueAtZero 7 = .ok (.lcmp, 1) := by decide +kernel
theorem dX3_valueAtZero_8 : decode cX3_valueAtZero 8 = .ok (.ifCond .le 29, 3) := by decide +kernel
theorem dX3_valueAtZero_11 : decode cX3_valueAtZero 11 = .ok (.aload_n 0, 1) := by decide +kernel
theorem dX3_valueAtZero_12 : decode cX3_valueAtZero 12 = .ok (.getfield 17, 3) := by decide +kernel
theorem dX3_valueAtZero_15 : decode cX3_valueAtZero 15 = .ok (.aload_n 0, 1) := by decide +kernel
theorem dX3_valueAtZero_16 : decode cX3_valueAtZero 16 = .ok (.getfield 20, 3) := by decide +kernel
theorem dX3_valueAtZero_19 : decode cX3_valueAtZero 19 = .ok (.lmul, 1) := by decide +kernel
theorem dX3_valueAtZero_20 : decode cX3_valueAtZero 20 = .ok (.aload_n 0, 1) := by decide +kernel
theorem dX3_valueAtZero_21 : decode cX3_valueAtZero 21 = .ok (.getfield 13, 3) := by decide +kernel
theorem dX3_valueAtZero_24 : decode cX3_valueAtZero 24 = .ok (.aload_n 0, 1) := by decide +kernel
theorem dX3_valueAtZero_25 : decode cX3_valueAtZero 25 = .ok (.getfield 23, 3) := by decide +kernel
theorem dX3_valueAtZero_28 : decode cX3_valueAtZero 28 = .ok (.lmul, 1) := by decide +kernel
theorem dX3_valueAtZero_29 : decode cX3_valueAtZero 29 = .ok (.lsub, 1) := by decide +kernel
theorem dX3_valueAtZero_30 : decode cX3_valueAtZero 30 = .ok (.lload_n 1, 1) := by decide +kernel
theorem dX3_valueAtZero_31 : decode cX3_valueAtZero 31 = .ok (.invokestatic 30, 3) := by decide +kernel
theorem dX3_valueAtZero_34 : decode cX3_valueAtZero 34 = .ok (.goto 7, 3) := by decide +kernel
theorem dX3_valueAtZero_37 : decode cX3_valueAtZero 37 = .ok (.aload_n 0, 1) := by decide +kernel
theorem dX3_valueAtZero_38 : decode cX3_valueAtZero 38 = .ok (.getfield 17, 3) := by decide +kernel
theorem dX3_valueAtZero_41 : decode cX3_valueAtZero 41 = .ok (.lreturn, 1) := by decide +kernel
theorem dX3_slopeAbove_0 : decode cX3_slopeAbove 0 = .ok (.aload_n 0, 1) := by decide +kernel
theorem dX3_slopeAbove_1 : decode cX3_slopeAbove 1 = .ok (.invokevirtual 36, 3) := by decide +kernel
theorem dX3_slopeAbove_4 : decode cX3_slopeAbove 4 = .ok (.lstore_n 1, 1) := by decide +kernel
theorem dX3_slopeAbove_5 : decode cX3_slopeAbove 5 = .ok (.lload_n 1, 1) := by decide +kernel
theorem dX3_slopeAbove_6 : decode cX3_slopeAbove 6 = .ok (.lconst 0, 1) := by decide +kernel
theorem dX3_slopeAbove_7 : decode cX3_slopeAbove 7 = .ok (.lcmp, 1) := by decide +kernel
theorem dX3_slopeAbove_8 : decode cX3_slopeAbove 8 = .ok (.ifCond .le 12, 3) := by decide +kernel
theorem dX3_slopeAbove_11 : decode cX3_slopeAbove 11 = .ok (.aload_n 0, 1) := by decide +kernel
theorem dX3_slopeAbove_12 : decode cX3_slopeAbove 12 = .ok (.invokevirtual 39, 3) := by decide +kernel
theorem dX3_slopeAbove_15 : decode cX3_slopeAbove 15 = .ok (.lload_n 1, 1) := by decide +kernel
theorem dX3_slopeAbove_16 : decode cX3_slopeAbove 16 = .ok (.ldiv, 1) := by decide +kernel
theorem dX3_slopeAbove_17 : decode cX3_slopeAbove 17 = .ok (.goto 4, 3) := by decide +kernel
theorem dX3_slopeAbove_20 : decode cX3_slopeAbove 20 = .ok (.lconst 0, 1) := by decide +kernel
theorem dX3_slopeAbove_21 : decode cX3_slopeAbove 21 = .ok (.lreturn, 1) := by decide +kernel
theorem dX3_slopeBelow_0 : decode cX3_slopeBelow 0 = .ok (.aload_n 0, 1) := by decide +kernel
theorem dX3_slopeBelow_1 : decode cX3_slopeBelow 1 = .ok (.invokevirtual 36, 3) := by decide +kernel
theorem dX3_slopeBelow_4 : decode cX3_slopeBelow 4 = .ok (.lstore_n 1, 1) := by decide +kernel
theorem dX3_slopeBelow_5 : decode cX3_slopeBelow 5 = .ok (.lload_n 1, 1) := by decide +kernel
theorem dX3_slopeBelow_6 : decode cX3_slopeBelow 6 = .ok (.lconst 0, 1) := by decide +kernel
theorem dX3_slopeBelow_7 : decode cX3_slopeBelow 7 = .ok (.lcmp, 1) := by decide +kernel
theorem dX3_slopeBelow_8 : decode cX3_slopeBelow 8 = .ok (.ifCond .le 12, 3) := by decide +kernel
theorem dX3_slopeBelow_11 : decode cX3_slopeBelow 11 = .ok (.aload_n 0, 1) := by decide +kernel
theorem dX3_slopeBelow_12 : decode cX3_slopeBelow 12 = .ok (.invokevirtual 26, 3) := by decide +kernel
theorem dX3_slopeBelow_15 : decode cX3_slopeBelow 15 = .ok (.lload_n 1, 1) := by decide +kernel
theorem dX3_slopeBelow_16 : decode cX3_slopeBelow 16 = .ok (.ldiv, 1) := by decide +kernel
theorem dX3_slopeBelow_17 : decode cX3_slopeBelow 17 = .ok (.goto 4, 3) := by decide +kernel
theorem dX3_slopeBelow_20 : decode cX3_slopeBelow 20 = .ok (.lconst 1, 1) := by decide +kernel
theorem dX3_slopeBelow_21 : decode cX3_slopeBelow 21 = .ok (.lreturn, 1) := by decide +kernel
theorem dX3_rawAbove_0 : decode cX3_rawAbove 0 = .ok (.aload_n 0, 1) := by decide +kernel
theorem dX3_rawAbove_1 : decode cX3_rawAbove 1 = .ok (.getfield 7, 3) := by decide +kernel
theorem dX3_rawAbove_4 : decode cX3_rawAbove 4 = .ok (.i2l, 1) := by decide +kernel
theorem dX3_rawAbove_5 : decode cX3_rawAbove 5 = .ok (.aload_n 0, 1) := by decide +kernel
theorem dX3_rawAbove_6 : decode cX3_rawAbove 6 = .ok (.getfield 23, 3) := by decide +kernel
theorem dX3_rawAbove_9 : decode cX3_rawAbove 9 = .ok (.lmul, 1) := by decide +kernel
theorem dX3_rawAbove_10 : decode cX3_rawAbove 10 = .ok (.aload_n 0, 1) := by decide +kernel
theorem dX3_rawAbove_11 : decode cX3_rawAbove 11 = .ok (.getfield 13, 3) := by decide +kernel
theorem dX3_rawAbove_14 : decode cX3_rawAbove 14 = .ok (.aload_n 0, 1) := by decide +kernel
theorem dX3_rawAbove_15 : decode cX3_rawAbove 15 = .ok (.getfield 17, 3) := by decide +kernel
theorem dX3_rawAbove_18 : decode cX3_rawAbove 18 = .ok (.lmul, 1) := by decide +kernel
theorem dX3_rawAbove_19 : decode cX3_rawAbove 19 = .ok (.lsub, 1) := by decide +kernel
theorem dX3_rawAbove_20 : decode cX3_rawAbove 20 = .ok (.lreturn, 1) := by decide +kernel
theorem dX3_rawBelow_0 : decode cX3_rawBelow 0 = .ok (.aload_n 0, 1) := by decide +kernel
theorem dX3_rawBelow_1 : decode cX3_rawBelow 1 = .ok (.getfield 7, 3) := by decide +kernel
theorem dX3_rawBelow_4 : decode cX3_rawBelow 4 = .ok (.i2l, 1) := by decide +kernel
theorem dX3_rawBelow_5 : decode cX3_rawBelow 5 = .ok (.aload_n 0, 1) := by decide +kernel
theorem dX3_rawBelow_6 : decode cX3_rawBelow 6 = .ok (.getfield 20, 3) := by decide +kernel
theorem dX3_rawBelow_9 : decode cX3_rawBelow 9 = .ok (.lmul, 1) := by decide +kernel
theorem dX3_rawBelow_10 : decode cX3_rawBelow 10 = .ok (.aload_n 0, 1) := by decide +kernel
theorem dX3_rawBelow_11 : decode cX3_rawBelow 11 = .ok (.getfield 13, 3) := by decide +kernel
theorem dX3_rawBelow_14 : decode cX3_rawBelow 14 = .ok (.aload_n 0, 1) := by decide +kernel
theorem dX3_rawBelow_15 : decode cX3_rawBelow 15 = .ok (.getfield 13, 3) := by decide +kernel
theorem dX3_rawBelow_18 : decode cX3_rawBelow 18 = .ok (.lmul, 1) := by decide +kernel
theorem dX3_rawBelow_19 : decode cX3_rawBelow 19 = .ok (.lsub, 1) := by decide +kernel
theorem dX3_rawBelow_20 : decode cX3_rawBelow 20 = .ok (.lreturn, 1) := by decide +kernel
theorem dX3_divisorOfBoth_0 : decode cX3_divisorOfBoth 0 = .ok (.aload_n 0, 1) := by decide +kernel
theorem dX3_divisorOfBoth_1 : decode cX3_divisorOfBoth 1 = .ok (.invokevirtual 26, 3) := by decide +kernel
theorem dX3_divisorOfBoth_4 : decode cX3_divisorOfBoth 4 = .ok (.lstore_n 1, 1) := by decide +kernel
theorem dX3_divisorOfBoth_5 : decode cX3_divisorOfBoth 5 = .ok (.lload_n 1, 1) := by decide +kernel
theorem dX3_divisorOfBoth_6 : decode cX3_divisorOfBoth 6 = .ok (.lconst 0, 1) := by decide +kernel
theorem dX3_divisorOfBoth_7 : decode cX3_divisorOfBoth 7 = .ok (.lcmp, 1) := by decide +kernel
theorem dX3_divisorOfBoth_8 : decode cX3_divisorOfBoth 8 = .ok (.ifCond .gt 5, 3) := by decide +kernel
theorem dX3_divisorOfBoth_11 : decode cX3_divisorOfBoth 11 = .ok (.lconst 0, 1) := by decide +kernel
theorem dX3_divisorOfBoth_12 : decode cX3_divisorOfBoth 12 = .ok (.lreturn, 1) := by decide +kernel
theorem dX3_divisorOfBoth_13 : decode cX3_divisorOfBoth 13 = .ok (.aload_n 0, 1) := by decide +kernel
theorem dX3_divisorOfBoth_14 : decode cX3_divisorOfBoth 14 = .ok (.invokevirtual 39, 3) := by decide +kernel
theorem dX3_divisorOfBoth_17 : decode cX3_divisorOfBoth 17 = .ok (.invokestatic 42, 3) := by decide +kernel
theorem dX3_divisorOfBoth_20 : decode cX3_divisorOfBoth 20 = .ok (.lstore_n 3, 1) := by decide +kernel
theorem dX3_divisorOfBoth_21 : decode cX3_divisorOfBoth 21 = .ok (.iconst 0, 1) := by decide +kernel
theorem dX3_divisorOfBoth_22 : decode cX3_divisorOfBoth 22 = .ok (.istore 5, 2) := by decide +kernel
theorem dX3_divisorOfBoth_24 : decode cX3_divisorOfBoth 24 = .ok (.iload 5, 2) := by decide +kernel
theorem dX3_divisorOfBoth_26 : decode cX3_divisorOfBoth 26 = .ok (.sipush 200, 3) := by decide +kernel
theorem dX3_divisorOfBoth_29 : decode cX3_divisorOfBoth 29 = .ok (.if_icmp .ge 25, 3) := by decide +kernel
theorem dX3_divisorOfBoth_32 : decode cX3_divisorOfBoth 32 = .ok (.lload_n 3, 1) := by decide +kernel
theorem dX3_divisorOfBoth_33 : decode cX3_divisorOfBoth 33 = .ok (.lconst 0, 1) := by decide +kernel
theorem dX3_divisorOfBoth_34 : decode cX3_divisorOfBoth 34 = .ok (.lcmp, 1) := by decide +kernel
theorem dX3_divisorOfBoth_35 : decode cX3_divisorOfBoth 35 = .ok (.ifCond .eq 19, 3) := by decide +kernel
theorem dX3_divisorOfBoth_38 : decode cX3_divisorOfBoth 38 = .ok (.lload_n 1, 1) := by decide +kernel
theorem dX3_divisorOfBoth_39 : decode cX3_divisorOfBoth 39 = .ok (.lload_n 3, 1) := by decide +kernel
theorem dX3_divisorOfBoth_40 : decode cX3_divisorOfBoth 40 = .ok (.lrem, 1) := by decide +kernel
theorem dX3_divisorOfBoth_41 : decode cX3_divisorOfBoth 41 = .ok (.lstore 6, 2) := by decide +kernel
theorem dX3_divisorOfBoth_43 : decode cX3_divisorOfBoth 43 = .ok (.lload_n 3, 1) := by decide +kernel
theorem dX3_divisorOfBoth_44 : decode cX3_divisorOfBoth 44 = .ok (.lstore_n 1, 1) := by decide +kernel
theorem dX3_divisorOfBoth_45 : decode cX3_divisorOfBoth 45 = .ok (.lload 6, 2) := by decide +kernel
theorem dX3_divisorOfBoth_47 : decode cX3_divisorOfBoth 47 = .ok (.lstore_n 3, 1) := by decide +kernel
theorem dX3_divisorOfBoth_48 : decode cX3_divisorOfBoth 48 = .ok (.iinc 5 1, 3) := by decide +kernel
theorem dX3_divisorOfBoth_51 : decode cX3_divisorOfBoth 51 = .ok (.goto (-27), 3) := by decide +kernel
theorem dX3_divisorOfBoth_54 : decode cX3_divisorOfBoth 54 = .ok (.lload_n 1, 1) := by decide +kernel
theorem dX3_divisorOfBoth_55 : decode cX3_divisorOfBoth 55 = .ok (.lreturn, 1) := by decide +kernel
theorem dX4_init_0 : decode cX4_init 0 = .ok (.aload_n 0, 1) := by decide +kernel
theorem dX4_init_1 : decode cX4_init 1 = .ok (.invokespecial 3, 3) := by decide +kernel
theorem dX4_init_4 : decode cX4_init 4 = .ok (.aload_n 0, 1) := by decide +kernel
theorem dX4_init_5 : decode cX4_init 5 = .ok (.iconst 4, 1) := by decide +kernel
theorem dX4_init_6 : decode cX4_init 6 = .ok (.putfield 9, 3) := by decide +kernel
theorem dX4_init_9 : decode cX4_init 9 = .ok (.aload_n 0, 1) := by decide +kernel
theorem dX4_init_10 : decode cX4_init 10 = .ok (.iconst (-1), 1) := by decide +kernel
theorem dX4_init_11 : decode cX4_init 11 = .ok (.putfield 15, 3) := by decide +kernel
theorem dX4_init_14 : decode cX4_init 14 = .ok (.aload_n 0, 1) := by decide +kernel
theorem dX4_init_15 : decode cX4_init 15 = .ok (.iconst (-1), 1) := by decide +kernel
theorem dX4_init_16 : decode cX4_init 16 = .ok (.putfield 18, 3) := by decide +kernel
theorem dX4_init_19 : decode cX4_init 19 = .ok (.aload_n 0, 1) := by decide +kernel
theorem dX4_init_20 : decode cX4_init 20 = .ok (.iconst 0, 1) := by decide +kernel
theorem dX4_init_21 : decode cX4_init 21 = .ok (.putfield 21, 3) := by decide +kernel
theorem dX4_init_24 : decode cX4_init 24 = .ok (.aload_n 0, 1) := by decide +kernel
theorem dX4_init_25 : decode cX4_init 25 = .ok (.sipush 201, 3) := by decide +kernel
theorem dX4_init_28 : decode cX4_init 28 = .ok (.newarray .int, 2) := by decide +kernel
theorem dX4_init_30 : decode cX4_init 30 = .ok (.putfield 24, 3) := by decide +kernel
theorem dX4_init_33 : decode cX4_init 33 = .ok (.aload_n 0, 1) := by decide +kernel
theorem dX4_init_34 : decode cX4_init 34 = .ok (.sipush 201, 3) := by decide +kernel
theorem dX4_init_37 : decode cX4_init 37 = .ok (.newarray .int, 2) := by decide +kernel
theorem dX4_init_39 : decode cX4_init 39 = .ok (.putfield 28, 3) := by decide +kernel
theorem dX4_init_42 : decode cX4_init 42 = .ok (.return_, 1) := by decide +kernel
theorem dX4_lay_0 : decode cX4_lay 0 = .ok (.aload_n 0, 1) := by decide +kernel
theorem dX4_lay_1 : decode cX4_lay 1 = .ok (.iload_n 1, 1) := by decide +kernel
theorem dX4_lay_2 : decode cX4_lay 2 = .ok (.putfield 9, 3) := by decide +kernel
theorem dX4_lay_5 : decode cX4_lay 5 = .ok (.aload_n 0, 1) := by decide +kernel
theorem dX4_lay_6 : decode cX4_lay 6 = .ok (.iload_n 2, 1) := by decide +kernel
theorem dX4_lay_7 : decode cX4_lay 7 = .ok (.putfield 15, 3) := by decide +kernel
theorem dX4_lay_10 : decode cX4_lay 10 = .ok (.aload_n 0, 1) := by decide +kernel
theorem dX4_lay_11 : decode cX4_lay 11 = .ok (.iload_n 3, 1) := by decide +kernel
theorem dX4_lay_12 : decode cX4_lay 12 = .ok (.putfield 18, 3) := by decide +kernel
theorem dX4_lay_15 : decode cX4_lay 15 = .ok (.aload_n 0, 1) := by decide +kernel
theorem dX4_lay_16 : decode cX4_lay 16 = .ok (.iconst 0, 1) := by decide +kernel
theorem dX4_lay_17 : decode cX4_lay 17 = .ok (.putfield 21, 3) := by decide +kernel
theorem dX4_lay_20 : decode cX4_lay 20 = .ok (.aload_n 0, 1) := by decide +kernel
theorem dX4_lay_21 : decode cX4_lay 21 = .ok (.invokevirtual 31, 3) := by decide +kernel
theorem dX4_lay_24 : decode cX4_lay 24 = .ok (.pop, 1) := by decide +kernel
theorem dX4_lay_25 : decode cX4_lay 25 = .ok (.return_, 1) := by decide +kernel
theorem dX4_dropReadings_0 : decode cX4_dropReadings 0 = .ok (.iconst 0, 1) := by decide +kernel
theorem dX4_dropReadings_1 : decode cX4_dropReadings 1 = .ok (.istore_n 1, 1) := by decide +kernel
theorem dX4_dropReadings_2 : decode cX4_dropReadings 2 = .ok (.iconst 0, 1) := by decide +kernel
theorem dX4_dropReadings_3 : decode cX4_dropReadings 3 = .ok (.istore_n 2, 1) := by decide +kernel
theorem dX4_dropReadings_4 : decode cX4_dropReadings 4 = .ok (.iload_n 2, 1) := by decide +kernel
theorem dX4_dropReadings_5 : decode cX4_dropReadings 5 = .ok (.aload_n 0, 1) := by decide +kernel
theorem dX4_dropReadings_6 : decode cX4_dropReadings 6 = .ok (.getfield 24, 3) := by decide +kernel
theorem dX4_dropReadings_9 : decode cX4_dropReadings 9 = .ok (.arraylength, 1) := by decide +kernel
theorem dX4_dropReadings_10 : decode cX4_dropReadings 10 = .ok (.if_icmp .ge 59, 3) := by decide +kernel
theorem dX4_dropReadings_13 : decode cX4_dropReadings 13 = .ok (.iload_n 2, 1) := by decide +kernel
theorem dX4_dropReadings_14 : decode cX4_dropReadings 14 = .ok (.aload_n 0, 1) := by decide +kernel
theorem dX4_dropReadings_15 : decode cX4_dropReadings 15 = .ok (.getfield 28, 3) := by decide +kernel
theorem dX4_dropReadings_18 : decode cX4_dropReadings 18 = .ok (.arraylength, 1) := by decide +kernel
theorem dX4_dropReadings_19 : decode cX4_dropReadings 19 = .ok (.if_icmp .ge 50, 3) := by decide +kernel
theorem dX4_dropReadings_22 : decode cX4_dropReadings 22 = .ok (.aload_n 0, 1) := by decide +kernel
theorem dX4_dropReadings_23 : decode cX4_dropReadings 23 = .ok (.getfield 24, 3) := by decide +kernel
theorem dX4_dropReadings_26 : decode cX4_dropReadings 26 = .ok (.iload_n 2, 1) := by decide +kernel
theorem dX4_dropReadings_27 : decode cX4_dropReadings 27 = .ok (.iaload, 1) := by decide +kernel
theorem dX4_dropReadings_28 : decode cX4_dropReadings 28 = .ok (.ldc 35, 2) := by decide +kernel
theorem dX4_dropReadings_30 : decode cX4_dropReadings 30 = .ok (.if_icmp .ne 14, 3) := by decide +kernel
theorem dX4_dropReadings_33 : decode cX4_dropReadings 33 = .ok (.aload_n 0, 1) := by decide +kernel
theorem dX4_dropReadings_34 : decode cX4_dropReadings 34 = .ok (.getfield 28, 3) := by decide +kernel
theorem dX4_dropReadings_37 : decode cX4_dropReadings 37 = .ok (.iload_n 2, 1) := by decide +kernel
theorem dX4_dropReadings_38 : decode cX4_dropReadings 38 = .ok (.iaload, 1) := by decide +kernel
theorem dX4_dropReadings_39 : decode cX4_dropReadings 39 = .ok (.ldc 35, 2) := by decide +kernel
theorem dX4_dropReadings_41 : decode cX4_dropReadings 41 = .ok (.if_icmp .eq 6, 3) := by decide +kernel
theorem dX4_dropReadings_44 : decode cX4_dropReadings 44 = .ok (.iinc 1 1, 3) := by decide +kernel
theorem dX4_dropReadings_47 : decode cX4_dropReadings 47 = .ok (.aload_n 0, 1) := by decide +kernel
theorem dX4_dropReadings_48 : decode cX4_dropReadings 48 = .ok (.getfield 24, 3) := by decide +kernel
theorem dX4_dropReadings_51 : decode cX4_dropReadings 51 = .ok (.iload_n 2, 1) := by decide +kernel
theorem dX4_dropReadings_52 : decode cX4_dropReadings 52 = .ok (.ldc 35, 2) := by decide +kernel
theorem dX4_dropReadings_54 : decode cX4_dropReadings 54 = .ok (.iastore, 1) := by decide +kernel
theorem dX4_dropReadings_55 : decode cX4_dropReadings 55 = .ok (.aload_n 0, 1) := by decide +kernel
theorem dX4_dropReadings_56 : decode cX4_dropReadings 56 = .ok (.getfield 28, 3) := by decide +kernel
theorem dX4_dropReadings_59 : decode cX4_dropReadings 59 = .ok (.iload_n 2, 1) := by decide +kernel
theorem dX4_dropReadings_60 : decode cX4_dropReadings 60 = .ok (.ldc 35, 2) := by decide +kernel
theorem dX4_dropReadings_62 : decode cX4_dropReadings 62 = .ok (.iastore, 1) := by decide +kernel
theorem dX4_dropReadings_63 : decode cX4_dropReadings 63 = .ok (.iinc 2 1, 3) := by decide +kernel
theorem dX4_dropReadings_66 : decode cX4_dropReadings 66 = .ok (.goto (-62), 3) := by decide +kernel
theorem dX4_dropReadings_69 : decode cX4_dropReadings 69 = .ok (.iload_n 1, 1) := by decide +kernel
theorem dX4_dropReadings_70 : decode cX4_dropReadings 70 = .ok (.ireturn, 1) := by decide +kernel
theorem dX4_readThere_0 : decode cX4_readThere 0 = .ok (.iload_n 1, 1) := by decide +kernel
theorem dX4_readThere_1 : decode cX4_readThere 1 = .ok (.ifCond .lt 19, 3) := by decide +kernel
theorem dX4_readThere_4 : decode cX4_readThere 4 = .ok (.iload_n 1, 1) := by decide +kernel
theorem dX4_readThere_5 : decode cX4_readThere 5 = .ok (.aload_n 0, 1) := by decide +kernel
theorem dX4_readThere_6 : decode cX4_readThere 6 = .ok (.getfield 24, 3) := by decide +kernel
theorem dX4_readThere_9 : decode cX4_readThere 9 = .ok (.arraylength, 1) := by decide +kernel
theorem dX4_readThere_10 : decode cX4_readThere 10 = .ok (.if_icmp .ge 10, 3) := by decide +kernel
theorem dX4_readThere_13 : decode cX4_readThere 13 = .ok (.aload_n 0, 1) := by decide +kernel
theorem dX4_readThere_14 : decode cX4_readThere 14 = .ok (.getfield 24, 3) := by decide +kernel
theorem dX4_readThere_17 : decode cX4_readThere 17 = .ok (.iload_n 1, 1) := by decide +kernel
theorem dX4_readThere_18 : decode cX4_readThere 18 = .ok (.iload_n 2, 1) := by decide +kernel
theorem dX4_readThere_19 : decode cX4_readThere 19 = .ok (.iastore, 1) := by decide +kernel
theorem dX4_readThere_20 : decode cX4_readThere 20 = .ok (.return_, 1) := by decide +kernel
theorem dX4_readBack_0 : decode cX4_readBack 0 = .ok (.iload_n 1, 1) := by decide +kernel
theorem dX4_readBack_1 : decode cX4_readBack 1 = .ok (.ifCond .lt 19, 3) := by decide +kernel
theorem dX4_readBack_4 : decode cX4_readBack 4 = .ok (.iload_n 1, 1) := by decide +kernel
theorem dX4_readBack_5 : decode cX4_readBack 5 = .ok (.aload_n 0, 1) := by decide +kernel
theorem dX4_readBack_6 : decode cX4_readBack 6 = .ok (.getfield 28, 3) := by decide +kernel
theorem dX4_readBack_9 : decode cX4_readBack 9 = .ok (.arraylength, 1) := by decide +kernel
theorem dX4_readBack_10 : decode cX4_readBack 10 = .ok (.if_icmp .ge 10, 3) := by decide +kernel
theorem dX4_readBack_13 : decode cX4_readBack 13 = .ok (.aload_n 0, 1) := by decide +kernel
theorem dX4_readBack_14 : decode cX4_readBack 14 = .ok (.getfield 28, 3) := by decide +kernel
theorem dX4_readBack_17 : decode cX4_readBack 17 = .ok (.iload_n 1, 1) := by decide +kernel
theorem dX4_readBack_18 : decode cX4_readBack 18 = .ok (.iload_n 2, 1) := by decide +kernel
theorem dX4_readBack_19 : decode cX4_readBack 19 = .ok (.iastore, 1) := by decide +kernel
theorem dX4_readBack_20 : decode cX4_readBack 20 = .ok (.return_, 1) := by decide +kernel
theorem dX4_toldAt_0 : decode cX4_toldAt 0 = .ok (.iload_n 1, 1) := by decide +kernel
theorem dX4_toldAt_1 : decode cX4_toldAt 1 = .ok (.ifCond .lt 32, 3) := by decide +kernel
theorem dX4_toldAt_4 : decode cX4_toldAt 4 = .ok (.iload_n 1, 1) := by decide +kernel
theorem dX4_toldAt_5 : decode cX4_toldAt 5 = .ok (.aload_n 0, 1) := by decide +kernel
theorem dX4_toldAt_6 : decode cX4_toldAt 6 = .ok (.getfield 24, 3) := by decide +kernel
theorem dX4_toldAt_9 : decode cX4_toldAt 9 = .ok (.arraylength, 1) := by decide +kernel
theorem dX4_toldAt_10 : decode cX4_toldAt 10 = .ok (.if_icmp .ge 23, 3) := by decide +kernel
theorem dX4_toldAt_13 : decode cX4_toldAt 13 = .ok (.iload_n 1, 1) := by decide +kernel
theorem dX4_toldAt_14 : decode cX4_toldAt 14 = .ok (.aload_n 0, 1) := by decide +kernel
theorem dX4_toldAt_15 : decode cX4_toldAt 15 = .ok (.getfield 28, 3) := by decide +kernel
theorem dX4_toldAt_18 : decode cX4_toldAt 18 = .ok (.arraylength, 1) := by decide +kernel
theorem dX4_toldAt_19 : decode cX4_toldAt 19 = .ok (.if_icmp .ge 14, 3) := by decide +kernel
theorem dX4_toldAt_22 : decode cX4_toldAt 22 = .ok (.aload_n 0, 1) := by decide +kernel
theorem dX4_toldAt_23 : decode cX4_toldAt 23 = .ok (.getfield 24, 3) := by decide +kernel
theorem dX4_toldAt_26 : decode cX4_toldAt 26 = .ok (.iload_n 1, 1) := by decide +kernel
theorem dX4_toldAt_27 : decode cX4_toldAt 27 = .ok (.iaload, 1) := by decide +kernel
theorem dX4_toldAt_28 : decode cX4_toldAt 28 = .ok (.ldc 35, 2) := by decide +kernel
theorem dX4_toldAt_30 : decode cX4_toldAt 30 = .ok (.if_icmp .ne 6, 3) := by decide +kernel
theorem dX4_toldAt_33 : decode cX4_toldAt 33 = .ok (.ldc 35, 2) := by decide +kernel
theorem dX4_toldAt_35 : decode cX4_toldAt 35 = .ok (.ireturn, 1) := by decide +kernel
theorem dX4_toldAt_36 : decode cX4_toldAt 36 = .ok (.aload_n 0, 1) := by decide +kernel
theorem dX4_toldAt_37 : decode cX4_toldAt 37 = .ok (.getfield 9, 3) := by decide +kernel
theorem dX4_toldAt_40 : decode cX4_toldAt 40 = .ok (.iconst 5, 1) := by decide +kernel
theorem dX4_toldAt_41 : decode cX4_toldAt 41 = .ok (.if_icmp .ne 15, 3) := by decide +kernel
theorem dX4_toldAt_44 : decode cX4_toldAt 44 = .ok (.aload_n 0, 1) := by decide +kernel
theorem dX4_toldAt_45 : decode cX4_toldAt 45 = .ok (.getfield 24, 3) := by decide +kernel
theorem dX4_toldAt_48 : decode cX4_toldAt 48 = .ok (.iload_n 1, 1) := by decide +kernel
theorem dX4_toldAt_49 : decode cX4_toldAt 49 = .ok (.iaload, 1) := by decide +kernel
theorem dX4_toldAt_50 : decode cX4_toldAt 50 = .ok (.aload_n 0, 1) := by decide +kernel
theorem dX4_toldAt_51 : decode cX4_toldAt 51 = .ok (.getfield 21, 3) := by decide +kernel
theorem dX4_toldAt_54 : decode cX4_toldAt 54 = .ok (.isub, 1) := by decide +kernel
theorem dX4_toldAt_55 : decode cX4_toldAt 55 = .ok (.ireturn, 1) := by decide +kernel
theorem dX4_toldAt_56 : decode cX4_toldAt 56 = .ok (.aload_n 0, 1) := by decide +kernel
theorem dX4_toldAt_57 : decode cX4_toldAt 57 = .ok (.getfield 9, 3) := by decide +kernel
theorem dX4_toldAt_60 : decode cX4_toldAt 60 = .ok (.bipush 6, 2) := by decide +kernel
theorem dX4_toldAt_62 : decode cX4_toldAt 62 = .ok (.if_icmp .ne 36, 3) := by decide +kernel
theorem dX4_toldAt_65 : decode cX4_toldAt 65 = .ok (.aload_n 0, 1) := by decide +kernel
theorem dX4_toldAt_66 : decode cX4_toldAt 66 = .ok (.getfield 28, 3) := by decide +kernel
theorem dX4_toldAt_69 : decode cX4_toldAt 69 = .ok (.iload_n 1, 1) := by decide +kernel
theorem dX4_toldAt_70 : decode cX4_toldAt 70 = .ok (.iaload, 1) := by decide +kernel
theorem dX4_toldAt_71 : decode cX4_toldAt 71 = .ok (.ldc 35, 2) := by decide +kernel
theorem dX4_toldAt_73 : decode cX4_toldAt 73 = .ok (.if_icmp .ne 8, 3) := by decide +kernel
theorem dX4_toldAt_76 : decode cX4_toldAt 76 = .ok (.ldc 35, 2) := by decide +kernel
theorem dX4_toldAt_78 : decode cX4_toldAt 78 = .ok (.goto 19, 3) := by decide +kernel
theorem dX4_toldAt_81 : decode cX4_toldAt 81 = .ok (.aload_n 0, 1) := by decide +kernel
theorem dX4_toldAt_82 : decode cX4_toldAt 82 = .ok (.getfield 24, 3) := by decide +kernel
theorem dX4_toldAt_85 : decode cX4_toldAt 85 = .ok (.iload_n 1, 1) := by decide +kernel
theorem dX4_toldAt_86 : decode cX4_toldAt 86 = .ok (.iaload, 1) := by decide +kernel
theorem dX4_toldAt_87 : decode cX4_toldAt 87 = .ok (.aload_n 0, 1) := by decide +kernel
theorem dX4_toldAt_88 : decode cX4_toldAt 88 = .ok (.getfield 28, 3) := by decide +kernel
theorem dX4_toldAt_91 : decode cX4_toldAt 91 = .ok (.iload_n 1, 1) := by decide +kernel
theorem dX4_toldAt_92 : decode cX4_toldAt 92 = .ok (.iaload, 1) := by decide +kernel
theorem dX4_toldAt_93 : decode cX4_toldAt 93 = .ok (.iadd, 1) := by decide +kernel
theorem dX4_toldAt_94 : decode cX4_toldAt 94 = .ok (.bipush 8, 2) := by decide +kernel
theorem dX4_toldAt_96 : decode cX4_toldAt 96 = .ok (.idiv, 1) := by decide +kernel
theorem dX4_toldAt_97 : decode cX4_toldAt 97 = .ok (.ireturn, 1) := by decide +kernel
theorem dX4_toldAt_98 : decode cX4_toldAt 98 = .ok (.aload_n 0, 1) := by decide +kernel
theorem dX4_toldAt_99 : decode cX4_toldAt 99 = .ok (.getfield 24, 3) := by decide +kernel
theorem dX4_toldAt_102 : decode cX4_toldAt 102 = .ok (.iload_n 1, 1) := by decide +kernel
theorem dX4_toldAt_103 : decode cX4_toldAt 103 = .ok (.iaload, 1) := by decide +kernel
theorem dX4_toldAt_104 : decode cX4_toldAt 104 = .ok (.ireturn, 1) := by decide +kernel
theorem dX4_otherEndFrom_0 : decode cX4_otherEndFrom 0 = .ok (.iload_n 1, 1) := by decide +kernel
theorem dX4_otherEndFrom_1 : decode cX4_otherEndFrom 1 = .ok (.aload_n 0, 1) := by decide +kernel
theorem dX4_otherEndFrom_2 : decode cX4_otherEndFrom 2 = .ok (.getfield 15, 3) := by decide +kernel
theorem dX4_otherEndFrom_5 : decode cX4_otherEndFrom 5 = .ok (.if_icmp .ne 8, 3) := by decide +kernel
theorem dX4_otherEndFrom_8 : decode cX4_otherEndFrom 8 = .ok (.aload_n 0, 1) := by decide +kernel
theorem dX4_otherEndFrom_9 : decode cX4_otherEndFrom 9 = .ok (.getfield 18, 3) := by decide +kernel
theorem dX4_otherEndFrom_12 : decode cX4_otherEndFrom 12 = .ok (.ireturn, 1) := by decide +kernel
theorem dX4_otherEndFrom_13 : decode cX4_otherEndFrom 13 = .ok (.iload_n 1, 1) := by decide +kernel
theorem dX4_otherEndFrom_14 : decode cX4_otherEndFrom 14 = .ok (.aload_n 0, 1) := by decide +kernel
theorem dX4_otherEndFrom_15 : decode cX4_otherEndFrom 15 = .ok (.getfield 18, 3) := by decide +kernel
theorem dX4_otherEndFrom_18 : decode cX4_otherEndFrom 18 = .ok (.if_icmp .ne 10, 3) := by decide +kernel
theorem dX4_otherEndFrom_21 : decode cX4_otherEndFrom 21 = .ok (.aload_n 0, 1) := by decide +kernel
theorem dX4_otherEndFrom_22 : decode cX4_otherEndFrom 22 = .ok (.getfield 15, 3) := by decide +kernel
theorem dX4_otherEndFrom_25 : decode cX4_otherEndFrom 25 = .ok (.goto 4, 3) := by decide +kernel
theorem dX4_otherEndFrom_28 : decode cX4_otherEndFrom 28 = .ok (.iconst (-1), 1) := by decide +kernel
theorem dX4_otherEndFrom_29 : decode cX4_otherEndFrom 29 = .ok (.ireturn, 1) := by decide +kernel
theorem dX5_init_0 : decode cX5_init 0 = .ok (.aload_n 0, 1) := by decide +kernel
theorem dX5_init_1 : decode cX5_init 1 = .ok (.invokespecial 3, 3) := by decide +kernel
theorem dX5_init_4 : decode cX5_init 4 = .ok (.aload_n 0, 1) := by decide +kernel
theorem dX5_init_5 : decode cX5_init 5 = .ok (.bipush 24, 2) := by decide +kernel
theorem dX5_init_7 : decode cX5_init 7 = .ok (.newarray .int, 2) := by decide +kernel
theorem dX5_init_9 : decode cX5_init 9 = .ok (.putfield 9, 3) := by decide +kernel
theorem dX5_init_12 : decode cX5_init 12 = .ok (.aload_n 0, 1) := by decide +kernel
theorem dX5_init_13 : decode cX5_init 13 = .ok (.bipush 24, 2) := by decide +kernel
theorem dX5_init_15 : decode cX5_init 15 = .ok (.anewarray 15, 3) := by decide +kernel
theorem dX5_init_18 : decode cX5_init 18 = .ok (.putfield 17, 3) := by decide +kernel
theorem dX5_init_21 : decode cX5_init 21 = .ok (.aload_n 0, 1) := by decide +kernel
theorem dX5_init_22 : decode cX5_init 22 = .ok (.bipush 24, 2) := by decide +kernel
theorem dX5_init_24 : decode cX5_init 24 = .ok (.anewarray 21, 3) := by decide +kernel
theorem dX5_init_27 : decode cX5_init 27 = .ok (.putfield 23, 3) := by decide +kernel
theorem dX5_init_30 : decode cX5_init 30 = .ok (.iconst 0, 1) := by decide +kernel
theorem dX5_init_31 : decode cX5_init 31 = .ok (.istore_n 1, 1) := by decide +kernel
theorem dX5_init_32 : decode cX5_init 32 = .ok (.iload_n 1, 1) := by decide +kernel
theorem dX5_init_33 : decode cX5_init 33 = .ok (.bipush 24, 2) := by decide +kernel
theorem dX5_init_35 : decode cX5_init 35 = .ok (.if_icmp .ge 43, 3) := by decide +kernel
theorem dX5_init_38 : decode cX5_init 38 = .ok (.aload_n 0, 1) := by decide +kernel
theorem dX5_init_39 : decode cX5_init 39 = .ok (.getfield 9, 3) := by decide +kernel
theorem dX5_init_42 : decode cX5_init 42 = .ok (.iload_n 1, 1) := by decide +kernel
theorem dX5_init_43 : decode cX5_init 43 = .ok (.iconst (-1), 1) := by decide +kernel
theorem dX5_init_44 : decode cX5_init 44 = .ok (.iastore, 1) := by decide +kernel
theorem dX5_init_45 : decode cX5_init 45 = .ok (.aload_n 0, 1) := by decide +kernel
theorem dX5_init_46 : decode cX5_init 46 = .ok (.getfield 17, 3) := by decide +kernel
theorem dX5_init_49 : decode cX5_init 49 = .ok (.iload_n 1, 1) := by decide +kernel
theorem dX5_init_50 : decode cX5_init 50 = .ok (.new 15, 3) := by decide +kernel
theorem dX5_init_53 : decode cX5_init 53 = .ok (.dup, 1) := by decide +kernel
theorem dX5_init_54 : decode cX5_init 54 = .ok (.iload_n 1, 1) := by decide +kernel
theorem dX5_init_55 : decode cX5_init 55 = .ok (.invokespecial 27, 3) := by decide +kernel
theorem dX5_init_58 : decode cX5_init 58 = .ok (.aastore, 1) := by decide +kernel
theorem dX5_init_59 : decode cX5_init 59 = .ok (.aload_n 0, 1) := by decide +kernel
theorem dX5_init_60 : decode cX5_init 60 = .ok (.getfield 23, 3) := by decide +kernel
theorem dX5_init_63 : decode cX5_init 63 = .ok (.iload_n 1, 1) := by decide +kernel
theorem dX5_init_64 : decode cX5_init 64 = .ok (.new 21, 3) := by decide +kernel
theorem dX5_init_67 : decode cX5_init 67 = .ok (.dup, 1) := by decide +kernel
theorem dX5_init_68 : decode cX5_init 68 = .ok (.invokespecial 30, 3) := by decide +kernel
theorem dX5_init_71 : decode cX5_init 71 = .ok (.aastore, 1) := by decide +kernel
theorem dX5_init_72 : decode cX5_init 72 = .ok (.iinc 1 1, 3) := by decide +kernel
theorem dX5_init_75 : decode cX5_init 75 = .ok (.goto (-43), 3) := by decide +kernel
theorem dX5_init_78 : decode cX5_init 78 = .ok (.return_, 1) := by decide +kernel
theorem dX5_kindAt_0 : decode cX5_kindAt 0 = .ok (.iload_n 1, 1) := by decide +kernel
theorem dX5_kindAt_1 : decode cX5_kindAt 1 = .ok (.ifCond .lt 21, 3) := by decide +kernel
theorem dX5_kindAt_4 : decode cX5_kindAt 4 = .ok (.iload_n 1, 1) := by decide +kernel
theorem dX5_kindAt_5 : decode cX5_kindAt 5 = .ok (.aload_n 0, 1) := by decide +kernel
theorem dX5_kindAt_6 : decode cX5_kindAt 6 = .ok (.getfield 9, 3) := by decide +kernel
theorem dX5_kindAt_9 : decode cX5_kindAt 9 = .ok (.arraylength, 1) := by decide +kernel
theorem dX5_kindAt_10 : decode cX5_kindAt 10 = .ok (.if_icmp .ge 12, 3) := by decide +kernel
theorem dX5_kindAt_13 : decode cX5_kindAt 13 = .ok (.aload_n 0, 1) := by decide +kernel
theorem dX5_kindAt_14 : decode cX5_kindAt 14 = .ok (.getfield 9, 3) := by decide +kernel
theorem dX5_kindAt_17 : decode cX5_kindAt 17 = .ok (.iload_n 1, 1) := by decide +kernel
theorem dX5_kindAt_18 : decode cX5_kindAt 18 = .ok (.iaload, 1) := by decide +kernel
theorem dX5_kindAt_19 : decode cX5_kindAt 19 = .ok (.goto 4, 3) := by decide +kernel
theorem dX5_kindAt_22 : decode cX5_kindAt 22 = .ok (.iconst (-1), 1) := by decide +kernel
theorem dX5_kindAt_23 : decode cX5_kindAt 23 = .ok (.ireturn, 1) := by decide +kernel
theorem dX5_clockAt_0 : decode cX5_clockAt 0 = .ok (.iload_n 1, 1) := by decide +kernel
theorem dX5_clockAt_1 : decode cX5_clockAt 1 = .ok (.ifCond .lt 32, 3) := by decide +kernel
theorem dX5_clockAt_4 : decode cX5_clockAt 4 = .ok (.iload_n 1, 1) := by decide +kernel
theorem dX5_clockAt_5 : decode cX5_clockAt 5 = .ok (.aload_n 0, 1) := by decide +kernel
theorem dX5_clockAt_6 : decode cX5_clockAt 6 = .ok (.getfield 17, 3) := by decide +kernel
theorem dX5_clockAt_9 : decode cX5_clockAt 9 = .ok (.arraylength, 1) := by decide +kernel
theorem dX5_clockAt_10 : decode cX5_clockAt 10 = .ok (.if_icmp .ge 23, 3) := by decide +kernel
theorem dX5_clockAt_13 : decode cX5_clockAt 13 = .ok (.aload_n 0, 1) := by decide +kernel
theorem dX5_clockAt_14 : decode cX5_clockAt 14 = .ok (.iload_n 1, 1) := by decide +kernel
theorem dX5_clockAt_15 : decode cX5_clockAt 15 = .ok (.invokevirtual 31, 3) := by decide +kernel
theorem dX5_clockAt_18 : decode cX5_clockAt 18 = .ok (.invokestatic 35, 3) := by decide +kernel
theorem dX5_clockAt_21 : decode cX5_clockAt 21 = .ok (.ifCond .eq 12, 3) := by decide +kernel
theorem dX5_clockAt_24 : decode cX5_clockAt 24 = .ok (.aload_n 0, 1) := by decide +kernel
theorem dX5_clockAt_25 : decode cX5_clockAt 25 = .ok (.getfield 17, 3) := by decide +kernel
theorem dX5_clockAt_28 : decode cX5_clockAt 28 = .ok (.iload_n 1, 1) := by decide +kernel
theorem dX5_clockAt_29 : decode cX5_clockAt 29 = .ok (.aaload, 1) := by decide +kernel
theorem dX5_clockAt_30 : decode cX5_clockAt 30 = .ok (.goto 4, 3) := by decide +kernel
theorem dX5_clockAt_33 : decode cX5_clockAt 33 = .ok (.aconst_null, 1) := by decide +kernel
theorem dX5_clockAt_34 : decode cX5_clockAt 34 = .ok (.areturn, 1) := by decide +kernel
theorem dX5_linkAt_0 : decode cX5_linkAt 0 = .ok (.iload_n 1, 1) := by decide +kernel
theorem dX5_linkAt_1 : decode cX5_linkAt 1 = .ok (.ifCond .lt 32, 3) := by decide +kernel
theorem dX5_linkAt_4 : decode cX5_linkAt 4 = .ok (.iload_n 1, 1) := by decide +kernel
theorem dX5_linkAt_5 : decode cX5_linkAt 5 = .ok (.aload_n 0, 1) := by decide +kernel
theorem dX5_linkAt_6 : decode cX5_linkAt 6 = .ok (.getfield 23, 3) := by decide +kernel
theorem dX5_linkAt_9 : decode cX5_linkAt 9 = .ok (.arraylength, 1) := by decide +kernel
theorem dX5_linkAt_10 : decode cX5_linkAt 10 = .ok (.if_icmp .ge 23, 3) := by decide +kernel
theorem dX5_linkAt_13 : decode cX5_linkAt 13 = .ok (.aload_n 0, 1) := by decide +kernel
theorem dX5_linkAt_14 : decode cX5_linkAt 14 = .ok (.iload_n 1, 1) := by decide +kernel
theorem dX5_linkAt_15 : decode cX5_linkAt 15 = .ok (.invokevirtual 31, 3) := by decide +kernel
theorem dX5_linkAt_18 : decode cX5_linkAt 18 = .ok (.invokestatic 39, 3) := by decide +kernel
theorem dX5_linkAt_21 : decode cX5_linkAt 21 = .ok (.ifCond .eq 12, 3) := by decide +kernel
theorem dX5_linkAt_24 : decode cX5_linkAt 24 = .ok (.aload_n 0, 1) := by decide +kernel
theorem dX5_linkAt_25 : decode cX5_linkAt 25 = .ok (.getfield 23, 3) := by decide +kernel
theorem dX5_linkAt_28 : decode cX5_linkAt 28 = .ok (.iload_n 1, 1) := by decide +kernel
theorem dX5_linkAt_29 : decode cX5_linkAt 29 = .ok (.aaload, 1) := by decide +kernel
theorem dX5_linkAt_30 : decode cX5_linkAt 30 = .ok (.goto 4, 3) := by decide +kernel
theorem dX5_linkAt_33 : decode cX5_linkAt 33 = .ok (.aconst_null, 1) := by decide +kernel
theorem dX5_linkAt_34 : decode cX5_linkAt 34 = .ok (.areturn, 1) := by decide +kernel
theorem dX5_layClock_0 : decode cX5_layClock 0 = .ok (.iload_n 3, 1) := by decide +kernel
theorem dX5_layClock_1 : decode cX5_layClock 1 = .ok (.iconst 2, 1) := by decide +kernel
theorem dX5_layClock_2 : decode cX5_layClock 2 = .ok (.if_icmp .lt 22, 3) := by decide +kernel
theorem dX5_layClock_5 : decode cX5_layClock 5 = .ok (.iload_n 3, 1) := by decide +kernel
theorem dX5_layClock_6 : decode cX5_layClock 6 = .ok (.bipush 12, 2) := by decide +kernel
theorem dX5_layClock_8 : decode cX5_layClock 8 = .ok (.if_icmp .gt 16, 3) := by decide +kernel
theorem dX5_layClock_11 : decode cX5_layClock 11 = .ok (.iload 4, 2) := by decide +kernel
theorem dX5_layClock_13 : decode cX5_layClock 13 = .ok (.iconst 1, 1) := by decide +kernel
theorem dX5_layClock_14 : decode cX5_layClock 14 = .ok (.if_icmp .lt 10, 3) := by decide +kernel
theorem dX5_layClock_17 : decode cX5_layClock 17 = .ok (.iload 4, 2) := by decide +kernel
theorem dX5_layClock_19 : decode cX5_layClock 19 = .ok (.bipush 12, 2) := by decide +kernel
theorem dX5_layClock_21 : decode cX5_layClock 21 = .ok (.if_icmp .le 5, 3) := by decide +kernel
theorem dX5_layClock_24 : decode cX5_layClock 24 = .ok (.iconst 0, 1) := by decide +kernel
theorem dX5_layClock_25 : decode cX5_layClock 25 = .ok (.ireturn, 1) := by decide +kernel
theorem dX5_layClock_26 : decode cX5_layClock 26 = .ok (.iload_n 1, 1) := by decide +kernel
theorem dX5_layClock_27 : decode cX5_layClock 27 = .ok (.ifCond .lt 30, 3) := by decide +kernel
theorem dX5_layClock_30 : decode cX5_layClock 30 = .ok (.iload_n 1, 1) := by decide +kernel
theorem dX5_layClock_31 : decode cX5_layClock 31 = .ok (.aload_n 0, 1) := by decide +kernel
theorem dX5_layClock_32 : decode cX5_layClock 32 = .ok (.getfield 9, 3) := by decide +kernel
theorem dX5_layClock_35 : decode cX5_layClock 35 = .ok (.arraylength, 1) := by decide +kernel
theorem dX5_layClock_36 : decode cX5_layClock 36 = .ok (.if_icmp .ge 21, 3) := by decide +kernel
theorem dX5_layClock_39 : decode cX5_layClock 39 = .ok (.iload_n 1, 1) := by decide +kernel
theorem dX5_layClock_40 : decode cX5_layClock 40 = .ok (.aload_n 0, 1) := by decide +kernel
theorem dX5_layClock_41 : decode cX5_layClock 41 = .ok (.getfield 17, 3) := by decide +kernel
theorem dX5_layClock_44 : decode cX5_layClock 44 = .ok (.arraylength, 1) := by decide +kernel
theorem dX5_layClock_45 : decode cX5_layClock 45 = .ok (.if_icmp .ge 12, 3) := by decide +kernel
theorem dX5_layClock_48 : decode cX5_layClock 48 = .ok (.aload_n 0, 1) := by decide +kernel
theorem dX5_layClock_49 : decode cX5_layClock 49 = .ok (.getfield 17, 3) := by decide +kernel
theorem dX5_layClock_52 : decode cX5_layClock 52 = .ok (.iload_n 1, 1) := by decide +kernel
theorem dX5_layClock_53 : decode cX5_layClock 53 = .ok (.aaload, 1) := by decide +kernel
theorem dX5_layClock_54 : decode cX5_layClock 54 = .ok (.ifnonnull 5, 3) := by decide +kernel
theorem dX5_layClock_57 : decode cX5_layClock 57 = .ok (.iconst 0, 1) := by decide +kernel
theorem dX5_layClock_58 : decode cX5_layClock 58 = .ok (.ireturn, 1) := by decide +kernel
theorem dX5_layClock_59 : decode cX5_layClock 59 = .ok (.aload_n 0, 1) := by decide +kernel
theorem dX5_layClock_60 : decode cX5_layClock 60 = .ok (.getfield 9, 3) := by decide +kernel
theorem dX5_layClock_63 : decode cX5_layClock 63 = .ok (.iload_n 1, 1) := by decide +kernel
theorem dX5_layClock_64 : decode cX5_layClock 64 = .ok (.iload_n 2, 1) := by decide +kernel
theorem dX5_layClock_65 : decode cX5_layClock 65 = .ok (.iastore, 1) := by decide +kernel
theorem dX5_layClock_66 : decode cX5_layClock 66 = .ok (.aload_n 0, 1) := by decide +kernel
theorem dX5_layClock_67 : decode cX5_layClock 67 = .ok (.getfield 17, 3) := by decide +kernel
theorem dX5_layClock_70 : decode cX5_layClock 70 = .ok (.iload_n 1, 1) := by decide +kernel
theorem dX5_layClock_71 : decode cX5_layClock 71 = .ok (.aaload, 1) := by decide +kernel
theorem dX5_layClock_72 : decode cX5_layClock 72 = .ok (.iload_n 2, 1) := by decide +kernel
theorem dX5_layClock_73 : decode cX5_layClock 73 = .ok (.iload_n 3, 1) := by decide +kernel
theorem dX5_layClock_74 : decode cX5_layClock 74 = .ok (.iload 4, 2) := by decide +kernel
theorem dX5_layClock_76 : decode cX5_layClock 76 = .ok (.iload 5, 2) := by decide +kernel
theorem dX5_layClock_78 : decode cX5_layClock 78 = .ok (.invokevirtual 42, 3) := by decide +kernel
theorem dX5_layClock_81 : decode cX5_layClock 81 = .ok (.iconst 1, 1) := by decide +kernel
theorem dX5_layClock_82 : decode cX5_layClock 82 = .ok (.ireturn, 1) := by decide +kernel
theorem dX5_layLink_0 : decode cX5_layLink 0 = .ok (.iload_n 3, 1) := by decide +kernel
theorem dX5_layLink_1 : decode cX5_layLink 1 = .ok (.iload 4, 2) := by decide +kernel
theorem dX5_layLink_3 : decode cX5_layLink 3 = .ok (.if_icmp .eq 20, 3) := by decide +kernel
theorem dX5_layLink_6 : decode cX5_layLink 6 = .ok (.aload_n 0, 1) := by decide +kernel
theorem dX5_layLink_7 : decode cX5_layLink 7 = .ok (.iload_n 3, 1) := by decide +kernel
theorem dX5_layLink_8 : decode cX5_layLink 8 = .ok (.invokevirtual 46, 3) := by decide +kernel
theorem dX5_layLink_11 : decode cX5_layLink 11 = .ok (.ifnull 12, 3) := by decide +kernel
theorem dX5_layLink_14 : decode cX5_layLink 14 = .ok (.aload_n 0, 1) := by decide +kernel
theorem dX5_layLink_15 : decode cX5_layLink 15 = .ok (.iload 4, 2) := by decide +kernel
theorem dX5_layLink_17 : decode cX5_layLink 17 = .ok (.invokevirtual 46, 3) := by decide +kernel
theorem dX5_layLink_20 : decode cX5_layLink 20 = .ok (.ifnonnull 5, 3) := by decide +kernel
theorem dX5_layLink_23 : decode cX5_layLink 23 = .ok (.iconst 0, 1) := by decide +kernel
theorem dX5_layLink_24 : decode cX5_layLink 24 = .ok (.ireturn, 1) := by decide +kernel
theorem dX5_layLink_25 : decode cX5_layLink 25 = .ok (.iload_n 1, 1) := by decide +kernel
theorem dX5_layLink_26 : decode cX5_layLink 26 = .ok (.ifCond .lt 30, 3) := by decide +kernel
theorem dX5_layLink_29 : decode cX5_layLink 29 = .ok (.iload_n 1, 1) := by decide +kernel
theorem dX5_layLink_30 : decode cX5_layLink 30 = .ok (.aload_n 0, 1) := by decide +kernel
theorem dX5_layLink_31 : decode cX5_layLink 31 = .ok (.getfield 9, 3) := by decide +kernel
theorem dX5_layLink_34 : decode cX5_layLink 34 = .ok (.arraylength, 1) := by decide +kernel
theorem dX5_layLink_35 : decode cX5_layLink 35 = .ok (.if_icmp .ge 21, 3) := by decide +kernel
theorem dX5_layLink_38 : decode cX5_layLink 38 = .ok (.iload_n 1, 1) := by decide +kernel
theorem dX5_layLink_39 : decode cX5_layLink 39 = .ok (.aload_n 0, 1) := by decide +kernel
theorem dX5_layLink_40 : decode cX5_layLink 40 = .ok (.getfield 23, 3) := by decide +kernel
theorem dX5_layLink_43 : decode cX5_layLink 43 = .ok (.arraylength, 1) := by decide +kernel
theorem dX5_layLink_44 : decode cX5_layLink 44 = .ok (.if_icmp .ge 12, 3) := by decide +kernel
theorem dX5_layLink_47 : decode cX5_layLink 47 = .ok (.aload_n 0, 1) := by decide +kernel
theorem dX5_layLink_48 : decode cX5_layLink 48 = .ok (.getfield 23, 3) := by decide +kernel
theorem dX5_layLink_51 : decode cX5_layLink 51 = .ok (.iload_n 1, 1) := by decide +kernel
theorem dX5_layLink_52 : decode cX5_layLink 52 = .ok (.aaload, 1) := by decide +kernel
theorem dX5_layLink_53 : decode cX5_layLink 53 = .ok (.ifnonnull 5, 3) := by decide +kernel
theorem dX5_layLink_56 : decode cX5_layLink 56 = .ok (.iconst 0, 1) := by decide +kernel
theorem dX5_layLink_57 : decode cX5_layLink 57 = .ok (.ireturn, 1) := by decide +kernel
theorem dX5_layLink_58 : decode cX5_layLink 58 = .ok (.aload_n 0, 1) := by decide +kernel
theorem dX5_layLink_59 : decode cX5_layLink 59 = .ok (.getfield 9, 3) := by decide +kernel
theorem dX5_layLink_62 : decode cX5_layLink 62 = .ok (.iload_n 1, 1) := by decide +kernel
theorem dX5_layLink_63 : decode cX5_layLink 63 = .ok (.iload_n 2, 1) := by decide +kernel
theorem dX5_layLink_64 : decode cX5_layLink 64 = .ok (.iastore, 1) := by decide +kernel
theorem dX5_layLink_65 : decode cX5_layLink 65 = .ok (.aload_n 0, 1) := by decide +kernel
theorem dX5_layLink_66 : decode cX5_layLink 66 = .ok (.getfield 23, 3) := by decide +kernel
theorem dX5_layLink_69 : decode cX5_layLink 69 = .ok (.iload_n 1, 1) := by decide +kernel
theorem dX5_layLink_70 : decode cX5_layLink 70 = .ok (.aaload, 1) := by decide +kernel
theorem dX5_layLink_71 : decode cX5_layLink 71 = .ok (.iload_n 2, 1) := by decide +kernel
theorem dX5_layLink_72 : decode cX5_layLink 72 = .ok (.iload_n 3, 1) := by decide +kernel
theorem dX5_layLink_73 : decode cX5_layLink 73 = .ok (.iload 4, 2) := by decide +kernel
theorem dX5_layLink_75 : decode cX5_layLink 75 = .ok (.invokevirtual 50, 3) := by decide +kernel
theorem dX5_layLink_78 : decode cX5_layLink 78 = .ok (.iconst 1, 1) := by decide +kernel
theorem dX5_layLink_79 : decode cX5_layLink 79 = .ok (.ireturn, 1) := by decide +kernel
theorem dX5_layLamp_0 : decode cX5_layLamp 0 = .ok (.iload_n 1, 1) := by decide +kernel
theorem dX5_layLamp_1 : decode cX5_layLamp 1 = .ok (.ifCond .lt 12, 3) := by decide +kernel
theorem dX5_layLamp_4 : decode cX5_layLamp 4 = .ok (.iload_n 1, 1) := by decide +kernel
theorem dX5_layLamp_5 : decode cX5_layLamp 5 = .ok (.aload_n 0, 1) := by decide +kernel
theorem dX5_layLamp_6 : decode cX5_layLamp 6 = .ok (.getfield 9, 3) := by decide +kernel
theorem dX5_layLamp_9 : decode cX5_layLamp 9 = .ok (.arraylength, 1) := by decide +kernel
theorem dX5_layLamp_10 : decode cX5_layLamp 10 = .ok (.if_icmp .lt 5, 3) := by decide +kernel
theorem dX5_layLamp_13 : decode cX5_layLamp 13 = .ok (.iconst 0, 1) := by decide +kernel
theorem dX5_layLamp_14 : decode cX5_layLamp 14 = .ok (.ireturn, 1) := by decide +kernel
theorem dX5_layLamp_15 : decode cX5_layLamp 15 = .ok (.aload_n 0, 1) := by decide +kernel
theorem dX5_layLamp_16 : decode cX5_layLamp 16 = .ok (.getfield 9, 3) := by decide +kernel
theorem dX5_layLamp_19 : decode cX5_layLamp 19 = .ok (.iload_n 1, 1) := by decide +kernel
theorem dX5_layLamp_20 : decode cX5_layLamp 20 = .ok (.bipush 7, 2) := by decide +kernel
theorem dX5_layLamp_22 : decode cX5_layLamp 22 = .ok (.iastore, 1) := by decide +kernel
theorem dX5_layLamp_23 : decode cX5_layLamp 23 = .ok (.iconst 1, 1) := by decide +kernel
theorem dX5_layLamp_24 : decode cX5_layLamp 24 = .ok (.ireturn, 1) := by decide +kernel
theorem dX5_empty_0 : decode cX5_empty 0 = .ok (.iload_n 1, 1) := by decide +kernel
theorem dX5_empty_1 : decode cX5_empty 1 = .ok (.ifCond .lt 19, 3) := by decide +kernel
theorem dX5_empty_4 : decode cX5_empty 4 = .ok (.iload_n 1, 1) := by decide +kernel
theorem dX5_empty_5 : decode cX5_empty 5 = .ok (.aload_n 0, 1) := by decide +kernel
theorem dX5_empty_6 : decode cX5_empty 6 = .ok (.getfield 9, 3) := by decide +kernel
theorem dX5_empty_9 : decode cX5_empty 9 = .ok (.arraylength, 1) := by decide +kernel
theorem dX5_empty_10 : decode cX5_empty 10 = .ok (.if_icmp .ge 10, 3) := by decide +kernel
theorem dX5_empty_13 : decode cX5_empty 13 = .ok (.aload_n 0, 1) := by decide +kernel
theorem dX5_empty_14 : decode cX5_empty 14 = .ok (.getfield 9, 3) := by decide +kernel
theorem dX5_empty_17 : decode cX5_empty 17 = .ok (.iload_n 1, 1) := by decide +kernel
theorem dX5_empty_18 : decode cX5_empty 18 = .ok (.iconst (-1), 1) := by decide +kernel
theorem dX5_empty_19 : decode cX5_empty 19 = .ok (.iastore, 1) := by decide +kernel
theorem dX5_empty_20 : decode cX5_empty 20 = .ok (.return_, 1) := by decide +kernel
theorem dX5_hasLinkOf_0 : decode cX5_hasLinkOf 0 = .ok (.aload_n 0, 1) := by decide +kernel
theorem dX5_hasLinkOf_1 : decode cX5_hasLinkOf 1 = .ok (.iload_n 1, 1) := by decide +kernel
theorem dX5_hasLinkOf_2 : decode cX5_hasLinkOf 2 = .ok (.invokevirtual 46, 3) := by decide +kernel
theorem dX5_hasLinkOf_5 : decode cX5_hasLinkOf 5 = .ok (.ifnonnull 5, 3) := by decide +kernel
theorem dX5_hasLinkOf_8 : decode cX5_hasLinkOf 8 = .ok (.iconst 0, 1) := by decide +kernel
theorem dX5_hasLinkOf_9 : decode cX5_hasLinkOf 9 = .ok (.ireturn, 1) := by decide +kernel
theorem dX5_hasLinkOf_10 : decode cX5_hasLinkOf 10 = .ok (.iconst 0, 1) := by decide +kernel
theorem dX5_hasLinkOf_11 : decode cX5_hasLinkOf 11 = .ok (.istore_n 2, 1) := by decide +kernel
theorem dX5_hasLinkOf_12 : decode cX5_hasLinkOf 12 = .ok (.iload_n 2, 1) := by decide +kernel
theorem dX5_hasLinkOf_13 : decode cX5_hasLinkOf 13 = .ok (.bipush 24, 2) := by decide +kernel
theorem dX5_hasLinkOf_15 : decode cX5_hasLinkOf 15 = .ok (.if_icmp .ge 37, 3) := by decide +kernel
theorem dX5_hasLinkOf_18 : decode cX5_hasLinkOf 18 = .ok (.aload_n 0, 1) := by decide +kernel
theorem dX5_hasLinkOf_19 : decode cX5_hasLinkOf 19 = .ok (.iload_n 2, 1) := by decide +kernel
theorem dX5_hasLinkOf_20 : decode cX5_hasLinkOf 20 = .ok (.invokevirtual 53, 3) := by decide +kernel
theorem dX5_hasLinkOf_23 : decode cX5_hasLinkOf 23 = .ok (.astore_n 3, 1) := by decide +kernel
theorem dX5_hasLinkOf_24 : decode cX5_hasLinkOf 24 = .ok (.aload_n 3, 1) := by decide +kernel
theorem dX5_hasLinkOf_25 : decode cX5_hasLinkOf 25 = .ok (.ifnull 21, 3) := by decide +kernel
theorem dX5_hasLinkOf_28 : decode cX5_hasLinkOf 28 = .ok (.aload_n 3, 1) := by decide +kernel
theorem dX5_hasLinkOf_29 : decode cX5_hasLinkOf 29 = .ok (.getfield 57, 3) := by decide +kernel
theorem dX5_hasLinkOf_32 : decode cX5_hasLinkOf 32 = .ok (.iload_n 1, 1) := by decide +kernel
theorem dX5_hasLinkOf_33 : decode cX5_hasLinkOf 33 = .ok (.if_icmp .eq 11, 3) := by decide +kernel
theorem dX5_hasLinkOf_36 : decode cX5_hasLinkOf 36 = .ok (.aload_n 3, 1) := by decide +kernel
theorem dX5_hasLinkOf_37 : decode cX5_hasLinkOf 37 = .ok (.getfield 61, 3) := by decide +kernel
theorem dX5_hasLinkOf_40 : decode cX5_hasLinkOf 40 = .ok (.iload_n 1, 1) := by decide +kernel
theorem dX5_hasLinkOf_41 : decode cX5_hasLinkOf 41 = .ok (.if_icmp .ne 5, 3) := by decide +kernel
theorem dX5_hasLinkOf_44 : decode cX5_hasLinkOf 44 = .ok (.iconst 1, 1) := by decide +kernel
theorem dX5_hasLinkOf_45 : decode cX5_hasLinkOf 45 = .ok (.ireturn, 1) := by decide +kernel
theorem dX5_hasLinkOf_46 : decode cX5_hasLinkOf 46 = .ok (.iinc 2 1, 3) := by decide +kernel
theorem dX5_hasLinkOf_49 : decode cX5_hasLinkOf 49 = .ok (.goto (-37), 3) := by decide +kernel
theorem dX5_hasLinkOf_52 : decode cX5_hasLinkOf 52 = .ok (.iconst 0, 1) := by decide +kernel
theorem dX5_hasLinkOf_53 : decode cX5_hasLinkOf 53 = .ok (.ireturn, 1) := by decide +kernel
theorem dX5_toldBetween_0 : decode cX5_toldBetween 0 = .ok (.iconst 0, 1) := by decide +kernel
theorem dX5_toldBetween_1 : decode cX5_toldBetween 1 = .ok (.istore 4, 2) := by decide +kernel
theorem dX5_toldBetween_3 : decode cX5_toldBetween 3 = .ok (.iload 4, 2) := by decide +kernel
theorem dX5_toldBetween_5 : decode cX5_toldBetween 5 = .ok (.bipush 24, 2) := by decide +kernel
theorem dX5_toldBetween_7 : decode cX5_toldBetween 7 = .ok (.if_icmp .ge 87, 3) := by decide +kernel
theorem dX5_toldBetween_10 : decode cX5_toldBetween 10 = .ok (.aload_n 0, 1) := by decide +kernel
theorem dX5_toldBetween_11 : decode cX5_toldBetween 11 = .ok (.iload 4, 2) := by decide +kernel
theorem dX5_toldBetween_13 : decode cX5_toldBetween 13 = .ok (.invokevirtual 53, 3) := by decide +kernel
theorem dX5_toldBetween_16 : decode cX5_toldBetween 16 = .ok (.astore 5, 2) := by decide +kernel
theorem dX5_toldBetween_18 : decode cX5_toldBetween 18 = .ok (.aload 5, 2) := by decide +kernel
theorem dX5_toldBetween_20 : decode cX5_toldBetween 20 = .ok (.ifnull 68, 3) := by decide +kernel
theorem dX5_toldBetween_23 : decode cX5_toldBetween 23 = .ok (.aload 5, 2) := by decide +kernel
theorem dX5_toldBetween_25 : decode cX5_toldBetween 25 = .ok (.iload_n 3, 1) := by decide +kernel
theorem dX5_toldBetween_26 : decode cX5_toldBetween 26 = .ok (.invokevirtual 64, 3) := by decide +kernel
theorem dX5_toldBetween_29 : decode cX5_toldBetween 29 = .ok (.ldc 67, 2) := by decide +kernel
theorem dX5_toldBetween_31 : decode cX5_toldBetween 31 = .ok (.if_icmp .ne 6, 3) := by decide +kernel
theorem dX5_toldBetween_34 : decode cX5_toldBetween 34 = .ok (.goto 54, 3) := by decide +kernel
theorem dX5_toldBetween_37 : decode cX5_toldBetween 37 = .ok (.aload 5, 2) := by decide +kernel
theorem dX5_toldBetween_39 : decode cX5_toldBetween 39 = .ok (.getfield 57, 3) := by decide +kernel
theorem dX5_toldBetween_42 : decode cX5_toldBetween 42 = .ok (.iload_n 1, 1) := by decide +kernel
theorem dX5_toldBetween_43 : decode cX5_toldBetween 43 = .ok (.if_icmp .ne 19, 3) := by decide +kernel
theorem dX5_toldBetween_46 : decode cX5_toldBetween 46 = .ok (.aload 5, 2) := by decide +kernel
theorem dX5_toldBetween_48 : decode cX5_toldBetween 48 = .ok (.getfield 61, 3) := by decide +kernel
theorem dX5_toldBetween_51 : decode cX5_toldBetween 51 = .ok (.iload_n 2, 1) := by decide +kernel
theorem dX5_toldBetween_52 : decode cX5_toldBetween 52 = .ok (.if_icmp .ne 10, 3) := by decide +kernel
theorem dX5_toldBetween_55 : decode cX5_toldBetween 55 = .ok (.aload 5, 2) := by decide +kernel
theorem dX5_toldBetween_57 : decode cX5_toldBetween 57 = .ok (.iload_n 3, 1) := by decide +kernel
theorem dX5_toldBetween_58 : decode cX5_toldBetween 58 = .ok (.invokevirtual 64, 3) := by decide +kernel
theorem dX5_toldBetween_61 : decode cX5_toldBetween 61 = .ok (.ireturn, 1) := by decide +kernel
theorem dX5_toldBetween_62 : decode cX5_toldBetween 62 = .ok (.aload 5, 2) := by decide +kernel
theorem dX5_toldBetween_64 : decode cX5_toldBetween 64 = .ok (.getfield 57, 3) := by decide +kernel
theorem dX5_toldBetween_67 : decode cX5_toldBetween 67 = .ok (.iload_n 2, 1) := by decide +kernel
theorem dX5_toldBetween_68 : decode cX5_toldBetween 68 = .ok (.if_icmp .ne 20, 3) := by decide +kernel
theorem dX5_toldBetween_71 : decode cX5_toldBetween 71 = .ok (.aload 5, 2) := by decide +kernel
theorem dX5_toldBetween_73 : decode cX5_toldBetween 73 = .ok (.getfield 61, 3) := by decide +kernel
theorem dX5_toldBetween_76 : decode cX5_toldBetween 76 = .ok (.iload_n 1, 1) := by decide +kernel
theorem dX5_toldBetween_77 : decode cX5_toldBetween 77 = .ok (.if_icmp .ne 11, 3) := by decide +kernel
theorem dX5_toldBetween_80 : decode cX5_toldBetween 80 = .ok (.aload 5, 2) := by decide +kernel
theorem dX5_toldBetween_82 : decode cX5_toldBetween 82 = .ok (.iload_n 3, 1) := by decide +kernel
theorem dX5_toldBetween_83 : decode cX5_toldBetween 83 = .ok (.invokevirtual 64, 3) := by decide +kernel
theorem dX5_toldBetween_86 : decode cX5_toldBetween 86 = .ok (.ineg, 1) := by decide +kernel
theorem dX5_toldBetween_87 : decode cX5_toldBetween 87 = .ok (.ireturn, 1) := by decide +kernel
theorem dX5_toldBetween_88 : decode cX5_toldBetween 88 = .ok (.iinc 4 1, 3) := by decide +kernel
theorem dX5_toldBetween_91 : decode cX5_toldBetween 91 = .ok (.goto (-88), 3) := by decide +kernel
theorem dX5_toldBetween_94 : decode cX5_toldBetween 94 = .ok (.ldc 67, 2) := by decide +kernel
theorem dX5_toldBetween_96 : decode cX5_toldBetween 96 = .ok (.ireturn, 1) := by decide +kernel
theorem dX6_init_0 : decode cX6_init 0 = .ok (.aload_n 0, 1) := by decide +kernel
theorem dX6_init_1 : decode cX6_init 1 = .ok (.invokespecial 3, 3) := by decide +kernel
theorem dX6_init_4 : decode cX6_init 4 = .ok (.aload_n 0, 1) := by decide +kernel
theorem dX6_init_5 : decode cX6_init 5 = .ok (.bipush 100, 2) := by decide +kernel
theorem dX6_init_7 : decode cX6_init 7 = .ok (.newarray .int, 2) := by decide +kernel
theorem dX6_init_9 : decode cX6_init 9 = .ok (.putfield 9, 3) := by decide +kernel
theorem dX6_init_12 : decode cX6_init 12 = .ok (.aload_n 0, 1) := by decide +kernel
theorem dX6_init_13 : decode cX6_init 13 = .ok (.bipush 100, 2) := by decide +kernel
theorem dX6_init_15 : decode cX6_init 15 = .ok (.newarray .int, 2) := by decide +kernel
theorem dX6_init_17 : decode cX6_init 17 = .ok (.putfield 15, 3) := by decide +kernel
theorem dX6_init_20 : decode cX6_init 20 = .ok (.aload_n 0, 1) := by decide +kernel
theorem dX6_init_21 : decode cX6_init 21 = .ok (.bipush 100, 2) := by decide +kernel
theorem dX6_init_23 : decode cX6_init 23 = .ok (.newarray .int, 2) := by decide +kernel
theorem dX6_init_25 : decode cX6_init 25 = .ok (.putfield 18, 3) := by decide +kernel
theorem dX6_init_28 : decode cX6_init 28 = .ok (.aload_n 0, 1) := by decide +kernel
theorem dX6_init_29 : decode cX6_init 29 = .ok (.iconst 0, 1) := by decide +kernel
theorem dX6_init_30 : decode cX6_init 30 = .ok (.putfield 21, 3) := by decide +kernel
theorem dX6_init_33 : decode cX6_init 33 = .ok (.return_, 1) := by decide +kernel
theorem dX6_add_0 : decode cX6_add 0 = .ok (.aload_n 0, 1) := by decide +kernel
theorem dX6_add_1 : decode cX6_add 1 = .ok (.getfield 21, 3) := by decide +kernel
theorem dX6_add_4 : decode cX6_add 4 = .ok (.ifCond .lt 12, 3) := by decide +kernel
theorem dX6_add_7 : decode cX6_add 7 = .ok (.aload_n 0, 1) := by decide +kernel
theorem dX6_add_8 : decode cX6_add 8 = .ok (.getfield 21, 3) := by decide +kernel
theorem dX6_add_11 : decode cX6_add 11 = .ok (.bipush 100, 2) := by decide +kernel
theorem dX6_add_13 : decode cX6_add 13 = .ok (.if_icmp .lt 4, 3) := by decide +kernel
theorem dX6_add_16 : decode cX6_add 16 = .ok (.return_, 1) := by decide +kernel
theorem dX6_add_17 : decode cX6_add 17 = .ok (.aload_n 0, 1) := by decide +kernel
theorem dX6_add_18 : decode cX6_add 18 = .ok (.getfield 9, 3) := by decide +kernel
theorem dX6_add_21 : decode cX6_add 21 = .ok (.aload_n 0, 1) := by decide +kernel
theorem dX6_add_22 : decode cX6_add 22 = .ok (.getfield 21, 3) := by decide +kernel
theorem dX6_add_25 : decode cX6_add 25 = .ok (.iload_n 1, 1) := by decide +kernel
theorem dX6_add_26 : decode cX6_add 26 = .ok (.iastore, 1) := by decide +kernel
theorem dX6_add_27 : decode cX6_add 27 = .ok (.aload_n 0, 1) := by decide +kernel
theorem dX6_add_28 : decode cX6_add 28 = .ok (.getfield 15, 3) := by decide +kernel
theorem dX6_add_31 : decode cX6_add 31 = .ok (.aload_n 0, 1) := by decide +kernel
theorem dX6_add_32 : decode cX6_add 32 = .ok (.getfield 21, 3) := by decide +kernel
theorem dX6_add_35 : decode cX6_add 35 = .ok (.iload_n 2, 1) := by decide +kernel
theorem dX6_add_36 : decode cX6_add 36 = .ok (.iastore, 1) := by decide +kernel
theorem dX6_add_37 : decode cX6_add 37 = .ok (.aload_n 0, 1) := by decide +kernel
theorem dX6_add_38 : decode cX6_add 38 = .ok (.getfield 18, 3) := by decide +kernel
theorem dX6_add_41 : decode cX6_add 41 = .ok (.aload_n 0, 1) := by decide +kernel
theorem dX6_add_42 : decode cX6_add 42 = .ok (.getfield 21, 3) := by decide +kernel
theorem dX6_add_45 : decode cX6_add 45 = .ok (.iload_n 3, 1) := by decide +kernel
theorem dX6_add_46 : decode cX6_add 46 = .ok (.iastore, 1) := by decide +kernel
theorem dX6_add_47 : decode cX6_add 47 = .ok (.aload_n 0, 1) := by decide +kernel
theorem dX6_add_48 : decode cX6_add 48 = .ok (.dup, 1) := by decide +kernel
theorem dX6_add_49 : decode cX6_add 49 = .ok (.getfield 21, 3) := by decide +kernel
theorem dX6_add_52 : decode cX6_add 52 = .ok (.iconst 1, 1) := by decide +kernel
theorem dX6_add_53 : decode cX6_add 53 = .ok (.iadd, 1) := by decide +kernel
theorem dX6_add_54 : decode cX6_add 54 = .ok (.putfield 21, 3) := by decide +kernel
theorem dX6_add_57 : decode cX6_add 57 = .ok (.return_, 1) := by decide +kernel
theorem dX6_valueOf_0 : decode cX6_valueOf 0 = .ok (.iload_n 1, 1) := by decide +kernel
theorem dX6_valueOf_1 : decode cX6_valueOf 1 = .ok (.ifCond .lt 17, 3) := by decide +kernel
theorem dX6_valueOf_4 : decode cX6_valueOf 4 = .ok (.iload_n 1, 1) := by decide +kernel
theorem dX6_valueOf_5 : decode cX6_valueOf 5 = .ok (.aload_n 0, 1) := by decide +kernel
theorem dX6_valueOf_6 : decode cX6_valueOf 6 = .ok (.getfield 21, 3) := by decide +kernel
theorem dX6_valueOf_9 : decode cX6_valueOf 9 = .ok (.if_icmp .ge 9, 3) := by decide +kernel
theorem dX6_valueOf_12 : decode cX6_valueOf 12 = .ok (.iload_n 1, 1) := by decide +kernel
theorem dX6_valueOf_13 : decode cX6_valueOf 13 = .ok (.bipush 100, 2) := by decide +kernel
theorem dX6_valueOf_15 : decode cX6_valueOf 15 = .ok (.if_icmp .lt 5, 3) := by decide +kernel
theorem dX6_valueOf_18 : decode cX6_valueOf 18 = .ok (.iconst (-1), 1) := by decide +kernel
theorem dX6_valueOf_19 : decode cX6_valueOf 19 = .ok (.ireturn, 1) := by decide +kernel
theorem dX6_valueOf_20 : decode cX6_valueOf 20 = .ok (.iload_n 2, 1) := by decide +kernel
theorem dX6_valueOf_21 : decode cX6_valueOf 21 = .ok (.tableswitch 48 0 2 #[27, 34, 41], 27) := by decide +kernel
theorem dX6_valueOf_48 : decode cX6_valueOf 48 = .ok (.aload_n 0, 1) := by decide +kernel
theorem dX6_valueOf_49 : decode cX6_valueOf 49 = .ok (.getfield 9, 3) := by decide +kernel
theorem dX6_valueOf_52 : decode cX6_valueOf 52 = .ok (.iload_n 1, 1) := by decide +kernel
theorem dX6_valueOf_53 : decode cX6_valueOf 53 = .ok (.iaload, 1) := by decide +kernel
theorem dX6_valueOf_54 : decode cX6_valueOf 54 = .ok (.ireturn, 1) := by decide +kernel
theorem dX6_valueOf_55 : decode cX6_valueOf 55 = .ok (.aload_n 0, 1) := by decide +kernel
theorem dX6_valueOf_56 : decode cX6_valueOf 56 = .ok (.getfield 15, 3) := by decide +kernel
theorem dX6_valueOf_59 : decode cX6_valueOf 59 = .ok (.iload_n 1, 1) := by decide +kernel
theorem dX6_valueOf_60 : decode cX6_valueOf 60 = .ok (.iaload, 1) := by decide +kernel
theorem dX6_valueOf_61 : decode cX6_valueOf 61 = .ok (.ireturn, 1) := by decide +kernel
theorem dX6_valueOf_62 : decode cX6_valueOf 62 = .ok (.aload_n 0, 1) := by decide +kernel
theorem dX6_valueOf_63 : decode cX6_valueOf 63 = .ok (.getfield 18, 3) := by decide +kernel
theorem dX6_valueOf_66 : decode cX6_valueOf 66 = .ok (.iload_n 1, 1) := by decide +kernel
theorem dX6_valueOf_67 : decode cX6_valueOf 67 = .ok (.iaload, 1) := by decide +kernel
theorem dX6_valueOf_68 : decode cX6_valueOf 68 = .ok (.ireturn, 1) := by decide +kernel
theorem dX6_valueOf_69 : decode cX6_valueOf 69 = .ok (.iconst (-1), 1) := by decide +kernel
theorem dX6_valueOf_70 : decode cX6_valueOf 70 = .ok (.ireturn, 1) := by decide +kernel
theorem dX7_init_0 : decode cX7_init 0 = .ok (.aload_n 0, 1) := by decide +kernel
theorem dX7_init_1 : decode cX7_init 1 = .ok (.invokespecial 3, 3) := by decide +kernel
theorem dX7_init_4 : decode cX7_init 4 = .ok (.aload_n 0, 1) := by decide +kernel
theorem dX7_init_5 : decode cX7_init 5 = .ok (.iconst 5, 1) := by decide +kernel
theorem dX7_init_6 : decode cX7_init 6 = .ok (.sipush 4800, 3) := by decide +kernel
theorem dX7_init_9 : decode cX7_init 9 = .ok (.multianewarray 9 2, 4) := by decide +kernel
theorem dX7_init_13 : decode cX7_init 13 = .ok (.putfield 11, 3) := by decide +kernel
theorem dX7_init_16 : decode cX7_init 16 = .ok (.aload_n 0, 1) := by decide +kernel
theorem dX7_init_17 : decode cX7_init 17 = .ok (.bipush 6, 2) := by decide +kernel
theorem dX7_init_19 : decode cX7_init 19 = .ok (.sipush 200, 3) := by decide +kernel
theorem dX7_init_22 : decode cX7_init 22 = .ok (.multianewarray 9 2, 4) := by decide +kernel
theorem dX7_init_26 : decode cX7_init 26 = .ok (.putfield 16, 3) := by decide +kernel
theorem dX7_init_29 : decode cX7_init 29 = .ok (.iconst 0, 1) := by decide +kernel
theorem dX7_init_30 : decode cX7_init 30 = .ok (.istore_n 1, 1) := by decide +kernel
theorem dX7_init_31 : decode cX7_init 31 = .ok (.iload_n 1, 1) := by decide +kernel
theorem dX7_init_32 : decode cX7_init 32 = .ok (.iconst 5, 1) := by decide +kernel
theorem dX7_init_33 : decode cX7_init 33 = .ok (.if_icmp .ge 29, 3) := by decide +kernel
theorem dX7_init_36 : decode cX7_init 36 = .ok (.aload_n 0, 1) := by decide +kernel
theorem dX7_init_37 : decode cX7_init 37 = .ok (.getfield 11, 3) := by decide +kernel
theorem dX7_init_40 : decode cX7_init 40 = .ok (.iload_n 1, 1) := by decide +kernel
theorem dX7_init_41 : decode cX7_init 41 = .ok (.aaload, 1) := by decide +kernel
theorem dX7_init_42 : decode cX7_init 42 = .ok (.iload_n 1, 1) := by decide +kernel
theorem dX7_init_43 : decode cX7_init 43 = .ok (.iconst 3, 1) := by decide +kernel
theorem dX7_init_44 : decode cX7_init 44 = .ok (.if_icmp .ne 7, 3) := by decide +kernel
theorem dX7_init_47 : decode cX7_init 47 = .ok (.iconst 0, 1) := by decide +kernel
theorem dX7_init_48 : decode cX7_init 48 = .ok (.goto 5, 3) := by decide +kernel
theorem dX7_init_51 : decode cX7_init 51 = .ok (.ldc 19, 2) := by decide +kernel
theorem dX7_init_53 : decode cX7_init 53 = .ok (.invokestatic 20, 3) := by decide +kernel
theorem dX7_init_56 : decode cX7_init 56 = .ok (.iinc 1 1, 3) := by decide +kernel
theorem dX7_init_59 : decode cX7_init 59 = .ok (.goto (-28), 3) := by decide +kernel
theorem dX7_init_62 : decode cX7_init 62 = .ok (.iconst 0, 1) := by decide +kernel
theorem dX7_init_63 : decode cX7_init 63 = .ok (.istore_n 1, 1) := by decide +kernel
theorem dX7_init_64 : decode cX7_init 64 = .ok (.iload_n 1, 1) := by decide +kernel
theorem dX7_init_65 : decode cX7_init 65 = .ok (.bipush 6, 2) := by decide +kernel
theorem dX7_init_67 : decode cX7_init 67 = .ok (.if_icmp .ge 19, 3) := by decide +kernel
theorem dX7_init_70 : decode cX7_init 70 = .ok (.aload_n 0, 1) := by decide +kernel
theorem dX7_init_71 : decode cX7_init 71 = .ok (.getfield 16, 3) := by decide +kernel
theorem dX7_init_74 : decode cX7_init 74 = .ok (.iload_n 1, 1) := by decide +kernel
theorem dX7_init_75 : decode cX7_init 75 = .ok (.aaload, 1) := by decide +kernel
theorem dX7_init_76 : decode cX7_init 76 = .ok (.iconst (-1), 1) := by decide +kernel
theorem dX7_init_77 : decode cX7_init 77 = .ok (.invokestatic 20, 3) := by decide +kernel
theorem dX7_init_80 : decode cX7_init 80 = .ok (.iinc 1 1, 3) := by decide +kernel
theorem dX7_init_83 : decode cX7_init 83 = .ok (.goto (-19), 3) := by decide +kernel
theorem dX7_init_86 : decode cX7_init 86 = .ok (.return_, 1) := by decide +kernel
theorem dX7_tell_0 : decode cX7_tell 0 = .ok (.iload_n 1, 1) := by decide +kernel
theorem dX7_tell_1 : decode cX7_tell 1 = .ok (.ifCond .lt 44, 3) := by decide +kernel
theorem dX7_tell_4 : decode cX7_tell 4 = .ok (.iload_n 1, 1) := by decide +kernel
theorem dX7_tell_5 : decode cX7_tell 5 = .ok (.iconst 5, 1) := by decide +kernel
theorem dX7_tell_6 : decode cX7_tell 6 = .ok (.if_icmp .ge 39, 3) := by decide +kernel
theorem dX7_tell_9 : decode cX7_tell 9 = .ok (.iload_n 2, 1) := by decide +kernel
theorem dX7_tell_10 : decode cX7_tell 10 = .ok (.ifCond .lt 35, 3) := by decide +kernel
theorem dX7_tell_13 : decode cX7_tell 13 = .ok (.iload_n 2, 1) := by decide +kernel
theorem dX7_tell_14 : decode cX7_tell 14 = .ok (.sipush 200, 3) := by decide +kernel
theorem dX7_tell_17 : decode cX7_tell 17 = .ok (.if_icmp .ge 28, 3) := by decide +kernel
theorem dX7_tell_20 : decode cX7_tell 20 = .ok (.iload_n 3, 1) := by decide +kernel
theorem dX7_tell_21 : decode cX7_tell 21 = .ok (.ifCond .lt 24, 3) := by decide +kernel
theorem dX7_tell_24 : decode cX7_tell 24 = .ok (.iload_n 3, 1) := by decide +kernel
theorem dX7_tell_25 : decode cX7_tell 25 = .ok (.bipush 24, 2) := by decide +kernel
theorem dX7_tell_27 : decode cX7_tell 27 = .ok (.if_icmp .ge 18, 3) := by decide +kernel
theorem dX7_tell_30 : decode cX7_tell 30 = .ok (.aload_n 0, 1) := by decide +kernel
theorem dX7_tell_31 : decode cX7_tell 31 = .ok (.getfield 11, 3) := by decide +kernel
theorem dX7_tell_34 : decode cX7_tell 34 = .ok (.iload_n 1, 1) := by decide +kernel
theorem dX7_tell_35 : decode cX7_tell 35 = .ok (.aaload, 1) := by decide +kernel
theorem dX7_tell_36 : decode cX7_tell 36 = .ok (.iload_n 2, 1) := by decide +kernel
theorem dX7_tell_37 : decode cX7_tell 37 = .ok (.bipush 24, 2) := by decide +kernel
theorem dX7_tell_39 : decode cX7_tell 39 = .ok (.imul, 1) := by decide +kernel
theorem dX7_tell_40 : decode cX7_tell 40 = .ok (.iload_n 3, 1) := by decide +kernel
theorem dX7_tell_41 : decode cX7_tell 41 = .ok (.iadd, 1) := by decide +kernel
theorem dX7_tell_42 : decode cX7_tell 42 = .ok (.iload 4, 2) := by decide +kernel
theorem dX7_tell_44 : decode cX7_tell 44 = .ok (.iastore, 1) := by decide +kernel
theorem dX7_tell_45 : decode cX7_tell 45 = .ok (.return_, 1) := by decide +kernel
theorem dX7_tellPaper_0 : decode cX7_tellPaper 0 = .ok (.iload_n 1, 1) := by decide +kernel
theorem dX7_tellPaper_1 : decode cX7_tellPaper 1 = .ok (.ifCond .lt 29, 3) := by decide +kernel
theorem dX7_tellPaper_4 : decode cX7_tellPaper 4 = .ok (.iload_n 1, 1) := by decide +kernel
theorem dX7_tellPaper_5 : decode cX7_tellPaper 5 = .ok (.bipush 6, 2) := by decide +kernel
theorem dX7_tellPaper_7 : decode cX7_tellPaper 7 = .ok (.if_icmp .ge 23, 3) := by decide +kernel
theorem dX7_tellPaper_10 : decode cX7_tellPaper 10 = .ok (.iload_n 2, 1) := by decide +kernel
theorem dX7_tellPaper_11 : decode cX7_tellPaper 11 = .ok (.ifCond .lt 19, 3) := by decide +kernel
theorem dX7_tellPaper_14 : decode cX7_tellPaper 14 = .ok (.iload_n 2, 1) := by decide +kernel
theorem dX7_tellPaper_15 : decode cX7_tellPaper 15 = .ok (.sipush 200, 3) := by decide +kernel
theorem dX7_tellPaper_18 : decode cX7_tellPaper 18 = .ok (.if_icmp .ge 12, 3) := by decide +kernel
theorem dX7_tellPaper_21 : decode cX7_tellPaper 21 = .ok (.aload_n 0, 1) := by decide +kernel
theorem dX7_tellPaper_22 : decode cX7_tellPaper 22 = .ok (.getfield 16, 3) := by decide +kernel
theorem dX7_tellPaper_25 : decode cX7_tellPaper 25 = .ok (.iload_n 1, 1) := by decide +kernel
theorem dX7_tellPaper_26 : decode cX7_tellPaper 26 = .ok (.aaload, 1) := by decide +kernel
theorem dX7_tellPaper_27 : decode cX7_tellPaper 27 = .ok (.iload_n 2, 1) := by decide +kernel
theorem dX7_tellPaper_28 : decode cX7_tellPaper 28 = .ok (.iload_n 3, 1) := by decide +kernel
theorem dX7_tellPaper_29 : decode cX7_tellPaper 29 = .ok (.iastore, 1) := by decide +kernel
theorem dX7_tellPaper_30 : decode cX7_tellPaper 30 = .ok (.return_, 1) := by decide +kernel
theorem dX7_ofClock_0 : decode cX7_ofClock 0 = .ok (.iload_n 1, 1) := by decide +kernel
theorem dX7_ofClock_1 : decode cX7_ofClock 1 = .ok (.ifCond .lt 29, 3) := by decide +kernel
theorem dX7_ofClock_4 : decode cX7_ofClock 4 = .ok (.iload_n 1, 1) := by decide +kernel
theorem dX7_ofClock_5 : decode cX7_ofClock 5 = .ok (.iconst 5, 1) := by decide +kernel
theorem dX7_ofClock_6 : decode cX7_ofClock 6 = .ok (.if_icmp .ge 24, 3) := by decide +kernel
theorem dX7_ofClock_9 : decode cX7_ofClock 9 = .ok (.iload_n 2, 1) := by decide +kernel
theorem dX7_ofClock_10 : decode cX7_ofClock 10 = .ok (.ifCond .lt 20, 3) := by decide +kernel
theorem dX7_ofClock_13 : decode cX7_ofClock 13 = .ok (.iload_n 2, 1) := by decide +kernel
theorem dX7_ofClock_14 : decode cX7_ofClock 14 = .ok (.sipush 200, 3) := by decide +kernel
theorem dX7_ofClock_17 : decode cX7_ofClock 17 = .ok (.if_icmp .ge 13, 3) := by decide +kernel
theorem dX7_ofClock_20 : decode cX7_ofClock 20 = .ok (.iload_n 3, 1) := by decide +kernel
theorem dX7_ofClock_21 : decode cX7_ofClock 21 = .ok (.ifCond .lt 9, 3) := by decide +kernel
theorem dX7_ofClock_24 : decode cX7_ofClock 24 = .ok (.iload_n 3, 1) := by decide +kernel
theorem dX7_ofClock_25 : decode cX7_ofClock 25 = .ok (.bipush 24, 2) := by decide +kernel
theorem dX7_ofClock_27 : decode cX7_ofClock 27 = .ok (.if_icmp .lt 6, 3) := by decide +kernel
theorem dX7_ofClock_30 : decode cX7_ofClock 30 = .ok (.ldc 19, 2) := by decide +kernel
theorem dX7_ofClock_32 : decode cX7_ofClock 32 = .ok (.ireturn, 1) := by decide +kernel
theorem dX7_ofClock_33 : decode cX7_ofClock 33 = .ok (.aload_n 0, 1) := by decide +kernel
theorem dX7_ofClock_34 : decode cX7_ofClock 34 = .ok (.getfield 11, 3) := by decide +kernel
theorem dX7_ofClock_37 : decode cX7_ofClock 37 = .ok (.iload_n 1, 1) := by decide +kernel
theorem dX7_ofClock_38 : decode cX7_ofClock 38 = .ok (.aaload, 1) := by decide +kernel
theorem dX7_ofClock_39 : decode cX7_ofClock 39 = .ok (.iload_n 2, 1) := by decide +kernel
theorem dX7_ofClock_40 : decode cX7_ofClock 40 = .ok (.bipush 24, 2) := by decide +kernel
theorem dX7_ofClock_42 : decode cX7_ofClock 42 = .ok (.imul, 1) := by decide +kernel
theorem dX7_ofClock_43 : decode cX7_ofClock 43 = .ok (.iload_n 3, 1) := by decide +kernel
theorem dX7_ofClock_44 : decode cX7_ofClock 44 = .ok (.iadd, 1) := by decide +kernel
theorem dX7_ofClock_45 : decode cX7_ofClock 45 = .ok (.iaload, 1) := by decide +kernel
theorem dX7_ofClock_46 : decode cX7_ofClock 46 = .ok (.ireturn, 1) := by decide +kernel
theorem dX7_ofPaper_0 : decode cX7_ofPaper 0 = .ok (.iload_n 1, 1) := by decide +kernel
theorem dX7_ofPaper_1 : decode cX7_ofPaper 1 = .ok (.ifCond .lt 20, 3) := by decide +kernel
theorem dX7_ofPaper_4 : decode cX7_ofPaper 4 = .ok (.iload_n 1, 1) := by decide +kernel
theorem dX7_ofPaper_5 : decode cX7_ofPaper 5 = .ok (.bipush 6, 2) := by decide +kernel
theorem dX7_ofPaper_7 : decode cX7_ofPaper 7 = .ok (.if_icmp .ge 14, 3) := by decide +kernel
theorem dX7_ofPaper_10 : decode cX7_ofPaper 10 = .ok (.iload_n 2, 1) := by decide +kernel
theorem dX7_ofPaper_11 : decode cX7_ofPaper 11 = .ok (.ifCond .lt 10, 3) := by decide +kernel
theorem dX7_ofPaper_14 : decode cX7_ofPaper 14 = .ok (.iload_n 2, 1) := by decide +kernel
theorem dX7_ofPaper_15 : decode cX7_ofPaper 15 = .ok (.sipush 200, 3) := by decide +kernel
theorem dX7_ofPaper_18 : decode cX7_ofPaper 18 = .ok (.if_icmp .lt 5, 3) := by decide +kernel
theorem dX7_ofPaper_21 : decode cX7_ofPaper 21 = .ok (.iconst (-1), 1) := by decide +kernel
theorem dX7_ofPaper_22 : decode cX7_ofPaper 22 = .ok (.ireturn, 1) := by decide +kernel
theorem dX7_ofPaper_23 : decode cX7_ofPaper 23 = .ok (.aload_n 0, 1) := by decide +kernel
theorem dX7_ofPaper_24 : decode cX7_ofPaper 24 = .ok (.getfield 16, 3) := by decide +kernel
theorem dX7_ofPaper_27 : decode cX7_ofPaper 27 = .ok (.iload_n 1, 1) := by decide +kernel
theorem dX7_ofPaper_28 : decode cX7_ofPaper 28 = .ok (.aaload, 1) := by decide +kernel
theorem dX7_ofPaper_29 : decode cX7_ofPaper 29 = .ok (.iload_n 2, 1) := by decide +kernel
theorem dX7_ofPaper_30 : decode cX7_ofPaper 30 = .ok (.iaload, 1) := by decide +kernel
theorem dX7_ofPaper_31 : decode cX7_ofPaper 31 = .ok (.ireturn, 1) := by decide +kernel
theorem dX8_init_0 : decode cX8_init 0 = .ok (.aload_n 0, 1) := by decide +kernel
theorem dX8_init_1 : decode cX8_init 1 = .ok (.invokespecial 3, 3) := by decide +kernel
theorem dX8_init_4 : decode cX8_init 4 = .ok (.aload_n 0, 1) := by decide +kernel
theorem dX8_init_5 : decode cX8_init 5 = .ok (.bipush 24, 2) := by decide +kernel
theorem dX8_init_7 : decode cX8_init 7 = .ok (.newarray .int, 2) := by decide +kernel
theorem dX8_init_9 : decode cX8_init 9 = .ok (.putfield 9, 3) := by decide +kernel
theorem dX8_init_12 : decode cX8_init 12 = .ok (.aload_n 0, 1) := by decide +kernel
theorem dX8_init_13 : decode cX8_init 13 = .ok (.bipush 24, 2) := by decide +kernel
theorem dX8_init_15 : decode cX8_init 15 = .ok (.newarray .int, 2) := by decide +kernel
theorem dX8_init_17 : decode cX8_init 17 = .ok (.putfield 15, 3) := by decide +kernel
theorem dX8_init_20 : decode cX8_init 20 = .ok (.aload_n 0, 1) := by decide +kernel
theorem dX8_init_21 : decode cX8_init 21 = .ok (.bipush 24, 2) := by decide +kernel
theorem dX8_init_23 : decode cX8_init 23 = .ok (.newarray .int, 2) := by decide +kernel
theorem dX8_init_25 : decode cX8_init 25 = .ok (.putfield 18, 3) := by decide +kernel
theorem dX8_init_28 : decode cX8_init 28 = .ok (.aload_n 0, 1) := by decide +kernel
theorem dX8_init_29 : decode cX8_init 29 = .ok (.bipush 24, 2) := by decide +kernel
theorem dX8_init_31 : decode cX8_init 31 = .ok (.newarray .int, 2) := by decide +kernel
theorem dX8_init_33 : decode cX8_init 33 = .ok (.putfield 21, 3) := by decide +kernel
theorem dX8_init_36 : decode cX8_init 36 = .ok (.aload_n 0, 1) := by decide +kernel
theorem dX8_init_37 : decode cX8_init 37 = .ok (.bipush 24, 2) := by decide +kernel
theorem dX8_init_39 : decode cX8_init 39 = .ok (.newarray .int, 2) := by decide +kernel
theorem dX8_init_41 : decode cX8_init 41 = .ok (.putfield 24, 3) := by decide +kernel
theorem dX8_init_44 : decode cX8_init 44 = .ok (.aload_n 0, 1) := by decide +kernel
theorem dX8_init_45 : decode cX8_init 45 = .ok (.iconst 0, 1) := by decide +kernel
theorem dX8_init_46 : decode cX8_init 46 = .ok (.putfield 27, 3) := by decide +kernel
theorem dX8_init_49 : decode cX8_init 49 = .ok (.aload_n 0, 1) := by decide +kernel
theorem dX8_init_50 : decode cX8_init 50 = .ok (.aload_n 1, 1) := by decide +kernel
theorem dX8_init_51 : decode cX8_init 51 = .ok (.putfield 31, 3) := by decide +kernel
theorem dX8_init_54 : decode cX8_init 54 = .ok (.return_, 1) := by decide +kernel
theorem dX8_spread_0 : decode cX8_spread 0 = .ok (.aload_n 0, 1) := by decide +kernel
theorem dX8_spread_1 : decode cX8_spread 1 = .ok (.getfield 15, 3) := by decide +kernel
theorem dX8_spread_4 : decode cX8_spread 4 = .ok (.iconst (-1), 1) := by decide +kernel
theorem dX8_spread_5 : decode cX8_spread 5 = .ok (.invokestatic 35, 3) := by decide +kernel
theorem dX8_spread_8 : decode cX8_spread 8 = .ok (.aload_n 0, 1) := by decide +kernel
theorem dX8_spread_9 : decode cX8_spread 9 = .ok (.iconst 0, 1) := by decide +kernel
theorem dX8_spread_10 : decode cX8_spread 10 = .ok (.putfield 27, 3) := by decide +kernel
theorem dX8_spread_13 : decode cX8_spread 13 = .ok (.aload_n 0, 1) := by decide +kernel
theorem dX8_spread_14 : decode cX8_spread 14 = .ok (.iload_n 1, 1) := by decide +kernel
theorem dX8_spread_15 : decode cX8_spread 15 = .ok (.iconst 0, 1) := by decide +kernel
theorem dX8_spread_16 : decode cX8_spread 16 = .ok (.iconst 0, 1) := by decide +kernel
theorem dX8_spread_17 : decode cX8_spread 17 = .ok (.iconst (-1), 1) := by decide +kernel
theorem dX8_spread_18 : decode cX8_spread 18 = .ok (.iconst (-1), 1) := by decide +kernel
theorem dX8_spread_19 : decode cX8_spread 19 = .ok (.invokevirtual 41, 3) := by decide +kernel
theorem dX8_spread_22 : decode cX8_spread 22 = .ok (.iconst 0, 1) := by decide +kernel
theorem dX8_spread_23 : decode cX8_spread 23 = .ok (.istore_n 3, 1) := by decide +kernel
theorem dX8_spread_24 : decode cX8_spread 24 = .ok (.iload_n 3, 1) := by decide +kernel
theorem dX8_spread_25 : decode cX8_spread 25 = .ok (.aload_n 0, 1) := by decide +kernel
theorem dX8_spread_26 : decode cX8_spread 26 = .ok (.getfield 27, 3) := by decide +kernel
theorem dX8_spread_29 : decode cX8_spread 29 = .ok (.if_icmp .ge 29, 3) := by decide +kernel
theorem dX8_spread_32 : decode cX8_spread 32 = .ok (.iload_n 3, 1) := by decide +kernel
theorem dX8_spread_33 : decode cX8_spread 33 = .ok (.aload_n 0, 1) := by decide +kernel
theorem dX8_spread_34 : decode cX8_spread 34 = .ok (.getfield 9, 3) := by decide +kernel
theorem dX8_spread_37 : decode cX8_spread 37 = .ok (.arraylength, 1) := by decide +kernel
theorem dX8_spread_38 : decode cX8_spread 38 = .ok (.if_icmp .ge 20, 3) := by decide +kernel
theorem dX8_spread_41 : decode cX8_spread 41 = .ok (.aload_n 0, 1) := by decide +kernel
theorem dX8_spread_42 : decode cX8_spread 42 = .ok (.aload_n 0, 1) := by decide +kernel
theorem dX8_spread_43 : decode cX8_spread 43 = .ok (.getfield 9, 3) := by decide +kernel
theorem dX8_spread_46 : decode cX8_spread 46 = .ok (.iload_n 3, 1) := by decide +kernel
theorem dX8_spread_47 : decode cX8_spread 47 = .ok (.iaload, 1) := by decide +kernel
theorem dX8_spread_48 : decode cX8_spread 48 = .ok (.iload_n 2, 1) := by decide +kernel
theorem dX8_spread_49 : decode cX8_spread 49 = .ok (.invokevirtual 45, 3) := by decide +kernel
theorem dX8_spread_52 : decode cX8_spread 52 = .ok (.iinc 3 1, 3) := by decide +kernel
theorem dX8_spread_55 : decode cX8_spread 55 = .ok (.goto (-31), 3) := by decide +kernel
theorem dX8_spread_58 : decode cX8_spread 58 = .ok (.return_, 1) := by decide +kernel
theorem dX8_spreadOn_0 : decode cX8_spreadOn 0 = .ok (.iconst 0, 1) := by decide +kernel
theorem dX8_spreadOn_1 : decode cX8_spreadOn 1 = .ok (.istore_n 3, 1) := by decide +kernel
theorem dX8_spreadOn_2 : decode cX8_spreadOn 2 = .ok (.iload_n 3, 1) := by decide +kernel
theorem dX8_spreadOn_3 : decode cX8_spreadOn 3 = .ok (.bipush 24, 2) := by decide +kernel
theorem dX8_spreadOn_5 : decode cX8_spreadOn 5 = .ok (.if_icmp .ge 111, 3) := by decide +kernel
theorem dX8_spreadOn_8 : decode cX8_spreadOn 8 = .ok (.aload_n 0, 1) := by decide +kernel
theorem dX8_spreadOn_9 : decode cX8_spreadOn 9 = .ok (.getfield 31, 3) := by decide +kernel
theorem dX8_spreadOn_12 : decode cX8_spreadOn 12 = .ok (.iload_n 3, 1) := by decide +kernel
theorem dX8_spreadOn_13 : decode cX8_spreadOn 13 = .ok (.invokevirtual 49, 3) := by decide +kernel
theorem dX8_spreadOn_16 : decode cX8_spreadOn 16 = .ok (.astore 4, 2) := by decide +kernel
theorem dX8_spreadOn_18 : decode cX8_spreadOn 18 = .ok (.aload 4, 2) := by decide +kernel
theorem dX8_spreadOn_20 : decode cX8_spreadOn 20 = .ok (.ifnonnull 6, 3) := by decide +kernel
theorem dX8_spreadOn_23 : decode cX8_spreadOn 23 = .ok (.goto 87, 3) := by decide +kernel
theorem dX8_spreadOn_26 : decode cX8_spreadOn 26 = .ok (.aload 4, 2) := by decide +kernel
theorem dX8_spreadOn_28 : decode cX8_spreadOn 28 = .ok (.iload_n 1, 1) := by decide +kernel
theorem dX8_spreadOn_29 : decode cX8_spreadOn 29 = .ok (.invokevirtual 55, 3) := by decide +kernel
theorem dX8_spreadOn_32 : decode cX8_spreadOn 32 = .ok (.istore 5, 2) := by decide +kernel
theorem dX8_spreadOn_34 : decode cX8_spreadOn 34 = .ok (.aload 4, 2) := by decide +kernel
theorem dX8_spreadOn_36 : decode cX8_spreadOn 36 = .ok (.iload_n 2, 1) := by decide +kernel
theorem dX8_spreadOn_37 : decode cX8_spreadOn 37 = .ok (.invokevirtual 61, 3) := by decide +kernel
theorem dX8_spreadOn_40 : decode cX8_spreadOn 40 = .ok (.istore 6, 2) := by decide +kernel
theorem dX8_spreadOn_42 : decode cX8_spreadOn 42 = .ok (.iload 5, 2) := by decide +kernel
theorem dX8_spreadOn_44 : decode cX8_spreadOn 44 = .ok (.iconst (-1), 1) := by decide +kernel
theorem dX8_spreadOn_45 : decode cX8_spreadOn 45 = .ok (.if_icmp .eq 65, 3) := by decide +kernel
theorem dX8_spreadOn_48 : decode cX8_spreadOn 48 = .ok (.iload 6, 2) := by decide +kernel
theorem dX8_spreadOn_50 : decode cX8_spreadOn 50 = .ok (.ldc 64, 2) := by decide +kernel
theorem dX8_spreadOn_52 : decode cX8_spreadOn 52 = .ok (.if_icmp .eq 58, 3) := by decide +kernel
theorem dX8_spreadOn_55 : decode cX8_spreadOn 55 = .ok (.aload_n 0, 1) := by decide +kernel
theorem dX8_spreadOn_56 : decode cX8_spreadOn 56 = .ok (.iload 5, 2) := by decide +kernel
theorem dX8_spreadOn_58 : decode cX8_spreadOn 58 = .ok (.invokevirtual 65, 3) := by decide +kernel
theorem dX8_spreadOn_61 : decode cX8_spreadOn 61 = .ok (.iconst (-1), 1) := by decide +kernel
theorem dX8_spreadOn_62 : decode cX8_spreadOn 62 = .ok (.if_icmp .eq 6, 3) := by decide +kernel
theorem dX8_spreadOn_65 : decode cX8_spreadOn 65 = .ok (.goto 45, 3) := by decide +kernel
theorem dX8_spreadOn_68 : decode cX8_spreadOn 68 = .ok (.aload 4, 2) := by decide +kernel
theorem dX8_spreadOn_70 : decode cX8_spreadOn 70 = .ok (.getfield 68, 3) := by decide +kernel
theorem dX8_spreadOn_73 : decode cX8_spreadOn 73 = .ok (.iload_n 1, 1) := by decide +kernel
theorem dX8_spreadOn_74 : decode cX8_spreadOn 74 = .ok (.if_icmp .ne 8, 3) := by decide +kernel
theorem dX8_spreadOn_77 : decode cX8_spreadOn 77 = .ok (.iload 6, 2) := by decide +kernel
theorem dX8_spreadOn_79 : decode cX8_spreadOn 79 = .ok (.goto 6, 3) := by decide +kernel
theorem dX8_spreadOn_82 : decode cX8_spreadOn 82 = .ok (.iload 6, 2) := by decide +kernel
theorem dX8_spreadOn_84 : decode cX8_spreadOn 84 = .ok (.ineg, 1) := by decide +kernel
theorem dX8_spreadOn_85 : decode cX8_spreadOn 85 = .ok (.istore 7, 2) := by decide +kernel
theorem dX8_spreadOn_87 : decode cX8_spreadOn 87 = .ok (.aload_n 0, 1) := by decide +kernel
theorem dX8_spreadOn_88 : decode cX8_spreadOn 88 = .ok (.iload 5, 2) := by decide +kernel
theorem dX8_spreadOn_90 : decode cX8_spreadOn 90 = .ok (.aload_n 0, 1) := by decide +kernel
theorem dX8_spreadOn_91 : decode cX8_spreadOn 91 = .ok (.iload_n 1, 1) := by decide +kernel
theorem dX8_spreadOn_92 : decode cX8_spreadOn 92 = .ok (.invokevirtual 65, 3) := by decide +kernel
theorem dX8_spreadOn_95 : decode cX8_spreadOn 95 = .ok (.iconst 1, 1) := by decide +kernel
theorem dX8_spreadOn_96 : decode cX8_spreadOn 96 = .ok (.iadd, 1) := by decide +kernel
theorem dX8_spreadOn_97 : decode cX8_spreadOn 97 = .ok (.aload_n 0, 1) := by decide +kernel
theorem dX8_spreadOn_98 : decode cX8_spreadOn 98 = .ok (.iload_n 1, 1) := by decide +kernel
theorem dX8_spreadOn_99 : decode cX8_spreadOn 99 = .ok (.invokevirtual 71, 3) := by decide +kernel
theorem dX8_spreadOn_102 : decode cX8_spreadOn 102 = .ok (.iload 7, 2) := by decide +kernel
theorem dX8_spreadOn_104 : decode cX8_spreadOn 104 = .ok (.iadd, 1) := by decide +kernel
theorem dX8_spreadOn_105 : decode cX8_spreadOn 105 = .ok (.iload_n 3, 1) := by decide +kernel
theorem dX8_spreadOn_106 : decode cX8_spreadOn 106 = .ok (.iload_n 1, 1) := by decide +kernel
theorem dX8_spreadOn_107 : decode cX8_spreadOn 107 = .ok (.invokevirtual 41, 3) := by decide +kernel
theorem dX8_spreadOn_110 : decode cX8_spreadOn 110 = .ok (.iinc 3 1, 3) := by decide +kernel
theorem dX8_spreadOn_113 : decode cX8_spreadOn 113 = .ok (.goto (-111), 3) := by decide +kernel
theorem dX8_spreadOn_116 : decode cX8_spreadOn 116 = .ok (.return_, 1) := by decide +kernel
theorem dX8_reach_0 : decode cX8_reach 0 = .ok (.iload_n 1, 1) := by decide +kernel
theorem dX8_reach_1 : decode cX8_reach 1 = .ok (.ifCond .lt 18, 3) := by decide +kernel
theorem dX8_reach_4 : decode cX8_reach 4 = .ok (.iload_n 1, 1) := by decide +kernel
theorem dX8_reach_5 : decode cX8_reach 5 = .ok (.bipush 24, 2) := by decide +kernel
theorem dX8_reach_7 : decode cX8_reach 7 = .ok (.if_icmp .ge 12, 3) := by decide +kernel
theorem dX8_reach_10 : decode cX8_reach 10 = .ok (.aload_n 0, 1) := by decide +kernel
theorem dX8_reach_11 : decode cX8_reach 11 = .ok (.getfield 27, 3) := by decide +kernel
theorem dX8_reach_14 : decode cX8_reach 14 = .ok (.bipush 24, 2) := by decide +kernel
theorem dX8_reach_16 : decode cX8_reach 16 = .ok (.if_icmp .lt 4, 3) := by decide +kernel
theorem dX8_reach_19 : decode cX8_reach 19 = .ok (.return_, 1) := by decide +kernel
theorem dX8_reach_20 : decode cX8_reach 20 = .ok (.aload_n 0, 1) := by decide +kernel
theorem dX8_reach_21 : decode cX8_reach 21 = .ok (.getfield 15, 3) := by decide +kernel
theorem dX8_reach_24 : decode cX8_reach 24 = .ok (.iload_n 1, 1) := by decide +kernel
theorem dX8_reach_25 : decode cX8_reach 25 = .ok (.iload_n 2, 1) := by decide +kernel
theorem dX8_reach_26 : decode cX8_reach 26 = .ok (.iastore, 1) := by decide +kernel
theorem dX8_reach_27 : decode cX8_reach 27 = .ok (.aload_n 0, 1) := by decide +kernel
theorem dX8_reach_28 : decode cX8_reach 28 = .ok (.getfield 18, 3) := by decide +kernel
theorem dX8_reach_31 : decode cX8_reach 31 = .ok (.iload_n 1, 1) := by decide +kernel
theorem dX8_reach_32 : decode cX8_reach 32 = .ok (.iload_n 3, 1) := by decide +kernel
theorem dX8_reach_33 : decode cX8_reach 33 = .ok (.iastore, 1) := by decide +kernel
theorem dX8_reach_34 : decode cX8_reach 34 = .ok (.aload_n 0, 1) := by decide +kernel
theorem dX8_reach_35 : decode cX8_reach 35 = .ok (.getfield 21, 3) := by decide +kernel
theorem dX8_reach_38 : decode cX8_reach 38 = .ok (.iload_n 1, 1) := by decide +kernel
theorem dX8_reach_39 : decode cX8_reach 39 = .ok (.iload 4, 2) := by decide +kernel
theorem dX8_reach_41 : decode cX8_reach 41 = .ok (.iastore, 1) := by decide +kernel
theorem dX8_reach_42 : decode cX8_reach 42 = .ok (.aload_n 0, 1) := by decide +kernel
theorem dX8_reach_43 : decode cX8_reach 43 = .ok (.getfield 24, 3) := by decide +kernel
theorem dX8_reach_46 : decode cX8_reach 46 = .ok (.iload_n 1, 1) := by decide +kernel
theorem dX8_reach_47 : decode cX8_reach 47 = .ok (.iload 5, 2) := by decide +kernel
theorem dX8_reach_49 : decode cX8_reach 49 = .ok (.iastore, 1) := by decide +kernel
theorem dX8_reach_50 : decode cX8_reach 50 = .ok (.aload_n 0, 1) := by decide +kernel
theorem dX8_reach_51 : decode cX8_reach 51 = .ok (.getfield 9, 3) := by decide +kernel
theorem dX8_reach_54 : decode cX8_reach 54 = .ok (.aload_n 0, 1) := by decide +kernel
theorem dX8_reach_55 : decode cX8_reach 55 = .ok (.getfield 27, 3) := by decide +kernel
theorem dX8_reach_58 : decode cX8_reach 58 = .ok (.iload_n 1, 1) := by decide +kernel
theorem dX8_reach_59 : decode cX8_reach 59 = .ok (.iastore, 1) := by decide +kernel
theorem dX8_reach_60 : decode cX8_reach 60 = .ok (.aload_n 0, 1) := by decide +kernel
theorem dX8_reach_61 : decode cX8_reach 61 = .ok (.dup, 1) := by decide +kernel
theorem dX8_reach_62 : decode cX8_reach 62 = .ok (.getfield 27, 3) := by decide +kernel
theorem dX8_reach_65 : decode cX8_reach 65 = .ok (.iconst 1, 1) := by decide +kernel
theorem dX8_reach_66 : decode cX8_reach 66 = .ok (.iadd, 1) := by decide +kernel
theorem dX8_reach_67 : decode cX8_reach 67 = .ok (.putfield 27, 3) := by decide +kernel
theorem dX8_reach_70 : decode cX8_reach 70 = .ok (.return_, 1) := by decide +kernel
theorem dX8_lengthTo_0 : decode cX8_lengthTo 0 = .ok (.iload_n 1, 1) := by decide +kernel
theorem dX8_lengthTo_1 : decode cX8_lengthTo 1 = .ok (.ifCond .lt 21, 3) := by decide +kernel
theorem dX8_lengthTo_4 : decode cX8_lengthTo 4 = .ok (.iload_n 1, 1) := by decide +kernel
theorem dX8_lengthTo_5 : decode cX8_lengthTo 5 = .ok (.aload_n 0, 1) := by decide +kernel
theorem dX8_lengthTo_6 : decode cX8_lengthTo 6 = .ok (.getfield 15, 3) := by decide +kernel
theorem dX8_lengthTo_9 : decode cX8_lengthTo 9 = .ok (.arraylength, 1) := by decide +kernel
theorem dX8_lengthTo_10 : decode cX8_lengthTo 10 = .ok (.if_icmp .ge 12, 3) := by decide +kernel
theorem dX8_lengthTo_13 : decode cX8_lengthTo 13 = .ok (.aload_n 0, 1) := by decide +kernel
theorem dX8_lengthTo_14 : decode cX8_lengthTo 14 = .ok (.getfield 15, 3) := by decide +kernel
theorem dX8_lengthTo_17 : decode cX8_lengthTo 17 = .ok (.iload_n 1, 1) := by decide +kernel
theorem dX8_lengthTo_18 : decode cX8_lengthTo 18 = .ok (.iaload, 1) := by decide +kernel
theorem dX8_lengthTo_19 : decode cX8_lengthTo 19 = .ok (.goto 4, 3) := by decide +kernel
theorem dX8_lengthTo_22 : decode cX8_lengthTo 22 = .ok (.iconst (-1), 1) := by decide +kernel
theorem dX8_lengthTo_23 : decode cX8_lengthTo 23 = .ok (.ireturn, 1) := by decide +kernel
theorem dX8_sumTo_0 : decode cX8_sumTo 0 = .ok (.iload_n 1, 1) := by decide +kernel
theorem dX8_sumTo_1 : decode cX8_sumTo 1 = .ok (.ifCond .lt 21, 3) := by decide +kernel
theorem dX8_sumTo_4 : decode cX8_sumTo 4 = .ok (.iload_n 1, 1) := by decide +kernel
theorem dX8_sumTo_5 : decode cX8_sumTo 5 = .ok (.aload_n 0, 1) := by decide +kernel
theorem dX8_sumTo_6 : decode cX8_sumTo 6 = .ok (.getfield 18, 3) := by decide +kernel
theorem dX8_sumTo_9 : decode cX8_sumTo 9 = .ok (.arraylength, 1) := by decide +kernel
theorem dX8_sumTo_10 : decode cX8_sumTo 10 = .ok (.if_icmp .ge 12, 3) := by decide +kernel
theorem dX8_sumTo_13 : decode cX8_sumTo 13 = .ok (.aload_n 0, 1) := by decide +kernel
theorem dX8_sumTo_14 : decode cX8_sumTo 14 = .ok (.getfield 18, 3) := by decide +kernel
theorem dX8_sumTo_17 : decode cX8_sumTo 17 = .ok (.iload_n 1, 1) := by decide +kernel
theorem dX8_sumTo_18 : decode cX8_sumTo 18 = .ok (.iaload, 1) := by decide +kernel
theorem dX8_sumTo_19 : decode cX8_sumTo 19 = .ok (.goto 4, 3) := by decide +kernel
theorem dX8_sumTo_22 : decode cX8_sumTo 22 = .ok (.iconst 0, 1) := by decide +kernel
theorem dX8_sumTo_23 : decode cX8_sumTo 23 = .ok (.ireturn, 1) := by decide +kernel
theorem dX8_writeWay_0 : decode cX8_writeWay 0 = .ok (.iload_n 1, 1) := by decide +kernel
theorem dX8_writeWay_1 : decode cX8_writeWay 1 = .ok (.istore 5, 2) := by decide +kernel
theorem dX8_writeWay_3 : decode cX8_writeWay 3 = .ok (.iconst 0, 1) := by decide +kernel
theorem dX8_writeWay_4 : decode cX8_writeWay 4 = .ok (.istore 6, 2) := by decide +kernel
theorem dX8_writeWay_6 : decode cX8_writeWay 6 = .ok (.iload 6, 2) := by decide +kernel
theorem dX8_writeWay_8 : decode cX8_writeWay 8 = .ok (.iload_n 2, 1) := by decide +kernel
theorem dX8_writeWay_9 : decode cX8_writeWay 9 = .ok (.if_icmp .ge 77, 3) := by decide +kernel
theorem dX8_writeWay_12 : decode cX8_writeWay 12 = .ok (.iload 5, 2) := by decide +kernel
theorem dX8_writeWay_14 : decode cX8_writeWay 14 = .ok (.ifCond .lt 72, 3) := by decide +kernel
theorem dX8_writeWay_17 : decode cX8_writeWay 17 = .ok (.iload 5, 2) := by decide +kernel
theorem dX8_writeWay_19 : decode cX8_writeWay 19 = .ok (.bipush 24, 2) := by decide +kernel
theorem dX8_writeWay_21 : decode cX8_writeWay 21 = .ok (.if_icmp .ge 65, 3) := by decide +kernel
theorem dX8_writeWay_24 : decode cX8_writeWay 24 = .ok (.iload_n 3, 1) := by decide +kernel
theorem dX8_writeWay_25 : decode cX8_writeWay 25 = .ok (.ifCond .eq 8, 3) := by decide +kernel
theorem dX8_writeWay_28 : decode cX8_writeWay 28 = .ok (.iload 6, 2) := by decide +kernel
theorem dX8_writeWay_30 : decode cX8_writeWay 30 = .ok (.goto 9, 3) := by decide +kernel
theorem dX8_writeWay_33 : decode cX8_writeWay 33 = .ok (.iload_n 2, 1) := by decide +kernel
theorem dX8_writeWay_34 : decode cX8_writeWay 34 = .ok (.iconst 1, 1) := by decide +kernel
theorem dX8_writeWay_35 : decode cX8_writeWay 35 = .ok (.isub, 1) := by decide +kernel
theorem dX8_writeWay_36 : decode cX8_writeWay 36 = .ok (.iload 6, 2) := by decide +kernel
theorem dX8_writeWay_38 : decode cX8_writeWay 38 = .ok (.isub, 1) := by decide +kernel
theorem dX8_writeWay_39 : decode cX8_writeWay 39 = .ok (.istore 7, 2) := by decide +kernel
theorem dX8_writeWay_41 : decode cX8_writeWay 41 = .ok (.aload 4, 2) := by decide +kernel
theorem dX8_writeWay_43 : decode cX8_writeWay 43 = .ok (.ifnull 28, 3) := by decide +kernel
theorem dX8_writeWay_46 : decode cX8_writeWay 46 = .ok (.iload 7, 2) := by decide +kernel
theorem dX8_writeWay_48 : decode cX8_writeWay 48 = .ok (.ifCond .lt 23, 3) := by decide +kernel
theorem dX8_writeWay_51 : decode cX8_writeWay 51 = .ok (.iload 7, 2) := by decide +kernel
theorem dX8_writeWay_53 : decode cX8_writeWay 53 = .ok (.aload 4, 2) := by decide +kernel
theorem dX8_writeWay_55 : decode cX8_writeWay 55 = .ok (.arraylength, 1) := by decide +kernel
theorem dX8_writeWay_56 : decode cX8_writeWay 56 = .ok (.if_icmp .ge 15, 3) := by decide +kernel
theorem dX8_writeWay_59 : decode cX8_writeWay 59 = .ok (.aload 4, 2) := by decide +kernel
theorem dX8_writeWay_61 : decode cX8_writeWay 61 = .ok (.iload 7, 2) := by decide +kernel
theorem dX8_writeWay_63 : decode cX8_writeWay 63 = .ok (.aload_n 0, 1) := by decide +kernel
theorem dX8_writeWay_64 : decode cX8_writeWay 64 = .ok (.getfield 21, 3) := by decide +kernel
theorem dX8_writeWay_67 : decode cX8_writeWay 67 = .ok (.iload 5, 2) := by decide +kernel
theorem dX8_writeWay_69 : decode cX8_writeWay 69 = .ok (.iaload, 1) := by decide +kernel
theorem dX8_writeWay_70 : decode cX8_writeWay 70 = .ok (.iastore, 1) := by decide +kernel
theorem dX8_writeWay_71 : decode cX8_writeWay 71 = .ok (.aload_n 0, 1) := by decide +kernel
theorem dX8_writeWay_72 : decode cX8_writeWay 72 = .ok (.getfield 24, 3) := by decide +kernel
theorem dX8_writeWay_75 : decode cX8_writeWay 75 = .ok (.iload 5, 2) := by decide +kernel
theorem dX8_writeWay_77 : decode cX8_writeWay 77 = .ok (.iaload, 1) := by decide +kernel
theorem dX8_writeWay_78 : decode cX8_writeWay 78 = .ok (.istore 5, 2) := by decide +kernel
theorem dX8_writeWay_80 : decode cX8_writeWay 80 = .ok (.iinc 6 1, 3) := by decide +kernel
theorem dX8_writeWay_83 : decode cX8_writeWay 83 = .ok (.goto (-77), 3) := by decide +kernel
theorem dX8_writeWay_86 : decode cX8_writeWay 86 = .ok (.return_, 1) := by decide +kernel
theorem dX9_init_0 : decode cX9_init 0 = .ok (.aload_n 0, 1) := by decide +kernel
theorem dX9_init_1 : decode cX9_init 1 = .ok (.invokespecial 1, 3) := by decide +kernel
theorem dX9_init_4 : decode cX9_init 4 = .ok (.aload_n 0, 1) := by decide +kernel
theorem dX9_init_5 : decode cX9_init 5 = .ok (.new 7, 3) := by decide +kernel
theorem dX9_init_8 : decode cX9_init 8 = .ok (.dup, 1) := by decide +kernel
theorem dX9_init_9 : decode cX9_init 9 = .ok (.invokespecial 9, 3) := by decide +kernel
theorem dX9_init_12 : decode cX9_init 12 = .ok (.putfield 10, 3) := by decide +kernel
theorem dX9_init_15 : decode cX9_init 15 = .ok (.aload_n 0, 1) := by decide +kernel
theorem dX9_init_16 : decode cX9_init 16 = .ok (.new 16, 3) := by decide +kernel
theorem dX9_init_19 : decode cX9_init 19 = .ok (.dup, 1) := by decide +kernel
theorem dX9_init_20 : decode cX9_init 20 = .ok (.invokespecial 18, 3) := by decide +kernel
theorem dX9_init_23 : decode cX9_init 23 = .ok (.putfield 19, 3) := by decide +kernel
theorem dX9_init_26 : decode cX9_init 26 = .ok (.aload_n 0, 1) := by decide +kernel
theorem dX9_init_27 : decode cX9_init 27 = .ok (.new 23, 3) := by decide +kernel
theorem dX9_init_30 : decode cX9_init 30 = .ok (.dup, 1) := by decide +kernel
theorem dX9_init_31 : decode cX9_init 31 = .ok (.invokespecial 25, 3) := by decide +kernel
theorem dX9_init_34 : decode cX9_init 34 = .ok (.putfield 26, 3) := by decide +kernel
theorem dX9_init_37 : decode cX9_init 37 = .ok (.aload_n 0, 1) := by decide +kernel
theorem dX9_init_38 : decode cX9_init 38 = .ok (.new 30, 3) := by decide +kernel
theorem dX9_init_41 : decode cX9_init 41 = .ok (.dup, 1) := by decide +kernel
theorem dX9_init_42 : decode cX9_init 42 = .ok (.aload_n 0, 1) := by decide +kernel
theorem dX9_init_43 : decode cX9_init 43 = .ok (.getfield 10, 3) := by decide +kernel
theorem dX9_init_46 : decode cX9_init 46 = .ok (.invokespecial 32, 3) := by decide +kernel
theorem dX9_init_49 : decode cX9_init 49 = .ok (.putfield 35, 3) := by decide +kernel
theorem dX9_init_52 : decode cX9_init 52 = .ok (.aload_n 0, 1) := by decide +kernel
theorem dX9_init_53 : decode cX9_init 53 = .ok (.new 39, 3) := by decide +kernel
theorem dX9_init_56 : decode cX9_init 56 = .ok (.dup, 1) := by decide +kernel
theorem dX9_init_57 : decode cX9_init 57 = .ok (.aload_n 0, 1) := by decide +kernel
theorem dX9_init_58 : decode cX9_init 58 = .ok (.getfield 19, 3) := by decide +kernel
theorem dX9_init_61 : decode cX9_init 61 = .ok (.invokespecial 41, 3) := by decide +kernel
theorem dX9_init_64 : decode cX9_init 64 = .ok (.putfield 44, 3) := by decide +kernel
theorem dX9_init_67 : decode cX9_init 67 = .ok (.aload_n 0, 1) := by decide +kernel
theorem dX9_init_68 : decode cX9_init 68 = .ok (.new 48, 3) := by decide +kernel
theorem dX9_init_71 : decode cX9_init 71 = .ok (.dup, 1) := by decide +kernel
theorem dX9_init_72 : decode cX9_init 72 = .ok (.aload_n 0, 1) := by decide +kernel
theorem dX9_init_73 : decode cX9_init 73 = .ok (.getfield 10, 3) := by decide +kernel
theorem dX9_init_76 : decode cX9_init 76 = .ok (.aload_n 0, 1) := by decide +kernel
theorem dX9_init_77 : decode cX9_init 77 = .ok (.getfield 35, 3) := by decide +kernel
theorem dX9_init_80 : decode cX9_init 80 = .ok (.aload_n 0, 1) := by decide +kernel
theorem dX9_init_81 : decode cX9_init 81 = .ok (.getfield 19, 3) := by decide +kernel
theorem dX9_init_84 : decode cX9_init 84 = .ok (.aload_n 0, 1) := by decide +kernel
theorem dX9_init_85 : decode cX9_init 85 = .ok (.getfield 44, 3) := by decide +kernel
theorem dX9_init_88 : decode cX9_init 88 = .ok (.aload_n 0, 1) := by decide +kernel
theorem dX9_init_89 : decode cX9_init 89 = .ok (.getfield 26, 3) := by decide +kernel
theorem dX9_init_92 : decode cX9_init 92 = .ok (.invokespecial 50, 3) := by decide +kernel
theorem dX9_init_95 : decode cX9_init 95 = .ok (.putfield 53, 3) := by decide +kernel
theorem dX9_init_98 : decode cX9_init 98 = .ok (.aload_n 0, 1) := by decide +kernel
theorem dX9_init_99 : decode cX9_init 99 = .ok (.bipush 24, 2) := by decide +kernel
theorem dX9_init_101 : decode cX9_init 101 = .ok (.newarray .int, 2) := by decide +kernel
theorem dX9_init_103 : decode cX9_init 103 = .ok (.putfield 57, 3) := by decide +kernel
theorem dX9_init_106 : decode cX9_init 106 = .ok (.aload_n 0, 1) := by decide +kernel
theorem dX9_init_107 : decode cX9_init 107 = .ok (.iconst 0, 1) := by decide +kernel
theorem dX9_init_108 : decode cX9_init 108 = .ok (.putfield 61, 3) := by decide +kernel
theorem dX9_init_111 : decode cX9_init 111 = .ok (.aload_n 0, 1) := by decide +kernel
theorem dX9_init_112 : decode cX9_init 112 = .ok (.iconst 0, 1) := by decide +kernel
theorem dX9_init_113 : decode cX9_init 113 = .ok (.putfield 65, 3) := by decide +kernel
theorem dX9_init_116 : decode cX9_init 116 = .ok (.aload_n 0, 1) := by decide +kernel
theorem dX9_init_117 : decode cX9_init 117 = .ok (.bipush 40, 2) := by decide +kernel
theorem dX9_init_119 : decode cX9_init 119 = .ok (.putfield 68, 3) := by decide +kernel
theorem dX9_init_122 : decode cX9_init 122 = .ok (.aload_n 0, 1) := by decide +kernel
theorem dX9_init_123 : decode cX9_init 123 = .ok (.iconst 5, 1) := by decide +kernel
theorem dX9_init_124 : decode cX9_init 124 = .ok (.putfield 71, 3) := by decide +kernel
theorem dX9_init_127 : decode cX9_init 127 = .ok (.aload_n 0, 1) := by decide +kernel
theorem dX9_init_128 : decode cX9_init 128 = .ok (.bipush 10, 2) := by decide +kernel
theorem dX9_init_130 : decode cX9_init 130 = .ok (.putfield 74, 3) := by decide +kernel
theorem dX9_init_133 : decode cX9_init 133 = .ok (.aload_n 0, 1) := by decide +kernel
theorem dX9_init_134 : decode cX9_init 134 = .ok (.iconst 0, 1) := by decide +kernel
theorem dX9_init_135 : decode cX9_init 135 = .ok (.putfield 77, 3) := by decide +kernel
theorem dX9_init_138 : decode cX9_init 138 = .ok (.return_, 1) := by decide +kernel
theorem dX9_put_0 : decode cX9_put 0 = .ok (.iload_n 1, 1) := by decide +kernel
theorem dX9_put_1 : decode cX9_put 1 = .ok (.invokestatic 80, 3) := by decide +kernel
theorem dX9_put_4 : decode cX9_put 4 = .ok (.ifCond .eq 15, 3) := by decide +kernel
theorem dX9_put_7 : decode cX9_put 7 = .ok (.aload_n 0, 1) := by decide +kernel
theorem dX9_put_8 : decode cX9_put 8 = .ok (.getfield 10, 3) := by decide +kernel
theorem dX9_put_11 : decode cX9_put 11 = .ok (.iload_n 1, 1) := by decide +kernel
theorem dX9_put_12 : decode cX9_put 12 = .ok (.invokevirtual 84, 3) := by decide +kernel
theorem dX9_put_15 : decode cX9_put 15 = .ok (.iconst (-1), 1) := by decide +kernel
theorem dX9_put_16 : decode cX9_put 16 = .ok (.if_icmp .eq 5, 3) := by decide +kernel
theorem dX9_put_19 : decode cX9_put 19 = .ok (.iconst (-1), 1) := by decide +kernel
theorem dX9_put_20 : decode cX9_put 20 = .ok (.ireturn, 1) := by decide +kernel
theorem dX9_put_21 : decode cX9_put 21 = .ok (.iconst 0, 1) := by decide +kernel
theorem dX9_put_22 : decode cX9_put 22 = .ok (.istore 5, 2) := by decide +kernel
theorem dX9_put_24 : decode cX9_put 24 = .ok (.iload_n 2, 1) := by decide +kernel
theorem dX9_put_25 : decode cX9_put 25 = .ok (.invokestatic 88, 3) := by decide +kernel
theorem dX9_put_28 : decode cX9_put 28 = .ok (.ifCond .eq 24, 3) := by decide +kernel
theorem dX9_put_31 : decode cX9_put 31 = .ok (.aload_n 0, 1) := by decide +kernel
theorem dX9_put_32 : decode cX9_put 32 = .ok (.getfield 10, 3) := by decide +kernel
theorem dX9_put_35 : decode cX9_put 35 = .ok (.iload_n 1, 1) := by decide +kernel
theorem dX9_put_36 : decode cX9_put 36 = .ok (.iload_n 2, 1) := by decide +kernel
theorem dX9_put_37 : decode cX9_put 37 = .ok (.iload_n 3, 1) := by decide +kernel
theorem dX9_put_38 : decode cX9_put 38 = .ok (.iload 4, 2) := by decide +kernel
theorem dX9_put_40 : decode cX9_put 40 = .ok (.aload_n 0, 1) := by decide +kernel
theorem dX9_put_41 : decode cX9_put 41 = .ok (.getfield 65, 3) := by decide +kernel
theorem dX9_put_44 : decode cX9_put 44 = .ok (.invokevirtual 91, 3) := by decide +kernel
theorem dX9_put_47 : decode cX9_put 47 = .ok (.istore 5, 2) := by decide +kernel
theorem dX9_put_49 : decode cX9_put 49 = .ok (.goto 43, 3) := by decide +kernel
theorem dX9_put_52 : decode cX9_put 52 = .ok (.iload_n 2, 1) := by decide +kernel
theorem dX9_put_53 : decode cX9_put 53 = .ok (.invokestatic 95, 3) := by decide +kernel
theorem dX9_put_56 : decode cX9_put 56 = .ok (.ifCond .eq 20, 3) := by decide +kernel
theorem dX9_put_59 : decode cX9_put 59 = .ok (.aload_n 0, 1) := by decide +kernel
theorem dX9_put_60 : decode cX9_put 60 = .ok (.getfield 10, 3) := by decide +kernel
theorem dX9_put_63 : decode cX9_put 63 = .ok (.iload_n 1, 1) := by decide +kernel
theorem dX9_put_64 : decode cX9_put 64 = .ok (.iload_n 2, 1) := by decide +kernel
theorem dX9_put_65 : decode cX9_put 65 = .ok (.iload_n 3, 1) := by decide +kernel
theorem dX9_put_66 : decode cX9_put 66 = .ok (.iload 4, 2) := by decide +kernel
theorem dX9_put_68 : decode cX9_put 68 = .ok (.invokevirtual 98, 3) := by decide +kernel
theorem dX9_put_71 : decode cX9_put 71 = .ok (.istore 5, 2) := by decide +kernel
theorem dX9_put_73 : decode cX9_put 73 = .ok (.goto 19, 3) := by decide +kernel
theorem dX9_put_76 : decode cX9_put 76 = .ok (.iload_n 2, 1) := by decide +kernel
theorem dX9_put_77 : decode cX9_put 77 = .ok (.bipush 7, 2) := by decide +kernel
theorem dX9_put_79 : decode cX9_put 79 = .ok (.if_icmp .ne 13, 3) := by decide +kernel
theorem dX9_put_82 : decode cX9_put 82 = .ok (.aload_n 0, 1) := by decide +kernel
theorem dX9_put_83 : decode cX9_put 83 = .ok (.getfield 10, 3) := by decide +kernel
theorem dX9_put_86 : decode cX9_put 86 = .ok (.iload_n 1, 1) := by decide +kernel
theorem dX9_put_87 : decode cX9_put 87 = .ok (.invokevirtual 102, 3) := by decide +kernel
theorem dX9_put_90 : decode cX9_put 90 = .ok (.istore 5, 2) := by decide +kernel
theorem dX9_put_92 : decode cX9_put 92 = .ok (.iload 5, 2) := by decide +kernel
theorem dX9_put_94 : decode cX9_put 94 = .ok (.ifCond .eq 7, 3) := by decide +kernel
theorem dX9_put_97 : decode cX9_put 97 = .ok (.iload_n 1, 1) := by decide +kernel
theorem dX9_put_98 : decode cX9_put 98 = .ok (.goto 4, 3) := by decide +kernel
theorem dX9_put_101 : decode cX9_put 101 = .ok (.iconst (-1), 1) := by decide +kernel
theorem dX9_put_102 : decode cX9_put 102 = .ok (.ireturn, 1) := by decide +kernel
theorem dX9_lift_0 : decode cX9_lift 0 = .ok (.aload_n 0, 1) := by decide +kernel
theorem dX9_lift_1 : decode cX9_lift 1 = .ok (.getfield 10, 3) := by decide +kernel
theorem dX9_lift_4 : decode cX9_lift 4 = .ok (.iload_n 1, 1) := by decide +kernel
theorem dX9_lift_5 : decode cX9_lift 5 = .ok (.invokevirtual 84, 3) := by decide +kernel
theorem dX9_lift_8 : decode cX9_lift 8 = .ok (.istore_n 2, 1) := by decide +kernel
theorem dX9_lift_9 : decode cX9_lift 9 = .ok (.aload_n 0, 1) := by decide +kernel
theorem dX9_lift_10 : decode cX9_lift 10 = .ok (.getfield 10, 3) := by decide +kernel
theorem dX9_lift_13 : decode cX9_lift 13 = .ok (.iload_n 1, 1) := by decide +kernel
theorem dX9_lift_14 : decode cX9_lift 14 = .ok (.invokevirtual 105, 3) := by decide +kernel
theorem dX9_lift_17 : decode cX9_lift 17 = .ok (.ifCond .eq 6, 3) := by decide +kernel
theorem dX9_lift_20 : decode cX9_lift 20 = .ok (.bipush (-2), 2) := by decide +kernel
theorem dX9_lift_22 : decode cX9_lift 22 = .ok (.ireturn, 1) := by decide +kernel
theorem dX9_lift_23 : decode cX9_lift 23 = .ok (.aload_n 0, 1) := by decide +kernel
theorem dX9_lift_24 : decode cX9_lift 24 = .ok (.getfield 10, 3) := by decide +kernel
theorem dX9_lift_27 : decode cX9_lift 27 = .ok (.iload_n 1, 1) := by decide +kernel
theorem dX9_lift_28 : decode cX9_lift 28 = .ok (.invokevirtual 108, 3) := by decide +kernel
theorem dX9_lift_31 : decode cX9_lift 31 = .ok (.iload_n 2, 1) := by decide +kernel
theorem dX9_lift_32 : decode cX9_lift 32 = .ok (.ireturn, 1) := by decide +kernel
theorem dX9_kind_0 : decode cX9_kind 0 = .ok (.aload_n 0, 1) := by decide +kernel
theorem dX9_kind_1 : decode cX9_kind 1 = .ok (.getfield 10, 3) := by decide +kernel
theorem dX9_kind_4 : decode cX9_kind 4 = .ok (.iload_n 1, 1) := by decide +kernel
theorem dX9_kind_5 : decode cX9_kind 5 = .ok (.invokevirtual 84, 3) := by decide +kernel
theorem dX9_kind_8 : decode cX9_kind 8 = .ok (.ireturn, 1) := by decide +kernel
theorem dX9_read_0 : decode cX9_read 0 = .ok (.aload_n 0, 1) := by decide +kernel
theorem dX9_read_1 : decode cX9_read 1 = .ok (.getfield 10, 3) := by decide +kernel
theorem dX9_read_4 : decode cX9_read 4 = .ok (.iload_n 1, 1) := by decide +kernel
theorem dX9_read_5 : decode cX9_read 5 = .ok (.invokevirtual 112, 3) := by decide +kernel
theorem dX9_read_8 : decode cX9_read 8 = .ok (.astore_n 3, 1) := by decide +kernel
theorem dX9_read_9 : decode cX9_read 9 = .ok (.aload_n 3, 1) := by decide +kernel
theorem dX9_read_10 : decode cX9_read 10 = .ok (.ifnonnull 9, 3) := by decide +kernel
theorem dX9_read_13 : decode cX9_read 13 = .ok (.aload_n 0, 1) := by decide +kernel
theorem dX9_read_14 : decode cX9_read 14 = .ok (.iload_n 1, 1) := by decide +kernel
theorem dX9_read_15 : decode cX9_read 15 = .ok (.invokevirtual 116, 3) := by decide +kernel
theorem dX9_read_18 : decode cX9_read 18 = .ok (.ireturn, 1) := by decide +kernel
theorem dX9_read_19 : decode cX9_read 19 = .ok (.iload_n 2, 1) := by decide +kernel
theorem dX9_read_20 : decode cX9_read 20 = .ok (.sipush 10000, 3) := by decide +kernel
theorem dX9_read_23 : decode cX9_read 23 = .ok (.invokestatic 119, 3) := by decide +kernel
theorem dX9_read_26 : decode cX9_read 26 = .ok (.ifCond .ne 5, 3) := by decide +kernel
theorem dX9_read_29 : decode cX9_read 29 = .ok (.iconst (-1), 1) := by decide +kernel
theorem dX9_read_30 : decode cX9_read 30 = .ok (.ireturn, 1) := by decide +kernel
theorem dX9_read_31 : decode cX9_read 31 = .ok (.aload_n 3, 1) := by decide +kernel
theorem dX9_read_32 : decode cX9_read 32 = .ok (.aload_n 0, 1) := by decide +kernel
theorem dX9_read_33 : decode cX9_read 33 = .ok (.getfield 65, 3) := by decide +kernel
theorem dX9_read_36 : decode cX9_read 36 = .ok (.iload_n 2, 1) := by decide +kernel
theorem dX9_read_37 : decode cX9_read 37 = .ok (.invokevirtual 123, 3) := by decide +kernel
theorem dX9_read_40 : decode cX9_read 40 = .ok (.iconst 1, 1) := by decide +kernel
theorem dX9_read_41 : decode cX9_read 41 = .ok (.ireturn, 1) := by decide +kernel
theorem dX9_back_0 : decode cX9_back 0 = .ok (.aload_n 0, 1) := by decide +kernel
theorem dX9_back_1 : decode cX9_back 1 = .ok (.getfield 10, 3) := by decide +kernel
theorem dX9_back_4 : decode cX9_back 4 = .ok (.iload_n 1, 1) := by decide +kernel
theorem dX9_back_5 : decode cX9_back 5 = .ok (.invokevirtual 112, 3) := by decide +kernel
theorem dX9_back_8 : decode cX9_back 8 = .ok (.astore_n 3, 1) := by decide +kernel
theorem dX9_back_9 : decode cX9_back 9 = .ok (.aload_n 3, 1) := by decide +kernel
theorem dX9_back_10 : decode cX9_back 10 = .ok (.ifnull 12, 3) := by decide +kernel
theorem dX9_back_13 : decode cX9_back 13 = .ok (.aload_n 3, 1) := by decide +kernel
theorem dX9_back_14 : decode cX9_back 14 = .ok (.getfield 129, 3) := by decide +kernel
theorem dX9_back_17 : decode cX9_back 17 = .ok (.bipush 6, 2) := by decide +kernel
theorem dX9_back_19 : decode cX9_back 19 = .ok (.if_icmp .eq 9, 3) := by decide +kernel
theorem dX9_back_22 : decode cX9_back 22 = .ok (.aload_n 0, 1) := by decide +kernel
theorem dX9_back_23 : decode cX9_back 23 = .ok (.iload_n 1, 1) := by decide +kernel
theorem dX9_back_24 : decode cX9_back 24 = .ok (.invokevirtual 116, 3) := by decide +kernel
theorem dX9_back_27 : decode cX9_back 27 = .ok (.ireturn, 1) := by decide +kernel
theorem dX9_back_28 : decode cX9_back 28 = .ok (.iload_n 2, 1) := by decide +kernel
theorem dX9_back_29 : decode cX9_back 29 = .ok (.sipush 10000, 3) := by decide +kernel
theorem dX9_back_32 : decode cX9_back 32 = .ok (.invokestatic 119, 3) := by decide +kernel
theorem dX9_back_35 : decode cX9_back 35 = .ok (.ifCond .ne 5, 3) := by decide +kernel
theorem dX9_back_38 : decode cX9_back 38 = .ok (.iconst (-1), 1) := by decide +kernel
theorem dX9_back_39 : decode cX9_back 39 = .ok (.ireturn, 1) := by decide +kernel
theorem dX9_back_40 : decode cX9_back 40 = .ok (.aload_n 3, 1) := by decide +kernel
theorem dX9_back_41 : decode cX9_back 41 = .ok (.aload_n 0, 1) := by decide +kernel
theorem dX9_back_42 : decode cX9_back 42 = .ok (.getfield 65, 3) := by decide +kernel
theorem dX9_back_45 : decode cX9_back 45 = .ok (.iload_n 2, 1) := by decide +kernel
theorem dX9_back_46 : decode cX9_back 46 = .ok (.invokevirtual 132, 3) := by decide +kernel
theorem dX9_back_49 : decode cX9_back 49 = .ok (.iconst 1, 1) := by decide +kernel
theorem dX9_back_50 : decode cX9_back 50 = .ok (.ireturn, 1) := by decide +kernel
theorem dX9_tear_0 : decode cX9_tear 0 = .ok (.aload_n 0, 1) := by decide +kernel
theorem dX9_tear_1 : decode cX9_tear 1 = .ok (.getfield 10, 3) := by decide +kernel
theorem dX9_tear_4 : decode cX9_tear 4 = .ok (.iload_n 1, 1) := by decide +kernel
theorem dX9_tear_5 : decode cX9_tear 5 = .ok (.invokevirtual 112, 3) := by decide +kernel
theorem dX9_tear_8 : decode cX9_tear 8 = .ok (.astore_n 2, 1) := by decide +kernel
theorem dX9_tear_9 : decode cX9_tear 9 = .ok (.aload_n 2, 1) := by decide +kernel
theorem dX9_tear_10 : decode cX9_tear 10 = .ok (.ifnonnull 11, 3) := by decide +kernel
theorem dX9_tear_13 : decode cX9_tear 13 = .ok (.aload_n 0, 1) := by decide +kernel
theorem dX9_tear_14 : decode cX9_tear 14 = .ok (.iload_n 1, 1) := by decide +kernel
theorem dX9_tear_15 : decode cX9_tear 15 = .ok (.invokevirtual 116, 3) := by decide +kernel
theorem dX9_tear_18 : decode cX9_tear 18 = .ok (.goto 7, 3) := by decide +kernel
theorem dX9_tear_21 : decode cX9_tear 21 = .ok (.aload_n 2, 1) := by decide +kernel
theorem dX9_tear_22 : decode cX9_tear 22 = .ok (.invokevirtual 135, 3) := by decide +kernel
theorem dX9_tear_25 : decode cX9_tear 25 = .ok (.ireturn, 1) := by decide +kernel
theorem dX9_way_0 : decode cX9_way 0 = .ok (.aload_n 0, 1) := by decide +kernel
theorem dX9_way_1 : decode cX9_way 1 = .ok (.getfield 10, 3) := by decide +kernel
theorem dX9_way_4 : decode cX9_way 4 = .ok (.iload_n 1, 1) := by decide +kernel
theorem dX9_way_5 : decode cX9_way 5 = .ok (.invokevirtual 112, 3) := by decide +kernel
theorem dX9_way_8 : decode cX9_way 8 = .ok (.astore_n 3, 1) := by decide +kernel
theorem dX9_way_9 : decode cX9_way 9 = .ok (.aload_n 3, 1) := by decide +kernel
theorem dX9_way_10 : decode cX9_way 10 = .ok (.ifnull 11, 3) := by decide +kernel
theorem dX9_way_13 : decode cX9_way 13 = .ok (.aload_n 3, 1) := by decide +kernel
theorem dX9_way_14 : decode cX9_way 14 = .ok (.getfield 129, 3) := by decide +kernel
theorem dX9_way_17 : decode cX9_way 17 = .ok (.iconst 5, 1) := by decide +kernel
theorem dX9_way_18 : decode cX9_way 18 = .ok (.if_icmp .eq 9, 3) := by decide +kernel
theorem dX9_way_21 : decode cX9_way 21 = .ok (.aload_n 0, 1) := by decide +kernel
theorem dX9_way_22 : decode cX9_way 22 = .ok (.iload_n 1, 1) := by decide +kernel
theorem dX9_way_23 : decode cX9_way 23 = .ok (.invokevirtual 116, 3) := by decide +kernel
theorem dX9_way_26 : decode cX9_way 26 = .ok (.ireturn, 1) := by decide +kernel
theorem dX9_way_27 : decode cX9_way 27 = .ok (.iload_n 2, 1) := by decide +kernel
theorem dX9_way_28 : decode cX9_way 28 = .ok (.sipush 10000, 3) := by decide +kernel
theorem dX9_way_31 : decode cX9_way 31 = .ok (.invokestatic 119, 3) := by decide +kernel
theorem dX9_way_34 : decode cX9_way 34 = .ok (.ifCond .ne 5, 3) := by decide +kernel
theorem dX9_way_37 : decode cX9_way 37 = .ok (.iconst (-1), 1) := by decide +kernel
theorem dX9_way_38 : decode cX9_way 38 = .ok (.ireturn, 1) := by decide +kernel
theorem dX9_way_39 : decode cX9_way 39 = .ok (.aload_n 3, 1) := by decide +kernel
theorem dX9_way_40 : decode cX9_way 40 = .ok (.iload_n 2, 1) := by decide +kernel
theorem dX9_way_41 : decode cX9_way 41 = .ok (.putfield 139, 3) := by decide +kernel
theorem dX9_way_44 : decode cX9_way 44 = .ok (.iconst 1, 1) := by decide +kernel
theorem dX9_way_45 : decode cX9_way 45 = .ok (.ireturn, 1) := by decide +kernel
theorem dX9_tells_0 : decode cX9_tells 0 = .ok (.aload_n 0, 1) := by decide +kernel
theorem dX9_tells_1 : decode cX9_tells 1 = .ok (.getfield 10, 3) := by decide +kernel
theorem dX9_tells_4 : decode cX9_tells 4 = .ok (.iload_n 1, 1) := by decide +kernel
theorem dX9_tells_5 : decode cX9_tells 5 = .ok (.invokevirtual 112, 3) := by decide +kernel
theorem dX9_tells_8 : decode cX9_tells 8 = .ok (.astore_n 3, 1) := by decide +kernel
theorem dX9_tells_9 : decode cX9_tells 9 = .ok (.aload_n 3, 1) := by decide +kernel
theorem dX9_tells_10 : decode cX9_tells 10 = .ok (.ifnonnull 9, 3) := by decide +kernel
theorem dX9_tells_13 : decode cX9_tells 13 = .ok (.aload_n 0, 1) := by decide +kernel
theorem dX9_tells_14 : decode cX9_tells 14 = .ok (.iload_n 1, 1) := by decide +kernel
theorem dX9_tells_15 : decode cX9_tells 15 = .ok (.invokevirtual 116, 3) := by decide +kernel
theorem dX9_tells_18 : decode cX9_tells 18 = .ok (.ireturn, 1) := by decide +kernel
theorem dX9_tells_19 : decode cX9_tells 19 = .ok (.aload_n 0, 1) := by decide +kernel
theorem dX9_tells_20 : decode cX9_tells 20 = .ok (.iload_n 2, 1) := by decide +kernel
theorem dX9_tells_21 : decode cX9_tells 21 = .ok (.invokevirtual 142, 3) := by decide +kernel
theorem dX9_tells_24 : decode cX9_tells 24 = .ok (.ifCond .eq 11, 3) := by decide +kernel
theorem dX9_tells_27 : decode cX9_tells 27 = .ok (.aload_n 3, 1) := by decide +kernel
theorem dX9_tells_28 : decode cX9_tells 28 = .ok (.iload_n 2, 1) := by decide +kernel
theorem dX9_tells_29 : decode cX9_tells 29 = .ok (.invokevirtual 145, 3) := by decide +kernel
theorem dX9_tells_32 : decode cX9_tells 32 = .ok (.goto 5, 3) := by decide +kernel
theorem dX9_tells_35 : decode cX9_tells 35 = .ok (.ldc 148, 2) := by decide +kernel
theorem dX9_tells_37 : decode cX9_tells 37 = .ok (.ireturn, 1) := by decide +kernel
theorem dX9_difference_0 : decode cX9_difference 0 = .ok (.aload_n 0, 1) := by decide +kernel
theorem dX9_difference_1 : decode cX9_difference 1 = .ok (.iload_n 1, 1) := by decide +kernel
theorem dX9_difference_2 : decode cX9_difference 2 = .ok (.iload_n 2, 1) := by decide +kernel
theorem dX9_difference_3 : decode cX9_difference 3 = .ok (.invokevirtual 149, 3) := by decide +kernel
theorem dX9_difference_6 : decode cX9_difference 6 = .ok (.istore 4, 2) := by decide +kernel
theorem dX9_difference_8 : decode cX9_difference 8 = .ok (.iload 4, 2) := by decide +kernel
theorem dX9_difference_10 : decode cX9_difference 10 = .ok (.ifCond .eq 6, 3) := by decide +kernel
theorem dX9_difference_13 : decode cX9_difference 13 = .ok (.iload 4, 2) := by decide +kernel
theorem dX9_difference_15 : decode cX9_difference 15 = .ok (.ireturn, 1) := by decide +kernel
theorem dX9_difference_16 : decode cX9_difference 16 = .ok (.aload_n 0, 1) := by decide +kernel
theorem dX9_difference_17 : decode cX9_difference 17 = .ok (.iload_n 1, 1) := by decide +kernel
theorem dX9_difference_18 : decode cX9_difference 18 = .ok (.iload_n 2, 1) := by decide +kernel
theorem dX9_difference_19 : decode cX9_difference 19 = .ok (.iload_n 3, 1) := by decide +kernel
theorem dX9_difference_20 : decode cX9_difference 20 = .ok (.invokevirtual 153, 3) := by decide +kernel
theorem dX9_difference_23 : decode cX9_difference 23 = .ok (.iconst (-1), 1) := by decide +kernel
theorem dX9_difference_24 : decode cX9_difference 24 = .ok (.if_icmp .ne 6, 3) := by decide +kernel
theorem dX9_difference_27 : decode cX9_difference 27 = .ok (.ldc 148, 2) := by decide +kernel
theorem dX9_difference_29 : decode cX9_difference 29 = .ok (.ireturn, 1) := by decide +kernel
theorem dX9_difference_30 : decode cX9_difference 30 = .ok (.aload_n 0, 1) := by decide +kernel
theorem dX9_difference_31 : decode cX9_difference 31 = .ok (.getfield 35, 3) := by decide +kernel
theorem dX9_difference_34 : decode cX9_difference 34 = .ok (.iload_n 1, 1) := by decide +kernel
theorem dX9_difference_35 : decode cX9_difference 35 = .ok (.iload_n 2, 1) := by decide +kernel
theorem dX9_difference_36 : decode cX9_difference 36 = .ok (.invokestatic 157, 3) := by decide +kernel
theorem dX9_difference_39 : decode cX9_difference 39 = .ok (.invokevirtual 162, 3) := by decide +kernel
theorem dX9_difference_42 : decode cX9_difference 42 = .ok (.istore 5, 2) := by decide +kernel
theorem dX9_difference_44 : decode cX9_difference 44 = .ok (.iload_n 1, 1) := by decide +kernel
theorem dX9_difference_45 : decode cX9_difference 45 = .ok (.iload_n 2, 1) := by decide +kernel
theorem dX9_difference_46 : decode cX9_difference 46 = .ok (.if_icmp .gt 8, 3) := by decide +kernel
theorem dX9_difference_49 : decode cX9_difference 49 = .ok (.iload 5, 2) := by decide +kernel
theorem dX9_difference_51 : decode cX9_difference 51 = .ok (.goto 6, 3) := by decide +kernel
theorem dX9_difference_54 : decode cX9_difference 54 = .ok (.iload 5, 2) := by decide +kernel
theorem dX9_difference_56 : decode cX9_difference 56 = .ok (.ineg, 1) := by decide +kernel
theorem dX9_difference_57 : decode cX9_difference 57 = .ok (.ireturn, 1) := by decide +kernel
theorem dX9_along_0 : decode cX9_along 0 = .ok (.aload_n 0, 1) := by decide +kernel
theorem dX9_along_1 : decode cX9_along 1 = .ok (.iload_n 1, 1) := by decide +kernel
theorem dX9_along_2 : decode cX9_along 2 = .ok (.iload_n 2, 1) := by decide +kernel
theorem dX9_along_3 : decode cX9_along 3 = .ok (.invokevirtual 149, 3) := by decide +kernel
theorem dX9_along_6 : decode cX9_along 6 = .ok (.istore 4, 2) := by decide +kernel
theorem dX9_along_8 : decode cX9_along 8 = .ok (.iload 4, 2) := by decide +kernel
theorem dX9_along_10 : decode cX9_along 10 = .ok (.ifCond .eq 6, 3) := by decide +kernel
theorem dX9_along_13 : decode cX9_along 13 = .ok (.iload 4, 2) := by decide +kernel
theorem dX9_along_15 : decode cX9_along 15 = .ok (.ireturn, 1) := by decide +kernel
theorem dX9_along_16 : decode cX9_along 16 = .ok (.aload_n 0, 1) := by decide +kernel
theorem dX9_along_17 : decode cX9_along 17 = .ok (.iload_n 1, 1) := by decide +kernel
theorem dX9_along_18 : decode cX9_along 18 = .ok (.iload_n 2, 1) := by decide +kernel
theorem dX9_along_19 : decode cX9_along 19 = .ok (.iload_n 3, 1) := by decide +kernel
theorem dX9_along_20 : decode cX9_along 20 = .ok (.invokevirtual 153, 3) := by decide +kernel
theorem dX9_along_23 : decode cX9_along 23 = .ok (.istore 5, 2) := by decide +kernel
theorem dX9_along_25 : decode cX9_along 25 = .ok (.aload_n 0, 1) := by decide +kernel
theorem dX9_along_26 : decode cX9_along 26 = .ok (.iconst 0, 1) := by decide +kernel
theorem dX9_along_27 : decode cX9_along 27 = .ok (.iload 5, 2) := by decide +kernel
theorem dX9_along_29 : decode cX9_along 29 = .ok (.invokestatic 157, 3) := by decide +kernel
theorem dX9_along_32 : decode cX9_along 32 = .ok (.putfield 61, 3) := by decide +kernel
theorem dX9_along_35 : decode cX9_along 35 = .ok (.aload_n 0, 1) := by decide +kernel
theorem dX9_along_36 : decode cX9_along 36 = .ok (.getfield 35, 3) := by decide +kernel
theorem dX9_along_39 : decode cX9_along 39 = .ok (.iload_n 1, 1) := by decide +kernel
theorem dX9_along_40 : decode cX9_along 40 = .ok (.iload_n 2, 1) := by decide +kernel
theorem dX9_along_41 : decode cX9_along 41 = .ok (.invokestatic 157, 3) := by decide +kernel
theorem dX9_along_44 : decode cX9_along 44 = .ok (.aload_n 0, 1) := by decide +kernel
theorem dX9_along_45 : decode cX9_along 45 = .ok (.getfield 61, 3) := by decide +kernel
theorem dX9_along_48 : decode cX9_along 48 = .ok (.iload_n 1, 1) := by decide +kernel
theorem dX9_along_49 : decode cX9_along 49 = .ok (.iload_n 2, 1) := by decide +kernel
theorem dX9_along_50 : decode cX9_along 50 = .ok (.if_icmp .le 7, 3) := by decide +kernel
theorem dX9_along_53 : decode cX9_along 53 = .ok (.iconst 1, 1) := by decide +kernel
theorem dX9_along_54 : decode cX9_along 54 = .ok (.goto 4, 3) := by decide +kernel
theorem dX9_along_57 : decode cX9_along 57 = .ok (.iconst 0, 1) := by decide +kernel
theorem dX9_along_58 : decode cX9_along 58 = .ok (.aload_n 0, 1) := by decide +kernel
theorem dX9_along_59 : decode cX9_along 59 = .ok (.getfield 57, 3) := by decide +kernel
theorem dX9_along_62 : decode cX9_along 62 = .ok (.invokevirtual 165, 3) := by decide +kernel
theorem dX9_along_65 : decode cX9_along 65 = .ok (.iload 5, 2) := by decide +kernel
theorem dX9_along_67 : decode cX9_along 67 = .ok (.ireturn, 1) := by decide +kernel
theorem dX9_link_0 : decode cX9_link 0 = .ok (.iload_n 1, 1) := by decide +kernel
theorem dX9_link_1 : decode cX9_link 1 = .ok (.ifCond .lt 29, 3) := by decide +kernel
theorem dX9_link_4 : decode cX9_link 4 = .ok (.iload_n 1, 1) := by decide +kernel
theorem dX9_link_5 : decode cX9_link 5 = .ok (.aload_n 0, 1) := by decide +kernel
theorem dX9_link_6 : decode cX9_link 6 = .ok (.getfield 61, 3) := by decide +kernel
theorem dX9_link_9 : decode cX9_link 9 = .ok (.if_icmp .ge 21, 3) := by decide +kernel
theorem dX9_link_12 : decode cX9_link 12 = .ok (.iload_n 1, 1) := by decide +kernel
theorem dX9_link_13 : decode cX9_link 13 = .ok (.aload_n 0, 1) := by decide +kernel
theorem dX9_link_14 : decode cX9_link 14 = .ok (.getfield 57, 3) := by decide +kernel
theorem dX9_link_17 : decode cX9_link 17 = .ok (.arraylength, 1) := by decide +kernel
theorem dX9_link_18 : decode cX9_link 18 = .ok (.if_icmp .ge 12, 3) := by decide +kernel
theorem dX9_link_21 : decode cX9_link 21 = .ok (.aload_n 0, 1) := by decide +kernel
theorem dX9_link_22 : decode cX9_link 22 = .ok (.getfield 57, 3) := by decide +kernel
theorem dX9_link_25 : decode cX9_link 25 = .ok (.iload_n 1, 1) := by decide +kernel
theorem dX9_link_26 : decode cX9_link 26 = .ok (.iaload, 1) := by decide +kernel
theorem dX9_link_27 : decode cX9_link 27 = .ok (.goto 4, 3) := by decide +kernel
theorem dX9_link_30 : decode cX9_link 30 = .ok (.iconst (-1), 1) := by decide +kernel
theorem dX9_link_31 : decode cX9_link 31 = .ok (.ireturn, 1) := by decide +kernel
theorem dX9_take_0 : decode cX9_take 0 = .ok (.aload_n 0, 1) := by decide +kernel
theorem dX9_take_1 : decode cX9_take 1 = .ok (.getfield 10, 3) := by decide +kernel
theorem dX9_take_4 : decode cX9_take 4 = .ok (.iload_n 1, 1) := by decide +kernel
theorem dX9_take_5 : decode cX9_take 5 = .ok (.invokevirtual 169, 3) := by decide +kernel
theorem dX9_take_8 : decode cX9_take 8 = .ok (.astore_n 2, 1) := by decide +kernel
theorem dX9_take_9 : decode cX9_take 9 = .ok (.aload_n 2, 1) := by decide +kernel
theorem dX9_take_10 : decode cX9_take 10 = .ok (.ifnonnull 9, 3) := by decide +kernel
theorem dX9_take_13 : decode cX9_take 13 = .ok (.aload_n 0, 1) := by decide +kernel
theorem dX9_take_14 : decode cX9_take 14 = .ok (.iload_n 1, 1) := by decide +kernel
theorem dX9_take_15 : decode cX9_take 15 = .ok (.invokevirtual 116, 3) := by decide +kernel
theorem dX9_take_18 : decode cX9_take 18 = .ok (.ireturn, 1) := by decide +kernel
theorem dX9_take_19 : decode cX9_take 19 = .ok (.aload_n 2, 1) := by decide +kernel
theorem dX9_take_20 : decode cX9_take 20 = .ok (.aload_n 0, 1) := by decide +kernel
theorem dX9_take_21 : decode cX9_take 21 = .ok (.getfield 65, 3) := by decide +kernel
theorem dX9_take_24 : decode cX9_take 24 = .ok (.invokevirtual 173, 3) := by decide +kernel
theorem dX9_take_27 : decode cX9_take 27 = .ok (.aload_n 2, 1) := by decide +kernel
theorem dX9_take_28 : decode cX9_take 28 = .ok (.iconst 1, 1) := by decide +kernel
theorem dX9_take_29 : decode cX9_take 29 = .ok (.putfield 178, 3) := by decide +kernel
theorem dX9_take_32 : decode cX9_take 32 = .ok (.iconst 1, 1) := by decide +kernel
theorem dX9_take_33 : decode cX9_take 33 = .ok (.ireturn, 1) := by decide +kernel
theorem dX9_leave_0 : decode cX9_leave 0 = .ok (.aload_n 0, 1) := by decide +kernel
theorem dX9_leave_1 : decode cX9_leave 1 = .ok (.getfield 10, 3) := by decide +kernel
theorem dX9_leave_4 : decode cX9_leave 4 = .ok (.iload_n 1, 1) := by decide +kernel
theorem dX9_leave_5 : decode cX9_leave 5 = .ok (.invokevirtual 169, 3) := by decide +kernel
theorem dX9_leave_8 : decode cX9_leave 8 = .ok (.astore_n 2, 1) := by decide +kernel
theorem dX9_leave_9 : decode cX9_leave 9 = .ok (.aload_n 2, 1) := by decide +kernel
theorem dX9_leave_10 : decode cX9_leave 10 = .ok (.ifnonnull 9, 3) := by decide +kernel
theorem dX9_leave_13 : decode cX9_leave 13 = .ok (.aload_n 0, 1) := by decide +kernel
theorem dX9_leave_14 : decode cX9_leave 14 = .ok (.iload_n 1, 1) := by decide +kernel
theorem dX9_leave_15 : decode cX9_leave 15 = .ok (.invokevirtual 116, 3) := by decide +kernel
theorem dX9_leave_18 : decode cX9_leave 18 = .ok (.ireturn, 1) := by decide +kernel
theorem dX9_leave_19 : decode cX9_leave 19 = .ok (.aload_n 2, 1) := by decide +kernel
theorem dX9_leave_20 : decode cX9_leave 20 = .ok (.getfield 178, 3) := by decide +kernel
theorem dX9_leave_23 : decode cX9_leave 23 = .ok (.istore_n 3, 1) := by decide +kernel
theorem dX9_leave_24 : decode cX9_leave 24 = .ok (.aload_n 2, 1) := by decide +kernel
theorem dX9_leave_25 : decode cX9_leave 25 = .ok (.iconst 0, 1) := by decide +kernel
theorem dX9_leave_26 : decode cX9_leave 26 = .ok (.putfield 178, 3) := by decide +kernel
theorem dX9_leave_29 : decode cX9_leave 29 = .ok (.iload_n 3, 1) := by decide +kernel
theorem dX9_leave_30 : decode cX9_leave 30 = .ok (.ifCond .eq 7, 3) := by decide +kernel
theorem dX9_leave_33 : decode cX9_leave 33 = .ok (.iconst 1, 1) := by decide +kernel
theorem dX9_leave_34 : decode cX9_leave 34 = .ok (.goto 4, 3) := by decide +kernel
theorem dX9_leave_37 : decode cX9_leave 37 = .ok (.iconst 0, 1) := by decide +kernel
theorem dX9_leave_38 : decode cX9_leave 38 = .ok (.ireturn, 1) := by decide +kernel
theorem dX9_call_0 : decode cX9_call 0 = .ok (.aload_n 0, 1) := by decide +kernel
theorem dX9_call_1 : decode cX9_call 1 = .ok (.getfield 10, 3) := by decide +kernel
theorem dX9_call_4 : decode cX9_call 4 = .ok (.iload_n 1, 1) := by decide +kernel
theorem dX9_call_5 : decode cX9_call 5 = .ok (.invokevirtual 169, 3) := by decide +kernel
theorem dX9_call_8 : decode cX9_call 8 = .ok (.astore_n 3, 1) := by decide +kernel
theorem dX9_call_9 : decode cX9_call 9 = .ok (.aload_n 3, 1) := by decide +kernel
theorem dX9_call_10 : decode cX9_call 10 = .ok (.ifnull 11, 3) := by decide +kernel
theorem dX9_call_13 : decode cX9_call 13 = .ok (.aload_n 3, 1) := by decide +kernel
theorem dX9_call_14 : decode cX9_call 14 = .ok (.getfield 182, 3) := by decide +kernel
theorem dX9_call_17 : decode cX9_call 17 = .ok (.iconst 3, 1) := by decide +kernel
theorem dX9_call_18 : decode cX9_call 18 = .ok (.if_icmp .eq 9, 3) := by decide +kernel
theorem dX9_call_21 : decode cX9_call 21 = .ok (.aload_n 0, 1) := by decide +kernel
theorem dX9_call_22 : decode cX9_call 22 = .ok (.iload_n 1, 1) := by decide +kernel
theorem dX9_call_23 : decode cX9_call 23 = .ok (.invokevirtual 116, 3) := by decide +kernel
theorem dX9_call_26 : decode cX9_call 26 = .ok (.ireturn, 1) := by decide +kernel
theorem dX9_call_27 : decode cX9_call 27 = .ok (.aload_n 3, 1) := by decide +kernel
theorem dX9_call_28 : decode cX9_call 28 = .ok (.iload_n 2, 1) := by decide +kernel
theorem dX9_call_29 : decode cX9_call 29 = .ok (.putfield 183, 3) := by decide +kernel
theorem dX9_call_32 : decode cX9_call 32 = .ok (.iconst 1, 1) := by decide +kernel
theorem dX9_call_33 : decode cX9_call 33 = .ok (.ireturn, 1) := by decide +kernel
theorem dX9_steer_0 : decode cX9_steer 0 = .ok (.aload_n 0, 1) := by decide +kernel
theorem dX9_steer_1 : decode cX9_steer 1 = .ok (.getfield 10, 3) := by decide +kernel
theorem dX9_steer_4 : decode cX9_steer 4 = .ok (.iload_n 1, 1) := by decide +kernel
theorem dX9_steer_5 : decode cX9_steer 5 = .ok (.invokevirtual 169, 3) := by decide +kernel
theorem dX9_steer_8 : decode cX9_steer 8 = .ok (.astore_n 3, 1) := by decide +kernel
theorem dX9_steer_9 : decode cX9_steer 9 = .ok (.aload_n 3, 1) := by decide +kernel
theorem dX9_steer_10 : decode cX9_steer 10 = .ok (.ifnull 10, 3) := by decide +kernel
theorem dX9_steer_13 : decode cX9_steer 13 = .ok (.aload_n 3, 1) := by decide +kernel
theorem dX9_steer_14 : decode cX9_steer 14 = .ok (.invokevirtual 186, 3) := by decide +kernel
theorem dX9_steer_17 : decode cX9_steer 17 = .ok (.ifCond .ne 9, 3) := by decide +kernel
theorem dX9_steer_20 : decode cX9_steer 20 = .ok (.aload_n 0, 1) := by decide +kernel
theorem dX9_steer_21 : decode cX9_steer 21 = .ok (.iload_n 1, 1) := by decide +kernel
theorem dX9_steer_22 : decode cX9_steer 22 = .ok (.invokevirtual 116, 3) := by decide +kernel
theorem dX9_steer_25 : decode cX9_steer 25 = .ok (.ireturn, 1) := by decide +kernel
theorem dX9_steer_26 : decode cX9_steer 26 = .ok (.iload_n 2, 1) := by decide +kernel
theorem dX9_steer_27 : decode cX9_steer 27 = .ok (.sipush 10000, 3) := by decide +kernel
theorem dX9_steer_30 : decode cX9_steer 30 = .ok (.invokestatic 119, 3) := by decide +kernel
theorem dX9_steer_33 : decode cX9_steer 33 = .ok (.ifCond .eq 17, 3) := by decide +kernel
theorem dX9_steer_36 : decode cX9_steer 36 = .ok (.aload_n 3, 1) := by decide +kernel
theorem dX9_steer_37 : decode cX9_steer 37 = .ok (.getfield 190, 3) := by decide +kernel
theorem dX9_steer_40 : decode cX9_steer 40 = .ok (.iload_n 2, 1) := by decide +kernel
theorem dX9_steer_41 : decode cX9_steer 41 = .ok (.iadd, 1) := by decide +kernel
theorem dX9_steer_42 : decode cX9_steer 42 = .ok (.ldc 193, 2) := by decide +kernel
theorem dX9_steer_44 : decode cX9_steer 44 = .ok (.invokestatic 119, 3) := by decide +kernel
theorem dX9_steer_47 : decode cX9_steer 47 = .ok (.ifCond .ne 6, 3) := by decide +kernel
theorem dX9_steer_50 : decode cX9_steer 50 = .ok (.ldc 148, 2) := by decide +kernel
theorem dX9_steer_52 : decode cX9_steer 52 = .ok (.ireturn, 1) := by decide +kernel
theorem dX9_steer_53 : decode cX9_steer 53 = .ok (.aload_n 3, 1) := by decide +kernel
theorem dX9_steer_54 : decode cX9_steer 54 = .ok (.dup, 1) := by decide +kernel
theorem dX9_steer_55 : decode cX9_steer 55 = .ok (.getfield 190, 3) := by decide +kernel
theorem dX9_steer_58 : decode cX9_steer 58 = .ok (.iload_n 2, 1) := by decide +kernel
theorem dX9_steer_59 : decode cX9_steer 59 = .ok (.iadd, 1) := by decide +kernel
theorem dX9_steer_60 : decode cX9_steer 60 = .ok (.putfield 190, 3) := by decide +kernel
theorem dX9_steer_63 : decode cX9_steer 63 = .ok (.aload_n 3, 1) := by decide +kernel
theorem dX9_steer_64 : decode cX9_steer 64 = .ok (.getfield 190, 3) := by decide +kernel
theorem dX9_steer_67 : decode cX9_steer 67 = .ok (.ireturn, 1) := by decide +kernel
theorem dX9_set_0 : decode cX9_set 0 = .ok (.iload_n 1, 1) := by decide +kernel
theorem dX9_set_1 : decode cX9_set 1 = .ok (.ifCond .ne 22, 3) := by decide +kernel
theorem dX9_set_4 : decode cX9_set 4 = .ok (.iload_n 2, 1) := by decide +kernel
theorem dX9_set_5 : decode cX9_set 5 = .ok (.iconst 1, 1) := by decide +kernel
theorem dX9_set_6 : decode cX9_set 6 = .ok (.if_icmp .lt 17, 3) := by decide +kernel
theorem dX9_set_9 : decode cX9_set 9 = .ok (.iload_n 2, 1) := by decide +kernel
theorem dX9_set_10 : decode cX9_set 10 = .ok (.bipush 100, 2) := by decide +kernel
theorem dX9_set_12 : decode cX9_set 12 = .ok (.if_icmp .gt 11, 3) := by decide +kernel
theorem dX9_set_15 : decode cX9_set 15 = .ok (.aload_n 0, 1) := by decide +kernel
theorem dX9_set_16 : decode cX9_set 16 = .ok (.iload_n 2, 1) := by decide +kernel
theorem dX9_set_17 : decode cX9_set 17 = .ok (.putfield 68, 3) := by decide +kernel
theorem dX9_set_20 : decode cX9_set 20 = .ok (.goto 53, 3) := by decide +kernel
theorem dX9_set_23 : decode cX9_set 23 = .ok (.iload_n 1, 1) := by decide +kernel
theorem dX9_set_24 : decode cX9_set 24 = .ok (.iconst 1, 1) := by decide +kernel
theorem dX9_set_25 : decode cX9_set 25 = .ok (.if_icmp .ne 22, 3) := by decide +kernel
theorem dX9_set_28 : decode cX9_set 28 = .ok (.iload_n 2, 1) := by decide +kernel
theorem dX9_set_29 : decode cX9_set 29 = .ok (.iconst 2, 1) := by decide +kernel
theorem dX9_set_30 : decode cX9_set 30 = .ok (.if_icmp .lt 17, 3) := by decide +kernel
theorem dX9_set_33 : decode cX9_set 33 = .ok (.iload_n 2, 1) := by decide +kernel
theorem dX9_set_34 : decode cX9_set 34 = .ok (.bipush 20, 2) := by decide +kernel
theorem dX9_set_36 : decode cX9_set 36 = .ok (.if_icmp .gt 11, 3) := by decide +kernel
theorem dX9_set_39 : decode cX9_set 39 = .ok (.aload_n 0, 1) := by decide +kernel
theorem dX9_set_40 : decode cX9_set 40 = .ok (.iload_n 2, 1) := by decide +kernel
theorem dX9_set_41 : decode cX9_set 41 = .ok (.putfield 71, 3) := by decide +kernel
theorem dX9_set_44 : decode cX9_set 44 = .ok (.goto 29, 3) := by decide +kernel
theorem dX9_set_47 : decode cX9_set 47 = .ok (.iload_n 1, 1) := by decide +kernel
theorem dX9_set_48 : decode cX9_set 48 = .ok (.iconst 2, 1) := by decide +kernel
theorem dX9_set_49 : decode cX9_set 49 = .ok (.if_icmp .ne 22, 3) := by decide +kernel
theorem dX9_set_52 : decode cX9_set 52 = .ok (.iload_n 2, 1) := by decide +kernel
theorem dX9_set_53 : decode cX9_set 53 = .ok (.ifCond .lt 18, 3) := by decide +kernel
theorem dX9_set_56 : decode cX9_set 56 = .ok (.iload_n 2, 1) := by decide +kernel
theorem dX9_set_57 : decode cX9_set 57 = .ok (.sipush 3599, 3) := by decide +kernel
theorem dX9_set_60 : decode cX9_set 60 = .ok (.if_icmp .gt 11, 3) := by decide +kernel
theorem dX9_set_63 : decode cX9_set 63 = .ok (.aload_n 0, 1) := by decide +kernel
theorem dX9_set_64 : decode cX9_set 64 = .ok (.iload_n 2, 1) := by decide +kernel
theorem dX9_set_65 : decode cX9_set 65 = .ok (.putfield 74, 3) := by decide +kernel
theorem dX9_set_68 : decode cX9_set 68 = .ok (.goto 5, 3) := by decide +kernel
theorem dX9_set_71 : decode cX9_set 71 = .ok (.iconst 0, 1) := by decide +kernel
theorem dX9_set_72 : decode cX9_set 72 = .ok (.ireturn, 1) := by decide +kernel
theorem dX9_set_73 : decode cX9_set 73 = .ok (.iconst 1, 1) := by decide +kernel
theorem dX9_set_74 : decode cX9_set 74 = .ok (.ireturn, 1) := by decide +kernel
theorem dX9_close_0 : decode cX9_close 0 = .ok (.aload_n 0, 1) := by decide +kernel
theorem dX9_close_1 : decode cX9_close 1 = .ok (.getfield 65, 3) := by decide +kernel
theorem dX9_close_4 : decode cX9_close 4 = .ok (.sipush 200, 3) := by decide +kernel
theorem dX9_close_7 : decode cX9_close 7 = .ok (.if_icmp .lt 5, 3) := by decide +kernel
theorem dX9_close_10 : decode cX9_close 10 = .ok (.iconst (-1), 1) := by decide +kernel
theorem dX9_close_11 : decode cX9_close 11 = .ok (.ireturn, 1) := by decide +kernel
theorem dX9_close_12 : decode cX9_close 12 = .ok (.aload_n 0, 1) := by decide +kernel
theorem dX9_close_13 : decode cX9_close 13 = .ok (.getfield 53, 3) := by decide +kernel
theorem dX9_close_16 : decode cX9_close 16 = .ok (.aload_n 0, 1) := by decide +kernel
theorem dX9_close_17 : decode cX9_close 17 = .ok (.getfield 65, 3) := by decide +kernel
theorem dX9_close_20 : decode cX9_close 20 = .ok (.aload_n 0, 1) := by decide +kernel
theorem dX9_close_21 : decode cX9_close 21 = .ok (.getfield 68, 3) := by decide +kernel
theorem dX9_close_24 : decode cX9_close 24 = .ok (.aload_n 0, 1) := by decide +kernel
theorem dX9_close_25 : decode cX9_close 25 = .ok (.getfield 71, 3) := by decide +kernel
theorem dX9_close_28 : decode cX9_close 28 = .ok (.invokevirtual 194, 3) := by decide +kernel
theorem dX9_close_31 : decode cX9_close 31 = .ok (.istore_n 1, 1) := by decide +kernel
theorem dX9_close_32 : decode cX9_close 32 = .ok (.aload_n 0, 1) := by decide +kernel
theorem dX9_close_33 : decode cX9_close 33 = .ok (.invokevirtual 197, 3) := by decide +kernel
theorem dX9_close_36 : decode cX9_close 36 = .ok (.iload_n 1, 1) := by decide +kernel
theorem dX9_close_37 : decode cX9_close 37 = .ok (.ifCond .le 19, 3) := by decide +kernel
theorem dX9_close_40 : decode cX9_close 40 = .ok (.aload_n 0, 1) := by decide +kernel
theorem dX9_close_41 : decode cX9_close 41 = .ok (.getfield 19, 3) := by decide +kernel
theorem dX9_close_44 : decode cX9_close 44 = .ok (.iconst 4, 1) := by decide +kernel
theorem dX9_close_45 : decode cX9_close 45 = .ok (.aload_n 0, 1) := by decide +kernel
theorem dX9_close_46 : decode cX9_close 46 = .ok (.getfield 65, 3) := by decide +kernel
theorem dX9_close_49 : decode cX9_close 49 = .ok (.aload_n 0, 1) := by decide +kernel
theorem dX9_close_50 : decode cX9_close 50 = .ok (.getfield 77, 3) := by decide +kernel
theorem dX9_close_53 : decode cX9_close 53 = .ok (.invokevirtual 200, 3) := by decide +kernel
theorem dX9_close_56 : decode cX9_close 56 = .ok (.aload_n 0, 1) := by decide +kernel
theorem dX9_close_57 : decode cX9_close 57 = .ok (.dup, 1) := by decide +kernel
theorem dX9_close_58 : decode cX9_close 58 = .ok (.getfield 65, 3) := by decide +kernel
theorem dX9_close_61 : decode cX9_close 61 = .ok (.iconst 1, 1) := by decide +kernel
theorem dX9_close_62 : decode cX9_close 62 = .ok (.iadd, 1) := by decide +kernel
theorem dX9_close_63 : decode cX9_close 63 = .ok (.putfield 65, 3) := by decide +kernel
theorem dX9_close_66 : decode cX9_close 66 = .ok (.iload_n 1, 1) := by decide +kernel
theorem dX9_close_67 : decode cX9_close 67 = .ok (.ireturn, 1) := by decide +kernel
theorem dX9_hour_0 : decode cX9_hour 0 = .ok (.aload_n 0, 1) := by decide +kernel
theorem dX9_hour_1 : decode cX9_hour 1 = .ok (.getfield 65, 3) := by decide +kernel
theorem dX9_hour_4 : decode cX9_hour 4 = .ok (.ireturn, 1) := by decide +kernel
theorem dX9_clock_0 : decode cX9_clock 0 = .ok (.aload_n 0, 1) := by decide +kernel
theorem dX9_clock_1 : decode cX9_clock 1 = .ok (.getfield 10, 3) := by decide +kernel
theorem dX9_clock_4 : decode cX9_clock 4 = .ok (.iload_n 1, 1) := by decide +kernel
theorem dX9_clock_5 : decode cX9_clock 5 = .ok (.invokevirtual 169, 3) := by decide +kernel
theorem dX9_clock_8 : decode cX9_clock 8 = .ok (.astore_n 3, 1) := by decide +kernel
theorem dX9_clock_9 : decode cX9_clock 9 = .ok (.aload_n 3, 1) := by decide +kernel
theorem dX9_clock_10 : decode cX9_clock 10 = .ok (.ifnonnull 9, 3) := by decide +kernel
theorem dX9_clock_13 : decode cX9_clock 13 = .ok (.aload_n 0, 1) := by decide +kernel
theorem dX9_clock_14 : decode cX9_clock 14 = .ok (.iload_n 1, 1) := by decide +kernel
theorem dX9_clock_15 : decode cX9_clock 15 = .ok (.invokevirtual 116, 3) := by decide +kernel
theorem dX9_clock_18 : decode cX9_clock 18 = .ok (.ireturn, 1) := by decide +kernel
theorem dX9_clock_19 : decode cX9_clock 19 = .ok (.iload_n 2, 1) := by decide +kernel
theorem dX9_clock_20 : decode cX9_clock 20 = .ok (.tableswitch 135 0 8 #[52, 65, 78, 97, 110, 115, 120, 125, 130], 52) := by decide +kernel
theorem dX9_clock_72 : decode cX9_clock 72 = .ok (.aload_n 3, 1) := by decide +kernel
theorem dX9_clock_73 : decode cX9_clock 73 = .ok (.invokevirtual 204, 3) := by decide +kernel
theorem dX9_clock_76 : decode cX9_clock 76 = .ok (.ifCond .eq 7, 3) := by decide +kernel
theorem dX9_clock_79 : decode cX9_clock 79 = .ok (.iconst 1, 1) := by decide +kernel
theorem dX9_clock_80 : decode cX9_clock 80 = .ok (.goto 4, 3) := by decide +kernel
theorem dX9_clock_83 : decode cX9_clock 83 = .ok (.iconst 0, 1) := by decide +kernel
theorem dX9_clock_84 : decode cX9_clock 84 = .ok (.ireturn, 1) := by decide +kernel
theorem dX9_clock_85 : decode cX9_clock 85 = .ok (.aload_n 3, 1) := by decide +kernel
theorem dX9_clock_86 : decode cX9_clock 86 = .ok (.getfield 207, 3) := by decide +kernel
theorem dX9_clock_89 : decode cX9_clock 89 = .ok (.ifCond .eq 7, 3) := by decide +kernel
theorem dX9_clock_92 : decode cX9_clock 92 = .ok (.iconst 1, 1) := by decide +kernel
theorem dX9_clock_93 : decode cX9_clock 93 = .ok (.goto 4, 3) := by decide +kernel
theorem dX9_clock_96 : decode cX9_clock 96 = .ok (.iconst 0, 1) := by decide +kernel
theorem dX9_clock_97 : decode cX9_clock 97 = .ok (.ireturn, 1) := by decide +kernel
theorem dX9_clock_98 : decode cX9_clock 98 = .ok (.aload_n 3, 1) := by decide +kernel
theorem dX9_clock_99 : decode cX9_clock 99 = .ok (.getfield 210, 3) := by decide +kernel
theorem dX9_clock_102 : decode cX9_clock 102 = .ok (.aload_n 0, 1) := by decide +kernel
theorem dX9_clock_103 : decode cX9_clock 103 = .ok (.getfield 65, 3) := by decide +kernel
theorem dX9_clock_106 : decode cX9_clock 106 = .ok (.iconst 1, 1) := by decide +kernel
theorem dX9_clock_107 : decode cX9_clock 107 = .ok (.isub, 1) := by decide +kernel
theorem dX9_clock_108 : decode cX9_clock 108 = .ok (.if_icmp .ne 7, 3) := by decide +kernel
theorem dX9_clock_111 : decode cX9_clock 111 = .ok (.iconst 1, 1) := by decide +kernel
theorem dX9_clock_112 : decode cX9_clock 112 = .ok (.goto 4, 3) := by decide +kernel
theorem dX9_clock_115 : decode cX9_clock 115 = .ok (.iconst 0, 1) := by decide +kernel
theorem dX9_clock_116 : decode cX9_clock 116 = .ok (.ireturn, 1) := by decide +kernel
theorem dX9_clock_117 : decode cX9_clock 117 = .ok (.aload_n 0, 1) := by decide +kernel
theorem dX9_clock_118 : decode cX9_clock 118 = .ok (.getfield 44, 3) := by decide +kernel
theorem dX9_clock_121 : decode cX9_clock 121 = .ok (.aload_n 3, 1) := by decide +kernel
theorem dX9_clock_122 : decode cX9_clock 122 = .ok (.aload_n 0, 1) := by decide +kernel
theorem dX9_clock_123 : decode cX9_clock 123 = .ok (.getfield 65, 3) := by decide +kernel
theorem dX9_clock_126 : decode cX9_clock 126 = .ok (.invokevirtual 213, 3) := by decide +kernel
theorem dX9_clock_129 : decode cX9_clock 129 = .ok (.ireturn, 1) := by decide +kernel
theorem dX9_clock_130 : decode cX9_clock 130 = .ok (.aload_n 3, 1) := by decide +kernel
theorem dX9_clock_131 : decode cX9_clock 131 = .ok (.getfield 190, 3) := by decide +kernel
theorem dX9_clock_134 : decode cX9_clock 134 = .ok (.ireturn, 1) := by decide +kernel
theorem dX9_clock_135 : decode cX9_clock 135 = .ok (.aload_n 3, 1) := by decide +kernel
theorem dX9_clock_136 : decode cX9_clock 136 = .ok (.getfield 217, 3) := by decide +kernel
theorem dX9_clock_139 : decode cX9_clock 139 = .ok (.ireturn, 1) := by decide +kernel
theorem dX9_clock_140 : decode cX9_clock 140 = .ok (.aload_n 3, 1) := by decide +kernel
theorem dX9_clock_141 : decode cX9_clock 141 = .ok (.getfield 220, 3) := by decide +kernel
theorem dX9_clock_144 : decode cX9_clock 144 = .ok (.ireturn, 1) := by decide +kernel
theorem dX9_clock_145 : decode cX9_clock 145 = .ok (.aload_n 3, 1) := by decide +kernel
theorem dX9_clock_146 : decode cX9_clock 146 = .ok (.getfield 223, 3) := by decide +kernel
theorem dX9_clock_149 : decode cX9_clock 149 = .ok (.ireturn, 1) := by decide +kernel
theorem dX9_clock_150 : decode cX9_clock 150 = .ok (.aload_n 3, 1) := by decide +kernel
theorem dX9_clock_151 : decode cX9_clock 151 = .ok (.getfield 225, 3) := by decide +kernel
theorem dX9_clock_154 : decode cX9_clock 154 = .ok (.ireturn, 1) := by decide +kernel
theorem dX9_clock_155 : decode cX9_clock 155 = .ok (.iconst (-1), 1) := by decide +kernel
theorem dX9_clock_156 : decode cX9_clock 156 = .ok (.ireturn, 1) := by decide +kernel
theorem dX9_foretell_0 : decode cX9_foretell 0 = .ok (.aload_n 0, 1) := by decide +kernel
theorem dX9_foretell_1 : decode cX9_foretell 1 = .ok (.getfield 10, 3) := by decide +kernel
theorem dX9_foretell_4 : decode cX9_foretell 4 = .ok (.iload_n 1, 1) := by decide +kernel
theorem dX9_foretell_5 : decode cX9_foretell 5 = .ok (.invokevirtual 169, 3) := by decide +kernel
theorem dX9_foretell_8 : decode cX9_foretell 8 = .ok (.astore_n 2, 1) := by decide +kernel
theorem dX9_foretell_9 : decode cX9_foretell 9 = .ok (.aload_n 2, 1) := by decide +kernel
theorem dX9_foretell_10 : decode cX9_foretell 10 = .ok (.ifnonnull 11, 3) := by decide +kernel
theorem dX9_foretell_13 : decode cX9_foretell 13 = .ok (.aload_n 0, 1) := by decide +kernel
theorem dX9_foretell_14 : decode cX9_foretell 14 = .ok (.iload_n 1, 1) := by decide +kernel
theorem dX9_foretell_15 : decode cX9_foretell 15 = .ok (.invokevirtual 116, 3) := by decide +kernel
theorem dX9_foretell_18 : decode cX9_foretell 18 = .ok (.goto 15, 3) := by decide +kernel
theorem dX9_foretell_21 : decode cX9_foretell 21 = .ok (.aload_n 0, 1) := by decide +kernel
theorem dX9_foretell_22 : decode cX9_foretell 22 = .ok (.getfield 44, 3) := by decide +kernel
theorem dX9_foretell_25 : decode cX9_foretell 25 = .ok (.aload_n 2, 1) := by decide +kernel
theorem dX9_foretell_26 : decode cX9_foretell 26 = .ok (.aload_n 0, 1) := by decide +kernel
theorem dX9_foretell_27 : decode cX9_foretell 27 = .ok (.getfield 65, 3) := by decide +kernel
theorem dX9_foretell_30 : decode cX9_foretell 30 = .ok (.invokevirtual 228, 3) := by decide +kernel
theorem dX9_foretell_33 : decode cX9_foretell 33 = .ok (.ireturn, 1) := by decide +kernel
theorem dX9_slope_0 : decode cX9_slope 0 = .ok (.aload_n 0, 1) := by decide +kernel
theorem dX9_slope_1 : decode cX9_slope 1 = .ok (.getfield 10, 3) := by decide +kernel
theorem dX9_slope_4 : decode cX9_slope 4 = .ok (.iload_n 1, 1) := by decide +kernel
theorem dX9_slope_5 : decode cX9_slope 5 = .ok (.invokevirtual 169, 3) := by decide +kernel
theorem dX9_slope_8 : decode cX9_slope 8 = .ok (.astore_n 3, 1) := by decide +kernel
theorem dX9_slope_9 : decode cX9_slope 9 = .ok (.aload_n 3, 1) := by decide +kernel
theorem dX9_slope_10 : decode cX9_slope 10 = .ok (.ifnonnull 9, 3) := by decide +kernel
theorem dX9_slope_13 : decode cX9_slope 13 = .ok (.aload_n 0, 1) := by decide +kernel
theorem dX9_slope_14 : decode cX9_slope 14 = .ok (.iload_n 1, 1) := by decide +kernel
theorem dX9_slope_15 : decode cX9_slope 15 = .ok (.invokevirtual 116, 3) := by decide +kernel
theorem dX9_slope_18 : decode cX9_slope 18 = .ok (.ireturn, 1) := by decide +kernel
theorem dX9_slope_19 : decode cX9_slope 19 = .ok (.iload_n 2, 1) := by decide +kernel
theorem dX9_slope_20 : decode cX9_slope 20 = .ok (.ifCond .eq 10, 3) := by decide +kernel
theorem dX9_slope_23 : decode cX9_slope 23 = .ok (.iload_n 2, 1) := by decide +kernel
theorem dX9_slope_24 : decode cX9_slope 24 = .ok (.iconst 1, 1) := by decide +kernel
theorem dX9_slope_25 : decode cX9_slope 25 = .ok (.if_icmp .eq 5, 3) := by decide +kernel
theorem dX9_slope_28 : decode cX9_slope 28 = .ok (.iconst (-1), 1) := by decide +kernel
theorem dX9_slope_29 : decode cX9_slope 29 = .ok (.ireturn, 1) := by decide +kernel
theorem dX9_slope_30 : decode cX9_slope 30 = .ok (.aload_n 0, 1) := by decide +kernel
theorem dX9_slope_31 : decode cX9_slope 31 = .ok (.getfield 44, 3) := by decide +kernel
theorem dX9_slope_34 : decode cX9_slope 34 = .ok (.aload_n 3, 1) := by decide +kernel
theorem dX9_slope_35 : decode cX9_slope 35 = .ok (.aload_n 0, 1) := by decide +kernel
theorem dX9_slope_36 : decode cX9_slope 36 = .ok (.getfield 65, 3) := by decide +kernel
theorem dX9_slope_39 : decode cX9_slope 39 = .ok (.invokevirtual 231, 3) := by decide +kernel
theorem dX9_slope_42 : decode cX9_slope 42 = .ok (.astore 4, 2) := by decide +kernel
theorem dX9_slope_44 : decode cX9_slope 44 = .ok (.aload 4, 2) := by decide +kernel
theorem dX9_slope_46 : decode cX9_slope 46 = .ok (.invokevirtual 235, 3) := by decide +kernel
theorem dX9_slope_49 : decode cX9_slope 49 = .ok (.ifCond .ne 6, 3) := by decide +kernel
theorem dX9_slope_52 : decode cX9_slope 52 = .ok (.ldc 240, 2) := by decide +kernel
theorem dX9_slope_54 : decode cX9_slope 54 = .ok (.ireturn, 1) := by decide +kernel
theorem dX9_slope_55 : decode cX9_slope 55 = .ok (.iload_n 2, 1) := by decide +kernel
theorem dX9_slope_56 : decode cX9_slope 56 = .ok (.ifCond .ne 11, 3) := by decide +kernel
theorem dX9_slope_59 : decode cX9_slope 59 = .ok (.aload 4, 2) := by decide +kernel
theorem dX9_slope_61 : decode cX9_slope 61 = .ok (.invokevirtual 241, 3) := by decide +kernel
theorem dX9_slope_64 : decode cX9_slope 64 = .ok (.goto 8, 3) := by decide +kernel
theorem dX9_slope_67 : decode cX9_slope 67 = .ok (.aload 4, 2) := by decide +kernel
theorem dX9_slope_69 : decode cX9_slope 69 = .ok (.invokevirtual 245, 3) := by decide +kernel
theorem dX9_slope_72 : decode cX9_slope 72 = .ok (.lstore 5, 2) := by decide +kernel
theorem dX9_slope_74 : decode cX9_slope 74 = .ok (.lload 5, 2) := by decide +kernel
theorem dX9_slope_76 : decode cX9_slope 76 = .ok (.ldc 248, 2) := by decide +kernel
theorem dX9_slope_78 : decode cX9_slope 78 = .ok (.invokestatic 249, 3) := by decide +kernel
theorem dX9_slope_81 : decode cX9_slope 81 = .ok (.ireturn, 1) := by decide +kernel
theorem dX9_weight_0 : decode cX9_weight 0 = .ok (.aload_n 0, 1) := by decide +kernel
theorem dX9_weight_1 : decode cX9_weight 1 = .ok (.getfield 10, 3) := by decide +kernel
theorem dX9_weight_4 : decode cX9_weight 4 = .ok (.iload_n 1, 1) := by decide +kernel
theorem dX9_weight_5 : decode cX9_weight 5 = .ok (.invokevirtual 169, 3) := by decide +kernel
theorem dX9_weight_8 : decode cX9_weight 8 = .ok (.astore_n 2, 1) := by decide +kernel
theorem dX9_weight_9 : decode cX9_weight 9 = .ok (.aload_n 2, 1) := by decide +kernel
theorem dX9_weight_10 : decode cX9_weight 10 = .ok (.ifnonnull 9, 3) := by decide +kernel
theorem dX9_weight_13 : decode cX9_weight 13 = .ok (.aload_n 0, 1) := by decide +kernel
theorem dX9_weight_14 : decode cX9_weight 14 = .ok (.iload_n 1, 1) := by decide +kernel
theorem dX9_weight_15 : decode cX9_weight 15 = .ok (.invokevirtual 116, 3) := by decide +kernel
theorem dX9_weight_18 : decode cX9_weight 18 = .ok (.ireturn, 1) := by decide +kernel
theorem dX9_weight_19 : decode cX9_weight 19 = .ok (.aload_n 0, 1) := by decide +kernel
theorem dX9_weight_20 : decode cX9_weight 20 = .ok (.getfield 44, 3) := by decide +kernel
theorem dX9_weight_23 : decode cX9_weight 23 = .ok (.aload_n 2, 1) := by decide +kernel
theorem dX9_weight_24 : decode cX9_weight 24 = .ok (.aload_n 0, 1) := by decide +kernel
theorem dX9_weight_25 : decode cX9_weight 25 = .ok (.getfield 65, 3) := by decide +kernel
theorem dX9_weight_28 : decode cX9_weight 28 = .ok (.aload_n 0, 1) := by decide +kernel
theorem dX9_weight_29 : decode cX9_weight 29 = .ok (.getfield 44, 3) := by decide +kernel
theorem dX9_weight_32 : decode cX9_weight 32 = .ok (.aload_n 2, 1) := by decide +kernel
theorem dX9_weight_33 : decode cX9_weight 33 = .ok (.aload_n 0, 1) := by decide +kernel
theorem dX9_weight_34 : decode cX9_weight 34 = .ok (.getfield 65, 3) := by decide +kernel
theorem dX9_weight_37 : decode cX9_weight 37 = .ok (.invokevirtual 228, 3) := by decide +kernel
theorem dX9_weight_40 : decode cX9_weight 40 = .ok (.invokevirtual 253, 3) := by decide +kernel
theorem dX9_weight_43 : decode cX9_weight 43 = .ok (.ireturn, 1) := by decide +kernel
theorem dX9_as_0 : decode cX9_as 0 = .ok (.iload_n 3, 1) := by decide +kernel
theorem dX9_as_1 : decode cX9_as 1 = .ok (.ifCond .lt 8, 3) := by decide +kernel
theorem dX9_as_4 : decode cX9_as 4 = .ok (.iload_n 3, 1) := by decide +kernel
theorem dX9_as_5 : decode cX9_as 5 = .ok (.iconst 5, 1) := by decide +kernel
theorem dX9_as_6 : decode cX9_as 6 = .ok (.if_icmp .lt 5, 3) := by decide +kernel
theorem dX9_as_9 : decode cX9_as 9 = .ok (.iconst (-1), 1) := by decide +kernel
theorem dX9_as_10 : decode cX9_as 10 = .ok (.ireturn, 1) := by decide +kernel
theorem dX9_as_11 : decode cX9_as 11 = .ok (.iload_n 1, 1) := by decide +kernel
theorem dX9_as_12 : decode cX9_as 12 = .ok (.ifCond .lt 18, 3) := by decide +kernel
theorem dX9_as_15 : decode cX9_as 15 = .ok (.iload_n 1, 1) := by decide +kernel
theorem dX9_as_16 : decode cX9_as 16 = .ok (.aload_n 0, 1) := by decide +kernel
theorem dX9_as_17 : decode cX9_as 17 = .ok (.getfield 65, 3) := by decide +kernel
theorem dX9_as_20 : decode cX9_as 20 = .ok (.if_icmp .ge 10, 3) := by decide +kernel
theorem dX9_as_23 : decode cX9_as 23 = .ok (.iload_n 2, 1) := by decide +kernel
theorem dX9_as_24 : decode cX9_as 24 = .ok (.invokestatic 80, 3) := by decide +kernel
theorem dX9_as_27 : decode cX9_as 27 = .ok (.ifCond .ne 8, 3) := by decide +kernel
theorem dX9_as_30 : decode cX9_as 30 = .ok (.ldc 240, 2) := by decide +kernel
theorem dX9_as_32 : decode cX9_as 32 = .ok (.goto 13, 3) := by decide +kernel
theorem dX9_as_35 : decode cX9_as 35 = .ok (.aload_n 0, 1) := by decide +kernel
theorem dX9_as_36 : decode cX9_as 36 = .ok (.getfield 19, 3) := by decide +kernel
theorem dX9_as_39 : decode cX9_as 39 = .ok (.iload_n 3, 1) := by decide +kernel
theorem dX9_as_40 : decode cX9_as 40 = .ok (.iload_n 1, 1) := by decide +kernel
theorem dX9_as_41 : decode cX9_as 41 = .ok (.iload_n 2, 1) := by decide +kernel
theorem dX9_as_42 : decode cX9_as 42 = .ok (.invokevirtual 257, 3) := by decide +kernel
theorem dX9_as_45 : decode cX9_as 45 = .ok (.ireturn, 1) := by decide +kernel
theorem dX9_paper_0 : decode cX9_paper 0 = .ok (.aload_n 0, 1) := by decide +kernel
theorem dX9_paper_1 : decode cX9_paper 1 = .ok (.getfield 19, 3) := by decide +kernel
theorem dX9_paper_4 : decode cX9_paper 4 = .ok (.iload_n 2, 1) := by decide +kernel
theorem dX9_paper_5 : decode cX9_paper 5 = .ok (.iload_n 1, 1) := by decide +kernel
theorem dX9_paper_6 : decode cX9_paper 6 = .ok (.invokevirtual 260, 3) := by decide +kernel
theorem dX9_paper_9 : decode cX9_paper 9 = .ok (.ireturn, 1) := by decide +kernel
theorem dX9_step_0 : decode cX9_step 0 = .ok (.aload_n 0, 1) := by decide +kernel
theorem dX9_step_1 : decode cX9_step 1 = .ok (.getfield 26, 3) := by decide +kernel
theorem dX9_step_4 : decode cX9_step 4 = .ok (.iload_n 1, 1) := by decide +kernel
theorem dX9_step_5 : decode cX9_step 5 = .ok (.iload_n 2, 1) := by decide +kernel
theorem dX9_step_6 : decode cX9_step 6 = .ok (.invokevirtual 263, 3) := by decide +kernel
theorem dX9_step_9 : decode cX9_step 9 = .ok (.ireturn, 1) := by decide +kernel
theorem dX9_show_0 : decode cX9_show 0 = .ok (.iload_n 1, 1) := by decide +kernel
theorem dX9_show_1 : decode cX9_show 1 = .ok (.ldc 148, 2) := by decide +kernel
theorem dX9_show_3 : decode cX9_show 3 = .ok (.invokestatic 119, 3) := by decide +kernel
theorem dX9_show_6 : decode cX9_show 6 = .ok (.ifCond .ne 5, 3) := by decide +kernel
theorem dX9_show_9 : decode cX9_show 9 = .ok (.iconst 0, 1) := by decide +kernel
theorem dX9_show_10 : decode cX9_show 10 = .ok (.ireturn, 1) := by decide +kernel
theorem dX9_show_11 : decode cX9_show 11 = .ok (.aload_n 0, 1) := by decide +kernel
theorem dX9_show_12 : decode cX9_show 12 = .ok (.iload_n 1, 1) := by decide +kernel
theorem dX9_show_13 : decode cX9_show 13 = .ok (.putfield 77, 3) := by decide +kernel
theorem dX9_show_16 : decode cX9_show 16 = .ok (.iconst 1, 1) := by decide +kernel
theorem dX9_show_17 : decode cX9_show 17 = .ok (.ireturn, 1) := by decide +kernel
theorem dX9_off_0 : decode cX9_off 0 = .ok (.aload_n 0, 1) := by decide +kernel
theorem dX9_off_1 : decode cX9_off 1 = .ok (.getfield 77, 3) := by decide +kernel
theorem dX9_off_4 : decode cX9_off 4 = .ok (.ireturn, 1) := by decide +kernel
theorem dX9_ring_0 : decode cX9_ring 0 = .ok (.aload_n 0, 1) := by decide +kernel
theorem dX9_ring_1 : decode cX9_ring 1 = .ok (.iload 4, 2) := by decide +kernel
theorem dX9_ring_3 : decode cX9_ring 3 = .ok (.invokevirtual 142, 3) := by decide +kernel
theorem dX9_ring_6 : decode cX9_ring 6 = .ok (.ifCond .ne 6, 3) := by decide +kernel
theorem dX9_ring_9 : decode cX9_ring 9 = .ok (.ldc 148, 2) := by decide +kernel
theorem dX9_ring_11 : decode cX9_ring 11 = .ok (.ireturn, 1) := by decide +kernel
theorem dX9_ring_12 : decode cX9_ring 12 = .ok (.aload_n 0, 1) := by decide +kernel
theorem dX9_ring_13 : decode cX9_ring 13 = .ok (.getfield 10, 3) := by decide +kernel
theorem dX9_ring_16 : decode cX9_ring 16 = .ok (.iload_n 1, 1) := by decide +kernel
theorem dX9_ring_17 : decode cX9_ring 17 = .ok (.iload_n 2, 1) := by decide +kernel
theorem dX9_ring_18 : decode cX9_ring 18 = .ok (.iload 4, 2) := by decide +kernel
theorem dX9_ring_20 : decode cX9_ring 20 = .ok (.invokevirtual 266, 3) := by decide +kernel
theorem dX9_ring_23 : decode cX9_ring 23 = .ok (.istore 5, 2) := by decide +kernel
theorem dX9_ring_25 : decode cX9_ring 25 = .ok (.aload_n 0, 1) := by decide +kernel
theorem dX9_ring_26 : decode cX9_ring 26 = .ok (.getfield 10, 3) := by decide +kernel
theorem dX9_ring_29 : decode cX9_ring 29 = .ok (.iload_n 2, 1) := by decide +kernel
theorem dX9_ring_30 : decode cX9_ring 30 = .ok (.iload_n 3, 1) := by decide +kernel
theorem dX9_ring_31 : decode cX9_ring 31 = .ok (.iload 4, 2) := by decide +kernel
theorem dX9_ring_33 : decode cX9_ring 33 = .ok (.invokevirtual 266, 3) := by decide +kernel
theorem dX9_ring_36 : decode cX9_ring 36 = .ok (.istore 6, 2) := by decide +kernel
theorem dX9_ring_38 : decode cX9_ring 38 = .ok (.aload_n 0, 1) := by decide +kernel
theorem dX9_ring_39 : decode cX9_ring 39 = .ok (.getfield 10, 3) := by decide +kernel
theorem dX9_ring_42 : decode cX9_ring 42 = .ok (.iload_n 3, 1) := by decide +kernel
theorem dX9_ring_43 : decode cX9_ring 43 = .ok (.iload_n 1, 1) := by decide +kernel
theorem dX9_ring_44 : decode cX9_ring 44 = .ok (.iload 4, 2) := by decide +kernel
theorem dX9_ring_46 : decode cX9_ring 46 = .ok (.invokevirtual 266, 3) := by decide +kernel
theorem dX9_ring_49 : decode cX9_ring 49 = .ok (.istore 7, 2) := by decide +kernel
theorem dX9_ring_51 : decode cX9_ring 51 = .ok (.iload 5, 2) := by decide +kernel
theorem dX9_ring_53 : decode cX9_ring 53 = .ok (.ldc 148, 2) := by decide +kernel
theorem dX9_ring_55 : decode cX9_ring 55 = .ok (.if_icmp .eq 17, 3) := by decide +kernel
theorem dX9_ring_58 : decode cX9_ring 58 = .ok (.iload 6, 2) := by decide +kernel
theorem dX9_ring_60 : decode cX9_ring 60 = .ok (.ldc 148, 2) := by decide +kernel
theorem dX9_ring_62 : decode cX9_ring 62 = .ok (.if_icmp .eq 10, 3) := by decide +kernel
theorem dX9_ring_65 : decode cX9_ring 65 = .ok (.iload 7, 2) := by decide +kernel
theorem dX9_ring_67 : decode cX9_ring 67 = .ok (.ldc 148, 2) := by decide +kernel
theorem dX9_ring_69 : decode cX9_ring 69 = .ok (.if_icmp .ne 8, 3) := by decide +kernel
theorem dX9_ring_72 : decode cX9_ring 72 = .ok (.ldc 148, 2) := by decide +kernel
theorem dX9_ring_74 : decode cX9_ring 74 = .ok (.goto 11, 3) := by decide +kernel
theorem dX9_ring_77 : decode cX9_ring 77 = .ok (.iload 5, 2) := by decide +kernel
theorem dX9_ring_79 : decode cX9_ring 79 = .ok (.iload 6, 2) := by decide +kernel
theorem dX9_ring_81 : decode cX9_ring 81 = .ok (.iadd, 1) := by decide +kernel
theorem dX9_ring_82 : decode cX9_ring 82 = .ok (.iload 7, 2) := by decide +kernel
theorem dX9_ring_84 : decode cX9_ring 84 = .ok (.iadd, 1) := by decide +kernel
theorem dX9_ring_85 : decode cX9_ring 85 = .ok (.ireturn, 1) := by decide +kernel
theorem dX9_findWay_0 : decode cX9_findWay 0 = .ok (.aload_n 0, 1) := by decide +kernel
theorem dX9_findWay_1 : decode cX9_findWay 1 = .ok (.iload_n 3, 1) := by decide +kernel
theorem dX9_findWay_2 : decode cX9_findWay 2 = .ok (.invokevirtual 142, 3) := by decide +kernel
theorem dX9_findWay_5 : decode cX9_findWay 5 = .ok (.ifCond .ne 5, 3) := by decide +kernel
theorem dX9_findWay_8 : decode cX9_findWay 8 = .ok (.iconst (-1), 1) := by decide +kernel
theorem dX9_findWay_9 : decode cX9_findWay 9 = .ok (.ireturn, 1) := by decide +kernel
theorem dX9_findWay_10 : decode cX9_findWay 10 = .ok (.aload_n 0, 1) := by decide +kernel
theorem dX9_findWay_11 : decode cX9_findWay 11 = .ok (.getfield 35, 3) := by decide +kernel
theorem dX9_findWay_14 : decode cX9_findWay 14 = .ok (.iload_n 1, 1) := by decide +kernel
theorem dX9_findWay_15 : decode cX9_findWay 15 = .ok (.iload_n 2, 1) := by decide +kernel
theorem dX9_findWay_16 : decode cX9_findWay 16 = .ok (.invokestatic 269, 3) := by decide +kernel
theorem dX9_findWay_19 : decode cX9_findWay 19 = .ok (.iload_n 3, 1) := by decide +kernel
theorem dX9_findWay_20 : decode cX9_findWay 20 = .ok (.invokevirtual 272, 3) := by decide +kernel
theorem dX9_findWay_23 : decode cX9_findWay 23 = .ok (.aload_n 0, 1) := by decide +kernel
theorem dX9_findWay_24 : decode cX9_findWay 24 = .ok (.getfield 35, 3) := by decide +kernel
theorem dX9_findWay_27 : decode cX9_findWay 27 = .ok (.iload_n 1, 1) := by decide +kernel
theorem dX9_findWay_28 : decode cX9_findWay 28 = .ok (.iload_n 2, 1) := by decide +kernel
theorem dX9_findWay_29 : decode cX9_findWay 29 = .ok (.invokestatic 157, 3) := by decide +kernel
theorem dX9_findWay_32 : decode cX9_findWay 32 = .ok (.invokevirtual 275, 3) := by decide +kernel
theorem dX9_findWay_35 : decode cX9_findWay 35 = .ok (.ireturn, 1) := by decide +kernel
theorem dX9_moveScale_0 : decode cX9_moveScale 0 = .ok (.aload_n 0, 1) := by decide +kernel
theorem dX9_moveScale_1 : decode cX9_moveScale 1 = .ok (.getfield 77, 3) := by decide +kernel
theorem dX9_moveScale_4 : decode cX9_moveScale 4 = .ok (.ifCond .le 23, 3) := by decide +kernel
theorem dX9_moveScale_7 : decode cX9_moveScale 7 = .ok (.aload_n 0, 1) := by decide +kernel
theorem dX9_moveScale_8 : decode cX9_moveScale 8 = .ok (.iconst 0, 1) := by decide +kernel
theorem dX9_moveScale_9 : decode cX9_moveScale 9 = .ok (.aload_n 0, 1) := by decide +kernel
theorem dX9_moveScale_10 : decode cX9_moveScale 10 = .ok (.getfield 77, 3) := by decide +kernel
theorem dX9_moveScale_13 : decode cX9_moveScale 13 = .ok (.aload_n 0, 1) := by decide +kernel
theorem dX9_moveScale_14 : decode cX9_moveScale 14 = .ok (.getfield 74, 3) := by decide +kernel
theorem dX9_moveScale_17 : decode cX9_moveScale 17 = .ok (.isub, 1) := by decide +kernel
theorem dX9_moveScale_18 : decode cX9_moveScale 18 = .ok (.invokestatic 157, 3) := by decide +kernel
theorem dX9_moveScale_21 : decode cX9_moveScale 21 = .ok (.putfield 77, 3) := by decide +kernel
theorem dX9_moveScale_24 : decode cX9_moveScale 24 = .ok (.goto 20, 3) := by decide +kernel
theorem dX9_moveScale_27 : decode cX9_moveScale 27 = .ok (.aload_n 0, 1) := by decide +kernel
theorem dX9_moveScale_28 : decode cX9_moveScale 28 = .ok (.iconst 0, 1) := by decide +kernel
theorem dX9_moveScale_29 : decode cX9_moveScale 29 = .ok (.aload_n 0, 1) := by decide +kernel
theorem dX9_moveScale_30 : decode cX9_moveScale 30 = .ok (.getfield 77, 3) := by decide +kernel
theorem dX9_moveScale_33 : decode cX9_moveScale 33 = .ok (.aload_n 0, 1) := by decide +kernel
theorem dX9_moveScale_34 : decode cX9_moveScale 34 = .ok (.getfield 74, 3) := by decide +kernel
theorem dX9_moveScale_37 : decode cX9_moveScale 37 = .ok (.iadd, 1) := by decide +kernel
theorem dX9_moveScale_38 : decode cX9_moveScale 38 = .ok (.invokestatic 269, 3) := by decide +kernel
theorem dX9_moveScale_41 : decode cX9_moveScale 41 = .ok (.putfield 77, 3) := by decide +kernel
theorem dX9_moveScale_44 : decode cX9_moveScale 44 = .ok (.return_, 1) := by decide +kernel
theorem dX9_hasCome_0 : decode cX9_hasCome 0 = .ok (.iload_n 1, 1) := by decide +kernel
theorem dX9_hasCome_1 : decode cX9_hasCome 1 = .ok (.ifCond .lt 15, 3) := by decide +kernel
theorem dX9_hasCome_4 : decode cX9_hasCome 4 = .ok (.iload_n 1, 1) := by decide +kernel
theorem dX9_hasCome_5 : decode cX9_hasCome 5 = .ok (.aload_n 0, 1) := by decide +kernel
theorem dX9_hasCome_6 : decode cX9_hasCome 6 = .ok (.getfield 65, 3) := by decide +kernel
theorem dX9_hasCome_9 : decode cX9_hasCome 9 = .ok (.if_icmp .gt 7, 3) := by decide +kernel
theorem dX9_hasCome_12 : decode cX9_hasCome 12 = .ok (.iconst 1, 1) := by decide +kernel
theorem dX9_hasCome_13 : decode cX9_hasCome 13 = .ok (.goto 4, 3) := by decide +kernel
theorem dX9_hasCome_16 : decode cX9_hasCome 16 = .ok (.iconst 0, 1) := by decide +kernel
theorem dX9_hasCome_17 : decode cX9_hasCome 17 = .ok (.ireturn, 1) := by decide +kernel
theorem dX9_refusalAt_0 : decode cX9_refusalAt 0 = .ok (.aload_n 0, 1) := by decide +kernel
theorem dX9_refusalAt_1 : decode cX9_refusalAt 1 = .ok (.getfield 10, 3) := by decide +kernel
theorem dX9_refusalAt_4 : decode cX9_refusalAt 4 = .ok (.iload_n 1, 1) := by decide +kernel
theorem dX9_refusalAt_5 : decode cX9_refusalAt 5 = .ok (.invokevirtual 84, 3) := by decide +kernel
theorem dX9_refusalAt_8 : decode cX9_refusalAt 8 = .ok (.iconst (-1), 1) := by decide +kernel
theorem dX9_refusalAt_9 : decode cX9_refusalAt 9 = .ok (.if_icmp .ne 7, 3) := by decide +kernel
theorem dX9_refusalAt_12 : decode cX9_refusalAt 12 = .ok (.iconst (-1), 1) := by decide +kernel
theorem dX9_refusalAt_13 : decode cX9_refusalAt 13 = .ok (.goto 5, 3) := by decide +kernel
theorem dX9_refusalAt_16 : decode cX9_refusalAt 16 = .ok (.bipush (-2), 2) := by decide +kernel
theorem dX9_refusalAt_18 : decode cX9_refusalAt 18 = .ok (.ireturn, 1) := by decide +kernel
theorem dX9_refusalOfClocks_0 : decode cX9_refusalOfClocks 0 = .ok (.aload_n 0, 1) := by decide +kernel
theorem dX9_refusalOfClocks_1 : decode cX9_refusalOfClocks 1 = .ok (.getfield 10, 3) := by decide +kernel
theorem dX9_refusalOfClocks_4 : decode cX9_refusalOfClocks 4 = .ok (.iload_n 1, 1) := by decide +kernel
theorem dX9_refusalOfClocks_5 : decode cX9_refusalOfClocks 5 = .ok (.invokevirtual 169, 3) := by decide +kernel
theorem dX9_refusalOfClocks_8 : decode cX9_refusalOfClocks 8 = .ok (.ifnonnull 9, 3) := by decide +kernel
theorem dX9_refusalOfClocks_11 : decode cX9_refusalOfClocks 11 = .ok (.aload_n 0, 1) := by decide +kernel
theorem dX9_refusalOfClocks_12 : decode cX9_refusalOfClocks 12 = .ok (.iload_n 1, 1) := by decide +kernel
theorem dX9_refusalOfClocks_13 : decode cX9_refusalOfClocks 13 = .ok (.invokevirtual 116, 3) := by decide +kernel
theorem dX9_refusalOfClocks_16 : decode cX9_refusalOfClocks 16 = .ok (.ireturn, 1) := by decide +kernel
theorem dX9_refusalOfClocks_17 : decode cX9_refusalOfClocks 17 = .ok (.aload_n 0, 1) := by decide +kernel
theorem dX9_refusalOfClocks_18 : decode cX9_refusalOfClocks 18 = .ok (.getfield 10, 3) := by decide +kernel
theorem dX9_refusalOfClocks_21 : decode cX9_refusalOfClocks 21 = .ok (.iload_n 2, 1) := by decide +kernel
theorem dX9_refusalOfClocks_22 : decode cX9_refusalOfClocks 22 = .ok (.invokevirtual 169, 3) := by decide +kernel
theorem dX9_refusalOfClocks_25 : decode cX9_refusalOfClocks 25 = .ok (.ifnonnull 11, 3) := by decide +kernel
theorem dX9_refusalOfClocks_28 : decode cX9_refusalOfClocks 28 = .ok (.aload_n 0, 1) := by decide +kernel
theorem dX9_refusalOfClocks_29 : decode cX9_refusalOfClocks 29 = .ok (.iload_n 2, 1) := by decide +kernel
theorem dX9_refusalOfClocks_30 : decode cX9_refusalOfClocks 30 = .ok (.invokevirtual 116, 3) := by decide +kernel
theorem dX9_refusalOfClocks_33 : decode cX9_refusalOfClocks 33 = .ok (.goto 4, 3) := by decide +kernel
theorem dX9_refusalOfClocks_36 : decode cX9_refusalOfClocks 36 = .ok (.iconst 0, 1) := by decide +kernel
theorem dX9_refusalOfClocks_37 : decode cX9_refusalOfClocks 37 = .ok (.ireturn, 1) := by decide +kernel
theorem dX9_isPlace_0 : decode cX9_isPlace 0 = .ok (.iload_n 0, 1) := by decide +kernel
theorem dX9_isPlace_1 : decode cX9_isPlace 1 = .ok (.ifCond .lt 13, 3) := by decide +kernel
theorem dX9_isPlace_4 : decode cX9_isPlace 4 = .ok (.iload_n 0, 1) := by decide +kernel
theorem dX9_isPlace_5 : decode cX9_isPlace 5 = .ok (.bipush 24, 2) := by decide +kernel
theorem dX9_isPlace_7 : decode cX9_isPlace 7 = .ok (.if_icmp .ge 7, 3) := by decide +kernel
theorem dX9_isPlace_10 : decode cX9_isPlace 10 = .ok (.iconst 1, 1) := by decide +kernel
theorem dX9_isPlace_11 : decode cX9_isPlace 11 = .ok (.goto 4, 3) := by decide +kernel
theorem dX9_isPlace_14 : decode cX9_isPlace 14 = .ok (.iconst 0, 1) := by decide +kernel
theorem dX9_isPlace_15 : decode cX9_isPlace 15 = .ok (.ireturn, 1) := by decide +kernel
theorem dX9_isClockKind_0 : decode cX9_isClockKind 0 = .ok (.iload_n 0, 1) := by decide +kernel
theorem dX9_isClockKind_1 : decode cX9_isClockKind 1 = .ok (.ifCond .lt 12, 3) := by decide +kernel
theorem dX9_isClockKind_4 : decode cX9_isClockKind 4 = .ok (.iload_n 0, 1) := by decide +kernel
theorem dX9_isClockKind_5 : decode cX9_isClockKind 5 = .ok (.iconst 3, 1) := by decide +kernel
theorem dX9_isClockKind_6 : decode cX9_isClockKind 6 = .ok (.if_icmp .gt 7, 3) := by decide +kernel
theorem dX9_isClockKind_9 : decode cX9_isClockKind 9 = .ok (.iconst 1, 1) := by decide +kernel
theorem dX9_isClockKind_10 : decode cX9_isClockKind 10 = .ok (.goto 4, 3) := by decide +kernel
theorem dX9_isClockKind_13 : decode cX9_isClockKind 13 = .ok (.iconst 0, 1) := by decide +kernel
theorem dX9_isClockKind_14 : decode cX9_isClockKind 14 = .ok (.ireturn, 1) := by decide +kernel
theorem dX9_isLinkKind_0 : decode cX9_isLinkKind 0 = .ok (.iload_n 0, 1) := by decide +kernel
theorem dX9_isLinkKind_1 : decode cX9_isLinkKind 1 = .ok (.iconst 4, 1) := by decide +kernel
theorem dX9_isLinkKind_2 : decode cX9_isLinkKind 2 = .ok (.if_icmp .lt 13, 3) := by decide +kernel
theorem dX9_isLinkKind_5 : decode cX9_isLinkKind 5 = .ok (.iload_n 0, 1) := by decide +kernel
theorem dX9_isLinkKind_6 : decode cX9_isLinkKind 6 = .ok (.bipush 6, 2) := by decide +kernel
theorem dX9_isLinkKind_8 : decode cX9_isLinkKind 8 = .ok (.if_icmp .gt 7, 3) := by decide +kernel
theorem dX9_isLinkKind_11 : decode cX9_isLinkKind 11 = .ok (.iconst 1, 1) := by decide +kernel
theorem dX9_isLinkKind_12 : decode cX9_isLinkKind 12 = .ok (.goto 4, 3) := by decide +kernel
theorem dX9_isLinkKind_15 : decode cX9_isLinkKind 15 = .ok (.iconst 0, 1) := by decide +kernel
theorem dX9_isLinkKind_16 : decode cX9_isLinkKind 16 = .ok (.ireturn, 1) := by decide +kernel
theorem dX9_isWithin_0 : decode cX9_isWithin 0 = .ok (.iload_n 0, 1) := by decide +kernel
theorem dX9_isWithin_1 : decode cX9_isWithin 1 = .ok (.iload_n 1, 1) := by decide +kernel
theorem dX9_isWithin_2 : decode cX9_isWithin 2 = .ok (.ineg, 1) := by decide +kernel
theorem dX9_isWithin_3 : decode cX9_isWithin 3 = .ok (.if_icmp .lt 12, 3) := by decide +kernel
theorem dX9_isWithin_6 : decode cX9_isWithin 6 = .ok (.iload_n 0, 1) := by decide +kernel
theorem dX9_isWithin_7 : decode cX9_isWithin 7 = .ok (.iload_n 1, 1) := by decide +kernel
theorem dX9_isWithin_8 : decode cX9_isWithin 8 = .ok (.if_icmp .gt 7, 3) := by decide +kernel
theorem dX9_isWithin_11 : decode cX9_isWithin 11 = .ok (.iconst 1, 1) := by decide +kernel
theorem dX9_isWithin_12 : decode cX9_isWithin 12 = .ok (.goto 4, 3) := by decide +kernel
theorem dX9_isWithin_15 : decode cX9_isWithin 15 = .ok (.iconst 0, 1) := by decide +kernel
theorem dX9_isWithin_16 : decode cX9_isWithin 16 = .ok (.ireturn, 1) := by decide +kernel
theorem dX9_cut_0 : decode cX9_cut 0 = .ok (.iload_n 2, 1) := by decide +kernel
theorem dX9_cut_1 : decode cX9_cut 1 = .ok (.ineg, 1) := by decide +kernel
theorem dX9_cut_2 : decode cX9_cut 2 = .ok (.i2l, 1) := by decide +kernel
theorem dX9_cut_3 : decode cX9_cut 3 = .ok (.iload_n 2, 1) := by decide +kernel
theorem dX9_cut_4 : decode cX9_cut 4 = .ok (.i2l, 1) := by decide +kernel
theorem dX9_cut_5 : decode cX9_cut 5 = .ok (.lload_n 0, 1) := by decide +kernel
theorem dX9_cut_6 : decode cX9_cut 6 = .ok (.invokestatic 278, 3) := by decide +kernel
theorem dX9_cut_9 : decode cX9_cut 9 = .ok (.invokestatic 281, 3) := by decide +kernel
theorem dX9_cut_12 : decode cX9_cut 12 = .ok (.l2i, 1) := by decide +kernel
theorem dX9_cut_13 : decode cX9_cut 13 = .ok (.ireturn, 1) := by decide +kernel
theorem dJ9_floorDiv_f86c9_0 : decode cJ9_floorDiv_f86c9 0 = .ok (.lload_n 0, 1) := by decide +kernel
theorem dJ9_floorDiv_f86c9_1 : decode cJ9_floorDiv_f86c9 1 = .ok (.lload_n 2, 1) := by decide +kernel
theorem dJ9_floorDiv_f86c9_2 : decode cJ9_floorDiv_f86c9 2 = .ok (.ldiv, 1) := by decide +kernel
theorem dJ9_floorDiv_f86c9_3 : decode cJ9_floorDiv_f86c9 3 = .ok (.lstore 4, 2) := by decide +kernel
theorem dJ9_floorDiv_f86c9_5 : decode cJ9_floorDiv_f86c9 5 = .ok (.lload_n 0, 1) := by decide +kernel
theorem dJ9_floorDiv_f86c9_6 : decode cJ9_floorDiv_f86c9 6 = .ok (.lload_n 2, 1) := by decide +kernel
theorem dJ9_floorDiv_f86c9_7 : decode cJ9_floorDiv_f86c9 7 = .ok (.lxor, 1) := by decide +kernel
theorem dJ9_floorDiv_f86c9_8 : decode cJ9_floorDiv_f86c9 8 = .ok (.lconst 0, 1) := by decide +kernel
theorem dJ9_floorDiv_f86c9_9 : decode cJ9_floorDiv_f86c9 9 = .ok (.lcmp, 1) := by decide +kernel
theorem dJ9_floorDiv_f86c9_10 : decode cJ9_floorDiv_f86c9 10 = .ok (.ifCond .ge 17, 3) := by decide +kernel
theorem dJ9_floorDiv_f86c9_13 : decode cJ9_floorDiv_f86c9 13 = .ok (.lload 4, 2) := by decide +kernel
theorem dJ9_floorDiv_f86c9_15 : decode cJ9_floorDiv_f86c9 15 = .ok (.lload_n 2, 1) := by decide +kernel
theorem dJ9_floorDiv_f86c9_16 : decode cJ9_floorDiv_f86c9 16 = .ok (.lmul, 1) := by decide +kernel
theorem dJ9_floorDiv_f86c9_17 : decode cJ9_floorDiv_f86c9 17 = .ok (.lload_n 0, 1) := by decide +kernel
theorem dJ9_floorDiv_f86c9_18 : decode cJ9_floorDiv_f86c9 18 = .ok (.lcmp, 1) := by decide +kernel
theorem dJ9_floorDiv_f86c9_19 : decode cJ9_floorDiv_f86c9 19 = .ok (.ifCond .eq 8, 3) := by decide +kernel
theorem dJ9_floorDiv_f86c9_22 : decode cJ9_floorDiv_f86c9 22 = .ok (.lload 4, 2) := by decide +kernel
theorem dJ9_floorDiv_f86c9_24 : decode cJ9_floorDiv_f86c9 24 = .ok (.lconst 1, 1) := by decide +kernel
theorem dJ9_floorDiv_f86c9_25 : decode cJ9_floorDiv_f86c9 25 = .ok (.lsub, 1) := by decide +kernel
theorem dJ9_floorDiv_f86c9_26 : decode cJ9_floorDiv_f86c9 26 = .ok (.lreturn, 1) := by decide +kernel
theorem dJ9_floorDiv_f86c9_27 : decode cJ9_floorDiv_f86c9 27 = .ok (.lload 4, 2) := by decide +kernel
theorem dJ9_floorDiv_f86c9_29 : decode cJ9_floorDiv_f86c9 29 = .ok (.lreturn, 1) := by decide +kernel
theorem dJ9_floorMod_f86c9_0 : decode cJ9_floorMod_f86c9 0 = .ok (.lload_n 0, 1) := by decide +kernel
theorem dJ9_floorMod_f86c9_1 : decode cJ9_floorMod_f86c9 1 = .ok (.lload_n 2, 1) := by decide +kernel
theorem dJ9_floorMod_f86c9_2 : decode cJ9_floorMod_f86c9 2 = .ok (.lrem, 1) := by decide +kernel
theorem dJ9_floorMod_f86c9_3 : decode cJ9_floorMod_f86c9 3 = .ok (.lstore 4, 2) := by decide +kernel
theorem dJ9_floorMod_f86c9_5 : decode cJ9_floorMod_f86c9 5 = .ok (.lload_n 0, 1) := by decide +kernel
theorem dJ9_floorMod_f86c9_6 : decode cJ9_floorMod_f86c9 6 = .ok (.lload_n 2, 1) := by decide +kernel
theorem dJ9_floorMod_f86c9_7 : decode cJ9_floorMod_f86c9 7 = .ok (.lxor, 1) := by decide +kernel
theorem dJ9_floorMod_f86c9_8 : decode cJ9_floorMod_f86c9 8 = .ok (.lconst 0, 1) := by decide +kernel
theorem dJ9_floorMod_f86c9_9 : decode cJ9_floorMod_f86c9 9 = .ok (.lcmp, 1) := by decide +kernel
theorem dJ9_floorMod_f86c9_10 : decode cJ9_floorMod_f86c9 10 = .ok (.ifCond .ge 15, 3) := by decide +kernel
theorem dJ9_floorMod_f86c9_13 : decode cJ9_floorMod_f86c9 13 = .ok (.lload 4, 2) := by decide +kernel
theorem dJ9_floorMod_f86c9_15 : decode cJ9_floorMod_f86c9 15 = .ok (.lconst 0, 1) := by decide +kernel
theorem dJ9_floorMod_f86c9_16 : decode cJ9_floorMod_f86c9 16 = .ok (.lcmp, 1) := by decide +kernel
theorem dJ9_floorMod_f86c9_17 : decode cJ9_floorMod_f86c9 17 = .ok (.ifCond .eq 8, 3) := by decide +kernel
theorem dJ9_floorMod_f86c9_20 : decode cJ9_floorMod_f86c9 20 = .ok (.lload 4, 2) := by decide +kernel
theorem dJ9_floorMod_f86c9_22 : decode cJ9_floorMod_f86c9 22 = .ok (.lload_n 2, 1) := by decide +kernel
theorem dJ9_floorMod_f86c9_23 : decode cJ9_floorMod_f86c9 23 = .ok (.ladd, 1) := by decide +kernel
theorem dJ9_floorMod_f86c9_24 : decode cJ9_floorMod_f86c9 24 = .ok (.lreturn, 1) := by decide +kernel
theorem dJ9_floorMod_f86c9_25 : decode cJ9_floorMod_f86c9 25 = .ok (.lload 4, 2) := by decide +kernel
theorem dJ9_floorMod_f86c9_27 : decode cJ9_floorMod_f86c9 27 = .ok (.lreturn, 1) := by decide +kernel
theorem dJ9_abs_0f7a4_0 : decode cJ9_abs_0f7a4 0 = .ok (.iload_n 0, 1) := by decide +kernel
theorem dJ9_abs_0f7a4_1 : decode cJ9_abs_0f7a4 1 = .ok (.ifCond .ge 8, 3) := by decide +kernel
theorem dJ9_abs_0f7a4_4 : decode cJ9_abs_0f7a4 4 = .ok (.iload_n 0, 1) := by decide +kernel
theorem dJ9_abs_0f7a4_5 : decode cJ9_abs_0f7a4 5 = .ok (.ineg, 1) := by decide +kernel
theorem dJ9_abs_0f7a4_6 : decode cJ9_abs_0f7a4 6 = .ok (.goto 4, 3) := by decide +kernel
theorem dJ9_abs_0f7a4_9 : decode cJ9_abs_0f7a4 9 = .ok (.iload_n 0, 1) := by decide +kernel
theorem dJ9_abs_0f7a4_10 : decode cJ9_abs_0f7a4 10 = .ok (.ireturn, 1) := by decide +kernel
theorem dJ9_abs_067f4_0 : decode cJ9_abs_067f4 0 = .ok (.lload_n 0, 1) := by decide +kernel
theorem dJ9_abs_067f4_1 : decode cJ9_abs_067f4 1 = .ok (.lconst 0, 1) := by decide +kernel
theorem dJ9_abs_067f4_2 : decode cJ9_abs_067f4 2 = .ok (.lcmp, 1) := by decide +kernel
theorem dJ9_abs_067f4_3 : decode cJ9_abs_067f4 3 = .ok (.ifCond .ge 8, 3) := by decide +kernel
theorem dJ9_abs_067f4_6 : decode cJ9_abs_067f4 6 = .ok (.lload_n 0, 1) := by decide +kernel
theorem dJ9_abs_067f4_7 : decode cJ9_abs_067f4 7 = .ok (.lneg, 1) := by decide +kernel
theorem dJ9_abs_067f4_8 : decode cJ9_abs_067f4 8 = .ok (.goto 4, 3) := by decide +kernel
theorem dJ9_abs_067f4_11 : decode cJ9_abs_067f4 11 = .ok (.lload_n 0, 1) := by decide +kernel
theorem dJ9_abs_067f4_12 : decode cJ9_abs_067f4 12 = .ok (.lreturn, 1) := by decide +kernel
theorem dJ9_max_7cf53_0 : decode cJ9_max_7cf53 0 = .ok (.iload_n 0, 1) := by decide +kernel
theorem dJ9_max_7cf53_1 : decode cJ9_max_7cf53 1 = .ok (.iload_n 1, 1) := by decide +kernel
theorem dJ9_max_7cf53_2 : decode cJ9_max_7cf53 2 = .ok (.if_icmp .lt 7, 3) := by decide +kernel
theorem dJ9_max_7cf53_5 : decode cJ9_max_7cf53 5 = .ok (.iload_n 0, 1) := by decide +kernel
theorem dJ9_max_7cf53_6 : decode cJ9_max_7cf53 6 = .ok (.goto 4, 3) := by decide +kernel
theorem dJ9_max_7cf53_9 : decode cJ9_max_7cf53 9 = .ok (.iload_n 1, 1) := by decide +kernel
theorem dJ9_max_7cf53_10 : decode cJ9_max_7cf53 10 = .ok (.ireturn, 1) := by decide +kernel
theorem dJ9_max_f86c9_0 : decode cJ9_max_f86c9 0 = .ok (.lload_n 0, 1) := by decide +kernel
theorem dJ9_max_f86c9_1 : decode cJ9_max_f86c9 1 = .ok (.lload_n 2, 1) := by decide +kernel
theorem dJ9_max_f86c9_2 : decode cJ9_max_f86c9 2 = .ok (.lcmp, 1) := by decide +kernel
theorem dJ9_max_f86c9_3 : decode cJ9_max_f86c9 3 = .ok (.ifCond .lt 7, 3) := by decide +kernel
theorem dJ9_max_f86c9_6 : decode cJ9_max_f86c9 6 = .ok (.lload_n 0, 1) := by decide +kernel
theorem dJ9_max_f86c9_7 : decode cJ9_max_f86c9 7 = .ok (.goto 4, 3) := by decide +kernel
theorem dJ9_max_f86c9_10 : decode cJ9_max_f86c9 10 = .ok (.lload_n 2, 1) := by decide +kernel
theorem dJ9_max_f86c9_11 : decode cJ9_max_f86c9 11 = .ok (.lreturn, 1) := by decide +kernel
theorem dJ9_min_7cf53_0 : decode cJ9_min_7cf53 0 = .ok (.iload_n 0, 1) := by decide +kernel
theorem dJ9_min_7cf53_1 : decode cJ9_min_7cf53 1 = .ok (.iload_n 1, 1) := by decide +kernel
theorem dJ9_min_7cf53_2 : decode cJ9_min_7cf53 2 = .ok (.if_icmp .gt 7, 3) := by decide +kernel
theorem dJ9_min_7cf53_5 : decode cJ9_min_7cf53 5 = .ok (.iload_n 0, 1) := by decide +kernel
theorem dJ9_min_7cf53_6 : decode cJ9_min_7cf53 6 = .ok (.goto 4, 3) := by decide +kernel
theorem dJ9_min_7cf53_9 : decode cJ9_min_7cf53 9 = .ok (.iload_n 1, 1) := by decide +kernel
theorem dJ9_min_7cf53_10 : decode cJ9_min_7cf53 10 = .ok (.ireturn, 1) := by decide +kernel
theorem dJ9_min_f86c9_0 : decode cJ9_min_f86c9 0 = .ok (.lload_n 0, 1) := by decide +kernel
theorem dJ9_min_f86c9_1 : decode cJ9_min_f86c9 1 = .ok (.lload_n 2, 1) := by decide +kernel
theorem dJ9_min_f86c9_2 : decode cJ9_min_f86c9 2 = .ok (.lcmp, 1) := by decide +kernel
theorem dJ9_min_f86c9_3 : decode cJ9_min_f86c9 3 = .ok (.ifCond .gt 7, 3) := by decide +kernel
theorem dJ9_min_f86c9_6 : decode cJ9_min_f86c9 6 = .ok (.lload_n 0, 1) := by decide +kernel
theorem dJ9_min_f86c9_7 : decode cJ9_min_f86c9 7 = .ok (.goto 4, 3) := by decide +kernel
theorem dJ9_min_f86c9_10 : decode cJ9_min_f86c9 10 = .ok (.lload_n 2, 1) := by decide +kernel
theorem dJ9_min_f86c9_11 : decode cJ9_min_f86c9 11 = .ok (.lreturn, 1) := by decide +kernel
theorem dJ7_fill_53178_0 : decode cJ7_fill_53178 0 = .ok (.iconst 0, 1) := by decide +kernel
theorem dJ7_fill_53178_1 : decode cJ7_fill_53178 1 = .ok (.istore_n 2, 1) := by decide +kernel
theorem dJ7_fill_53178_2 : decode cJ7_fill_53178 2 = .ok (.aload_n 0, 1) := by decide +kernel
theorem dJ7_fill_53178_3 : decode cJ7_fill_53178 3 = .ok (.arraylength, 1) := by decide +kernel
theorem dJ7_fill_53178_4 : decode cJ7_fill_53178 4 = .ok (.istore_n 3, 1) := by decide +kernel
theorem dJ7_fill_53178_5 : decode cJ7_fill_53178 5 = .ok (.iload_n 2, 1) := by decide +kernel
theorem dJ7_fill_53178_6 : decode cJ7_fill_53178 6 = .ok (.iload_n 3, 1) := by decide +kernel
theorem dJ7_fill_53178_7 : decode cJ7_fill_53178 7 = .ok (.if_icmp .ge 13, 3) := by decide +kernel
theorem dJ7_fill_53178_10 : decode cJ7_fill_53178 10 = .ok (.aload_n 0, 1) := by decide +kernel
theorem dJ7_fill_53178_11 : decode cJ7_fill_53178 11 = .ok (.iload_n 2, 1) := by decide +kernel
theorem dJ7_fill_53178_12 : decode cJ7_fill_53178 12 = .ok (.iload_n 1, 1) := by decide +kernel
theorem dJ7_fill_53178_13 : decode cJ7_fill_53178 13 = .ok (.iastore, 1) := by decide +kernel
theorem dJ7_fill_53178_14 : decode cJ7_fill_53178 14 = .ok (.iinc 2 1, 3) := by decide +kernel
theorem dJ7_fill_53178_17 : decode cJ7_fill_53178 17 = .ok (.goto (-12), 3) := by decide +kernel
theorem dJ7_fill_53178_20 : decode cJ7_fill_53178 20 = .ok (.return_, 1) := by decide +kernel
