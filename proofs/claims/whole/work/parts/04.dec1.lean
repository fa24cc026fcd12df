theorem dX0_init_0 : decode cX0_init 0 = .ok (.aload_n 0, 1) := by decide +kernel
theorem dX0_init_1 : decode cX0_init 1 = .ok (.invokespecial 3, 3) := by decide +kernel
theorem dX0_init_4 : decode cX0_init 4 = .ok (.aload_n 0, 1) := by decide +kernel
theorem dX0_init_5 : decode cX0_init 5 = .ok (.bipush 8, 2) := by decide +kernel
theorem dX0_init_7 : decode cX0_init 7 = .ok (.newarray .int, 2) := by decide +kernel
theorem dX0_init_9 : decode cX0_init 9 = .ok (.putfield 11, 3) := by decide +kernel
theorem dX0_init_12 : decode cX0_init 12 = .ok (.aload_n 0, 1) := by decide +kernel
theorem dX0_init_13 : decode cX0_init 13 = .ok (.bipush 8, 2) := by decide +kernel
theorem dX0_init_15 : decode cX0_init 15 = .ok (.newarray .int, 2) := by decide +kernel
theorem dX0_init_17 : decode cX0_init 17 = .ok (.putfield 15, 3) := by decide +kernel
theorem dX0_init_20 : decode cX0_init 20 = .ok (.aload_n 0, 1) := by decide +kernel
theorem dX0_init_21 : decode cX0_init 21 = .ok (.bipush 8, 2) := by decide +kernel
theorem dX0_init_23 : decode cX0_init 23 = .ok (.newarray .int, 2) := by decide +kernel
theorem dX0_init_25 : decode cX0_init 25 = .ok (.putfield 18, 3) := by decide +kernel
theorem dX0_init_28 : decode cX0_init 28 = .ok (.aload_n 0, 1) := by decide +kernel
theorem dX0_init_29 : decode cX0_init 29 = .ok (.bipush 8, 2) := by decide +kernel
theorem dX0_init_31 : decode cX0_init 31 = .ok (.newarray .int, 2) := by decide +kernel
theorem dX0_init_33 : decode cX0_init 33 = .ok (.putfield 21, 3) := by decide +kernel
theorem dX0_init_36 : decode cX0_init 36 = .ok (.aload_n 0, 1) := by decide +kernel
theorem dX0_init_37 : decode cX0_init 37 = .ok (.bipush 8, 2) := by decide +kernel
theorem dX0_init_39 : decode cX0_init 39 = .ok (.newarray .int, 2) := by decide +kernel
theorem dX0_init_41 : decode cX0_init 41 = .ok (.putfield 24, 3) := by decide +kernel
theorem dX0_init_44 : decode cX0_init 44 = .ok (.aload_n 0, 1) := by decide +kernel
theorem dX0_init_45 : decode cX0_init 45 = .ok (.iconst 0, 1) := by decide +kernel
theorem dX0_init_46 : decode cX0_init 46 = .ok (.putfield 27, 3) := by decide +kernel
theorem dX0_init_49 : decode cX0_init 49 = .ok (.return_, 1) := by decide +kernel
theorem dX0_isRunning_0 : decode cX0_isRunning 0 = .ok (.iload_n 1, 1) := by decide +kernel
theorem dX0_isRunning_1 : decode cX0_isRunning 1 = .ok (.iconst 0, 1) := by decide +kernel
theorem dX0_isRunning_2 : decode cX0_isRunning 2 = .ok (.bipush 7, 2) := by decide +kernel
theorem dX0_isRunning_4 : decode cX0_isRunning 4 = .ok (.invokestatic 31, 3) := by decide +kernel
theorem dX0_isRunning_7 : decode cX0_isRunning 7 = .ok (.ifCond .eq 27, 3) := by decide +kernel
theorem dX0_isRunning_10 : decode cX0_isRunning 10 = .ok (.aload_n 0, 1) := by decide +kernel
theorem dX0_isRunning_11 : decode cX0_isRunning 11 = .ok (.getfield 21, 3) := by decide +kernel
theorem dX0_isRunning_14 : decode cX0_isRunning 14 = .ok (.iload_n 1, 1) := by decide +kernel
theorem dX0_isRunning_15 : decode cX0_isRunning 15 = .ok (.iaload, 1) := by decide +kernel
theorem dX0_isRunning_16 : decode cX0_isRunning 16 = .ok (.iload_n 2, 1) := by decide +kernel
theorem dX0_isRunning_17 : decode cX0_isRunning 17 = .ok (.if_icmp .gt 17, 3) := by decide +kernel
theorem dX0_isRunning_20 : decode cX0_isRunning 20 = .ok (.iload_n 2, 1) := by decide +kernel
theorem dX0_isRunning_21 : decode cX0_isRunning 21 = .ok (.aload_n 0, 1) := by decide +kernel
theorem dX0_isRunning_22 : decode cX0_isRunning 22 = .ok (.getfield 24, 3) := by decide +kernel
theorem dX0_isRunning_25 : decode cX0_isRunning 25 = .ok (.iload_n 1, 1) := by decide +kernel
theorem dX0_isRunning_26 : decode cX0_isRunning 26 = .ok (.iaload, 1) := by decide +kernel
theorem dX0_isRunning_27 : decode cX0_isRunning 27 = .ok (.if_icmp .ge 7, 3) := by decide +kernel
theorem dX0_isRunning_30 : decode cX0_isRunning 30 = .ok (.iconst 1, 1) := by decide +kernel
theorem dX0_isRunning_31 : decode cX0_isRunning 31 = .ok (.goto 4, 3) := by decide +kernel
theorem dX0_isRunning_34 : decode cX0_isRunning 34 = .ok (.iconst 0, 1) := by decide +kernel
theorem dX0_isRunning_35 : decode cX0_isRunning 35 = .ok (.ireturn, 1) := by decide +kernel
theorem dX0_writeNext_0 : decode cX0_writeNext 0 = .ok (.aload_n 0, 1) := by decide +kernel
theorem dX0_writeNext_1 : decode cX0_writeNext 1 = .ok (.getfield 27, 3) := by decide +kernel
theorem dX0_writeNext_4 : decode cX0_writeNext 4 = .ok (.iconst 0, 1) := by decide +kernel
theorem dX0_writeNext_5 : decode cX0_writeNext 5 = .ok (.bipush 7, 2) := by decide +kernel
theorem dX0_writeNext_7 : decode cX0_writeNext 7 = .ok (.invokestatic 31, 3) := by decide +kernel
theorem dX0_writeNext_10 : decode cX0_writeNext 10 = .ok (.ifCond .eq 55, 3) := by decide +kernel
theorem dX0_writeNext_13 : decode cX0_writeNext 13 = .ok (.aload_n 0, 1) := by decide +kernel
theorem dX0_writeNext_14 : decode cX0_writeNext 14 = .ok (.getfield 11, 3) := by decide +kernel
theorem dX0_writeNext_17 : decode cX0_writeNext 17 = .ok (.aload_n 0, 1) := by decide +kernel
theorem dX0_writeNext_18 : decode cX0_writeNext 18 = .ok (.getfield 27, 3) := by decide +kernel
theorem dX0_writeNext_21 : decode cX0_writeNext 21 = .ok (.iload_n 1, 1) := by decide +kernel
theorem dX0_writeNext_22 : decode cX0_writeNext 22 = .ok (.iastore, 1) := by decide +kernel
theorem dX0_writeNext_23 : decode cX0_writeNext 23 = .ok (.aload_n 0, 1) := by decide +kernel
theorem dX0_writeNext_24 : decode cX0_writeNext 24 = .ok (.getfield 15, 3) := by decide +kernel
theorem dX0_writeNext_27 : decode cX0_writeNext 27 = .ok (.aload_n 0, 1) := by decide +kernel
theorem dX0_writeNext_28 : decode cX0_writeNext 28 = .ok (.getfield 27, 3) := by decide +kernel
theorem dX0_writeNext_31 : decode cX0_writeNext 31 = .ok (.iload_n 2, 1) := by decide +kernel
theorem dX0_writeNext_32 : decode cX0_writeNext 32 = .ok (.iastore, 1) := by decide +kernel
theorem dX0_writeNext_33 : decode cX0_writeNext 33 = .ok (.aload_n 0, 1) := by decide +kernel
theorem dX0_writeNext_34 : decode cX0_writeNext 34 = .ok (.getfield 18, 3) := by decide +kernel
theorem dX0_writeNext_37 : decode cX0_writeNext 37 = .ok (.aload_n 0, 1) := by decide +kernel
theorem dX0_writeNext_38 : decode cX0_writeNext 38 = .ok (.getfield 27, 3) := by decide +kernel
theorem dX0_writeNext_41 : decode cX0_writeNext 41 = .ok (.iload_n 3, 1) := by decide +kernel
theorem dX0_writeNext_42 : decode cX0_writeNext 42 = .ok (.iastore, 1) := by decide +kernel
theorem dX0_writeNext_43 : decode cX0_writeNext 43 = .ok (.aload_n 0, 1) := by decide +kernel
theorem dX0_writeNext_44 : decode cX0_writeNext 44 = .ok (.getfield 21, 3) := by decide +kernel
theorem dX0_writeNext_47 : decode cX0_writeNext 47 = .ok (.aload_n 0, 1) := by decide +kernel
theorem dX0_writeNext_48 : decode cX0_writeNext 48 = .ok (.getfield 27, 3) := by decide +kernel
theorem dX0_writeNext_51 : decode cX0_writeNext 51 = .ok (.iload 4, 2) := by decide +kernel
theorem dX0_writeNext_53 : decode cX0_writeNext 53 = .ok (.iastore, 1) := by decide +kernel
theorem dX0_writeNext_54 : decode cX0_writeNext 54 = .ok (.aload_n 0, 1) := by decide +kernel
theorem dX0_writeNext_55 : decode cX0_writeNext 55 = .ok (.getfield 24, 3) := by decide +kernel
theorem dX0_writeNext_58 : decode cX0_writeNext 58 = .ok (.aload_n 0, 1) := by decide +kernel
theorem dX0_writeNext_59 : decode cX0_writeNext 59 = .ok (.getfield 27, 3) := by decide +kernel
theorem dX0_writeNext_62 : decode cX0_writeNext 62 = .ok (.iload 5, 2) := by decide +kernel
theorem dX0_writeNext_64 : decode cX0_writeNext 64 = .ok (.iastore, 1) := by decide +kernel
theorem dX0_writeNext_65 : decode cX0_writeNext 65 = .ok (.return_, 1) := by decide +kernel
theorem dX0_nextTakesLastLane_0 : decode cX0_nextTakesLastLane 0 = .ok (.aload_n 0, 1) := by decide +kernel
theorem dX0_nextTakesLastLane_1 : decode cX0_nextTakesLastLane 1 = .ok (.getfield 27, 3) := by decide +kernel
theorem dX0_nextTakesLastLane_4 : decode cX0_nextTakesLastLane 4 = .ok (.iconst 0, 1) := by decide +kernel
theorem dX0_nextTakesLastLane_5 : decode cX0_nextTakesLastLane 5 = .ok (.bipush 7, 2) := by decide +kernel
theorem dX0_nextTakesLastLane_7 : decode cX0_nextTakesLastLane 7 = .ok (.invokestatic 31, 3) := by decide +kernel
theorem dX0_nextTakesLastLane_10 : decode cX0_nextTakesLastLane 10 = .ok (.ifCond .ne 5, 3) := by decide +kernel
theorem dX0_nextTakesLastLane_13 : decode cX0_nextTakesLastLane 13 = .ok (.iconst 0, 1) := by decide +kernel
theorem dX0_nextTakesLastLane_14 : decode cX0_nextTakesLastLane 14 = .ok (.ireturn, 1) := by decide +kernel
theorem dX0_nextTakesLastLane_15 : decode cX0_nextTakesLastLane 15 = .ok (.iconst 0, 1) := by decide +kernel
theorem dX0_nextTakesLastLane_16 : decode cX0_nextTakesLastLane 16 = .ok (.istore_n 1, 1) := by decide +kernel
theorem dX0_nextTakesLastLane_17 : decode cX0_nextTakesLastLane 17 = .ok (.iload_n 1, 1) := by decide +kernel
theorem dX0_nextTakesLastLane_18 : decode cX0_nextTakesLastLane 18 = .ok (.aload_n 0, 1) := by decide +kernel
theorem dX0_nextTakesLastLane_19 : decode cX0_nextTakesLastLane 19 = .ok (.getfield 27, 3) := by decide +kernel
theorem dX0_nextTakesLastLane_22 : decode cX0_nextTakesLastLane 22 = .ok (.if_icmp .ge 50, 3) := by decide +kernel
theorem dX0_nextTakesLastLane_25 : decode cX0_nextTakesLastLane 25 = .ok (.iconst 0, 1) := by decide +kernel
theorem dX0_nextTakesLastLane_26 : decode cX0_nextTakesLastLane 26 = .ok (.istore_n 2, 1) := by decide +kernel
theorem dX0_nextTakesLastLane_27 : decode cX0_nextTakesLastLane 27 = .ok (.iload_n 2, 1) := by decide +kernel
theorem dX0_nextTakesLastLane_28 : decode cX0_nextTakesLastLane 28 = .ok (.iload_n 1, 1) := by decide +kernel
theorem dX0_nextTakesLastLane_29 : decode cX0_nextTakesLastLane 29 = .ok (.if_icmp .ge 37, 3) := by decide +kernel
theorem dX0_nextTakesLastLane_32 : decode cX0_nextTakesLastLane 32 = .ok (.aload_n 0, 1) := by decide +kernel
theorem dX0_nextTakesLastLane_33 : decode cX0_nextTakesLastLane 33 = .ok (.iload_n 1, 1) := by decide +kernel
theorem dX0_nextTakesLastLane_34 : decode cX0_nextTakesLastLane 34 = .ok (.iload_n 2, 1) := by decide +kernel
theorem dX0_nextTakesLastLane_35 : decode cX0_nextTakesLastLane 35 = .ok (.aload_n 0, 1) := by decide +kernel
theorem dX0_nextTakesLastLane_36 : decode cX0_nextTakesLastLane 36 = .ok (.getfield 27, 3) := by decide +kernel
theorem dX0_nextTakesLastLane_39 : decode cX0_nextTakesLastLane 39 = .ok (.invokevirtual 35, 3) := by decide +kernel
theorem dX0_nextTakesLastLane_42 : decode cX0_nextTakesLastLane 42 = .ok (.ifCond .eq 18, 3) := by decide +kernel
theorem dX0_nextTakesLastLane_45 : decode cX0_nextTakesLastLane 45 = .ok (.aload_n 0, 1) := by decide +kernel
theorem dX0_nextTakesLastLane_46 : decode cX0_nextTakesLastLane 46 = .ok (.iload_n 1, 1) := by decide +kernel
theorem dX0_nextTakesLastLane_47 : decode cX0_nextTakesLastLane 47 = .ok (.iload_n 2, 1) := by decide +kernel
theorem dX0_nextTakesLastLane_48 : decode cX0_nextTakesLastLane 48 = .ok (.aload_n 0, 1) := by decide +kernel
theorem dX0_nextTakesLastLane_49 : decode cX0_nextTakesLastLane 49 = .ok (.getfield 27, 3) := by decide +kernel
theorem dX0_nextTakesLastLane_52 : decode cX0_nextTakesLastLane 52 = .ok (.invokevirtual 38, 3) := by decide +kernel
theorem dX0_nextTakesLastLane_55 : decode cX0_nextTakesLastLane 55 = .ok (.ifCond .eq 5, 3) := by decide +kernel
theorem dX0_nextTakesLastLane_58 : decode cX0_nextTakesLastLane 58 = .ok (.iconst 1, 1) := by decide +kernel
theorem dX0_nextTakesLastLane_59 : decode cX0_nextTakesLastLane 59 = .ok (.ireturn, 1) := by decide +kernel
theorem dX0_nextTakesLastLane_60 : decode cX0_nextTakesLastLane 60 = .ok (.iinc 2 1, 3) := by decide +kernel
theorem dX0_nextTakesLastLane_63 : decode cX0_nextTakesLastLane 63 = .ok (.goto (-36), 3) := by decide +kernel
theorem dX0_nextTakesLastLane_66 : decode cX0_nextTakesLastLane 66 = .ok (.iinc 1 1, 3) := by decide +kernel
theorem dX0_nextTakesLastLane_69 : decode cX0_nextTakesLastLane 69 = .ok (.goto (-52), 3) := by decide +kernel
theorem dX0_nextTakesLastLane_72 : decode cX0_nextTakesLastLane 72 = .ok (.iconst 0, 1) := by decide +kernel
theorem dX0_nextTakesLastLane_73 : decode cX0_nextTakesLastLane 73 = .ok (.ireturn, 1) := by decide +kernel
theorem dX0_tellCrosses_0 : decode cX0_tellCrosses 0 = .ok (.iconst 0, 1) := by decide +kernel
theorem dX0_tellCrosses_1 : decode cX0_tellCrosses 1 = .ok (.istore_n 3, 1) := by decide +kernel
theorem dX0_tellCrosses_2 : decode cX0_tellCrosses 2 = .ok (.iload_n 3, 1) := by decide +kernel
theorem dX0_tellCrosses_3 : decode cX0_tellCrosses 3 = .ok (.bipush 8, 2) := by decide +kernel
theorem dX0_tellCrosses_5 : decode cX0_tellCrosses 5 = .ok (.if_icmp .ge 32, 3) := by decide +kernel
theorem dX0_tellCrosses_8 : decode cX0_tellCrosses 8 = .ok (.iload_n 3, 1) := by decide +kernel
theorem dX0_tellCrosses_9 : decode cX0_tellCrosses 9 = .ok (.aload_n 0, 1) := by decide +kernel
theorem dX0_tellCrosses_10 : decode cX0_tellCrosses 10 = .ok (.getfield 27, 3) := by decide +kernel
theorem dX0_tellCrosses_13 : decode cX0_tellCrosses 13 = .ok (.if_icmp .ge 18, 3) := by decide +kernel
theorem dX0_tellCrosses_16 : decode cX0_tellCrosses 16 = .ok (.aload_n 0, 1) := by decide +kernel
theorem dX0_tellCrosses_17 : decode cX0_tellCrosses 17 = .ok (.iload_n 3, 1) := by decide +kernel
theorem dX0_tellCrosses_18 : decode cX0_tellCrosses 18 = .ok (.iload_n 2, 1) := by decide +kernel
theorem dX0_tellCrosses_19 : decode cX0_tellCrosses 19 = .ok (.invokevirtual 41, 3) := by decide +kernel
theorem dX0_tellCrosses_22 : decode cX0_tellCrosses 22 = .ok (.ifCond .eq 9, 3) := by decide +kernel
theorem dX0_tellCrosses_25 : decode cX0_tellCrosses 25 = .ok (.aload_n 0, 1) := by decide +kernel
theorem dX0_tellCrosses_26 : decode cX0_tellCrosses 26 = .ok (.iload_n 3, 1) := by decide +kernel
theorem dX0_tellCrosses_27 : decode cX0_tellCrosses 27 = .ok (.aload_n 1, 1) := by decide +kernel
theorem dX0_tellCrosses_28 : decode cX0_tellCrosses 28 = .ok (.invokevirtual 45, 3) := by decide +kernel
theorem dX0_tellCrosses_31 : decode cX0_tellCrosses 31 = .ok (.iinc 3 1, 3) := by decide +kernel
theorem dX0_tellCrosses_34 : decode cX0_tellCrosses 34 = .ok (.goto (-32), 3) := by decide +kernel
theorem dX0_tellCrosses_37 : decode cX0_tellCrosses 37 = .ok (.return_, 1) := by decide +kernel
theorem dX0_tellCrossesOf_0 : decode cX0_tellCrossesOf 0 = .ok (.iconst 0, 1) := by decide +kernel
theorem dX0_tellCrossesOf_1 : decode cX0_tellCrossesOf 1 = .ok (.istore_n 3, 1) := by decide +kernel
theorem dX0_tellCrossesOf_2 : decode cX0_tellCrossesOf 2 = .ok (.iload_n 3, 1) := by decide +kernel
theorem dX0_tellCrossesOf_3 : decode cX0_tellCrossesOf 3 = .ok (.bipush 12, 2) := by decide +kernel
theorem dX0_tellCrossesOf_5 : decode cX0_tellCrossesOf 5 = .ok (.if_icmp .ge 56, 3) := by decide +kernel
theorem dX0_tellCrossesOf_8 : decode cX0_tellCrossesOf 8 = .ok (.iload_n 3, 1) := by decide +kernel
theorem dX0_tellCrossesOf_9 : decode cX0_tellCrossesOf 9 = .ok (.aload_n 0, 1) := by decide +kernel
theorem dX0_tellCrossesOf_10 : decode cX0_tellCrossesOf 10 = .ok (.getfield 11, 3) := by decide +kernel
theorem dX0_tellCrossesOf_13 : decode cX0_tellCrossesOf 13 = .ok (.iload_n 1, 1) := by decide +kernel
theorem dX0_tellCrossesOf_14 : decode cX0_tellCrossesOf 14 = .ok (.iaload, 1) := by decide +kernel
theorem dX0_tellCrossesOf_15 : decode cX0_tellCrossesOf 15 = .ok (.invokestatic 49, 3) := by decide +kernel
theorem dX0_tellCrossesOf_18 : decode cX0_tellCrossesOf 18 = .ok (.istore 4, 2) := by decide +kernel
theorem dX0_tellCrossesOf_20 : decode cX0_tellCrossesOf 20 = .ok (.iload_n 3, 1) := by decide +kernel
theorem dX0_tellCrossesOf_21 : decode cX0_tellCrossesOf 21 = .ok (.aload_n 0, 1) := by decide +kernel
theorem dX0_tellCrossesOf_22 : decode cX0_tellCrossesOf 22 = .ok (.getfield 15, 3) := by decide +kernel
theorem dX0_tellCrossesOf_25 : decode cX0_tellCrossesOf 25 = .ok (.iload_n 1, 1) := by decide +kernel
theorem dX0_tellCrossesOf_26 : decode cX0_tellCrossesOf 26 = .ok (.iaload, 1) := by decide +kernel
theorem dX0_tellCrossesOf_27 : decode cX0_tellCrossesOf 27 = .ok (.aload_n 0, 1) := by decide +kernel
theorem dX0_tellCrossesOf_28 : decode cX0_tellCrossesOf 28 = .ok (.getfield 18, 3) := by decide +kernel
theorem dX0_tellCrossesOf_31 : decode cX0_tellCrossesOf 31 = .ok (.iload_n 1, 1) := by decide +kernel
theorem dX0_tellCrossesOf_32 : decode cX0_tellCrossesOf 32 = .ok (.iaload, 1) := by decide +kernel
theorem dX0_tellCrossesOf_33 : decode cX0_tellCrossesOf 33 = .ok (.invokestatic 31, 3) := by decide +kernel
theorem dX0_tellCrossesOf_36 : decode cX0_tellCrossesOf 36 = .ok (.ifCond .eq 19, 3) := by decide +kernel
theorem dX0_tellCrossesOf_39 : decode cX0_tellCrossesOf 39 = .ok (.iload 4, 2) := by decide +kernel
theorem dX0_tellCrossesOf_41 : decode cX0_tellCrossesOf 41 = .ok (.iconst 0, 1) := by decide +kernel
theorem dX0_tellCrossesOf_42 : decode cX0_tellCrossesOf 42 = .ok (.bipush 47, 2) := by decide +kernel
theorem dX0_tellCrossesOf_44 : decode cX0_tellCrossesOf 44 = .ok (.invokestatic 31, 3) := by decide +kernel
theorem dX0_tellCrossesOf_47 : decode cX0_tellCrossesOf 47 = .ok (.ifCond .eq 8, 3) := by decide +kernel
theorem dX0_tellCrossesOf_50 : decode cX0_tellCrossesOf 50 = .ok (.aload_n 2, 1) := by decide +kernel
theorem dX0_tellCrossesOf_51 : decode cX0_tellCrossesOf 51 = .ok (.iload 4, 2) := by decide +kernel
theorem dX0_tellCrossesOf_53 : decode cX0_tellCrossesOf 53 = .ok (.iconst 2, 1) := by decide +kernel
theorem dX0_tellCrossesOf_54 : decode cX0_tellCrossesOf 54 = .ok (.iastore, 1) := by decide +kernel
theorem dX0_tellCrossesOf_55 : decode cX0_tellCrossesOf 55 = .ok (.iinc 3 1, 3) := by decide +kernel
theorem dX0_tellCrossesOf_58 : decode cX0_tellCrossesOf 58 = .ok (.goto (-56), 3) := by decide +kernel
theorem dX0_tellCrossesOf_61 : decode cX0_tellCrossesOf 61 = .ok (.return_, 1) := by decide +kernel
theorem dX0_areInThreeLanes_0 : decode cX0_areInThreeLanes 0 = .ok (.aload_n 0, 1) := by decide +kernel
theorem dX0_areInThreeLanes_1 : decode cX0_areInThreeLanes 1 = .ok (.getfield 11, 3) := by decide +kernel
theorem dX0_areInThreeLanes_4 : decode cX0_areInThreeLanes 4 = .ok (.iload_n 1, 1) := by decide +kernel
theorem dX0_areInThreeLanes_5 : decode cX0_areInThreeLanes 5 = .ok (.iaload, 1) := by decide +kernel
theorem dX0_areInThreeLanes_6 : decode cX0_areInThreeLanes 6 = .ok (.aload_n 0, 1) := by decide +kernel
theorem dX0_areInThreeLanes_7 : decode cX0_areInThreeLanes 7 = .ok (.getfield 11, 3) := by decide +kernel
theorem dX0_areInThreeLanes_10 : decode cX0_areInThreeLanes 10 = .ok (.iload_n 2, 1) := by decide +kernel
theorem dX0_areInThreeLanes_11 : decode cX0_areInThreeLanes 11 = .ok (.iaload, 1) := by decide +kernel
theorem dX0_areInThreeLanes_12 : decode cX0_areInThreeLanes 12 = .ok (.if_icmp .eq 37, 3) := by decide +kernel
theorem dX0_areInThreeLanes_15 : decode cX0_areInThreeLanes 15 = .ok (.aload_n 0, 1) := by decide +kernel
theorem dX0_areInThreeLanes_16 : decode cX0_areInThreeLanes 16 = .ok (.getfield 11, 3) := by decide +kernel
theorem dX0_areInThreeLanes_19 : decode cX0_areInThreeLanes 19 = .ok (.iload_n 1, 1) := by decide +kernel
theorem dX0_areInThreeLanes_20 : decode cX0_areInThreeLanes 20 = .ok (.iaload, 1) := by decide +kernel
theorem dX0_areInThreeLanes_21 : decode cX0_areInThreeLanes 21 = .ok (.aload_n 0, 1) := by decide +kernel
theorem dX0_areInThreeLanes_22 : decode cX0_areInThreeLanes 22 = .ok (.getfield 11, 3) := by decide +kernel
theorem dX0_areInThreeLanes_25 : decode cX0_areInThreeLanes 25 = .ok (.iload_n 3, 1) := by decide +kernel
theorem dX0_areInThreeLanes_26 : decode cX0_areInThreeLanes 26 = .ok (.iaload, 1) := by decide +kernel
theorem dX0_areInThreeLanes_27 : decode cX0_areInThreeLanes 27 = .ok (.if_icmp .eq 22, 3) := by decide +kernel
theorem dX0_areInThreeLanes_30 : decode cX0_areInThreeLanes 30 = .ok (.aload_n 0, 1) := by decide +kernel
theorem dX0_areInThreeLanes_31 : decode cX0_areInThreeLanes 31 = .ok (.getfield 11, 3) := by decide +kernel
theorem dX0_areInThreeLanes_34 : decode cX0_areInThreeLanes 34 = .ok (.iload_n 2, 1) := by decide +kernel
theorem dX0_areInThreeLanes_35 : decode cX0_areInThreeLanes 35 = .ok (.iaload, 1) := by decide +kernel
theorem dX0_areInThreeLanes_36 : decode cX0_areInThreeLanes 36 = .ok (.aload_n 0, 1) := by decide +kernel
theorem dX0_areInThreeLanes_37 : decode cX0_areInThreeLanes 37 = .ok (.getfield 11, 3) := by decide +kernel
theorem dX0_areInThreeLanes_40 : decode cX0_areInThreeLanes 40 = .ok (.iload_n 3, 1) := by decide +kernel
theorem dX0_areInThreeLanes_41 : decode cX0_areInThreeLanes 41 = .ok (.iaload, 1) := by decide +kernel
theorem dX0_areInThreeLanes_42 : decode cX0_areInThreeLanes 42 = .ok (.if_icmp .eq 7, 3) := by decide +kernel
theorem dX0_areInThreeLanes_45 : decode cX0_areInThreeLanes 45 = .ok (.iconst 1, 1) := by decide +kernel
theorem dX0_areInThreeLanes_46 : decode cX0_areInThreeLanes 46 = .ok (.goto 4, 3) := by decide +kernel
theorem dX0_areInThreeLanes_49 : decode cX0_areInThreeLanes 49 = .ok (.iconst 0, 1) := by decide +kernel
theorem dX0_areInThreeLanes_50 : decode cX0_areInThreeLanes 50 = .ok (.ireturn, 1) := by decide +kernel
theorem dX0_doMeet_0 : decode cX0_doMeet 0 = .ok (.aload_n 0, 1) := by decide +kernel
theorem dX0_doMeet_1 : decode cX0_doMeet 1 = .ok (.getfield 15, 3) := by decide +kernel
theorem dX0_doMeet_4 : decode cX0_doMeet 4 = .ok (.iload_n 1, 1) := by decide +kernel
theorem dX0_doMeet_5 : decode cX0_doMeet 5 = .ok (.iaload, 1) := by decide +kernel
theorem dX0_doMeet_6 : decode cX0_doMeet 6 = .ok (.aload_n 0, 1) := by decide +kernel
theorem dX0_doMeet_7 : decode cX0_doMeet 7 = .ok (.getfield 15, 3) := by decide +kernel
theorem dX0_doMeet_10 : decode cX0_doMeet 10 = .ok (.iload_n 2, 1) := by decide +kernel
theorem dX0_doMeet_11 : decode cX0_doMeet 11 = .ok (.iaload, 1) := by decide +kernel
theorem dX0_doMeet_12 : decode cX0_doMeet 12 = .ok (.aload_n 0, 1) := by decide +kernel
theorem dX0_doMeet_13 : decode cX0_doMeet 13 = .ok (.getfield 15, 3) := by decide +kernel
theorem dX0_doMeet_16 : decode cX0_doMeet 16 = .ok (.iload_n 3, 1) := by decide +kernel
theorem dX0_doMeet_17 : decode cX0_doMeet 17 = .ok (.iaload, 1) := by decide +kernel
theorem dX0_doMeet_18 : decode cX0_doMeet 18 = .ok (.invokestatic 53, 3) := by decide +kernel
theorem dX0_doMeet_21 : decode cX0_doMeet 21 = .ok (.invokestatic 53, 3) := by decide +kernel
theorem dX0_doMeet_24 : decode cX0_doMeet 24 = .ok (.istore 4, 2) := by decide +kernel
theorem dX0_doMeet_26 : decode cX0_doMeet 26 = .ok (.aload_n 0, 1) := by decide +kernel
theorem dX0_doMeet_27 : decode cX0_doMeet 27 = .ok (.getfield 18, 3) := by decide +kernel
theorem dX0_doMeet_30 : decode cX0_doMeet 30 = .ok (.iload_n 1, 1) := by decide +kernel
theorem dX0_doMeet_31 : decode cX0_doMeet 31 = .ok (.iaload, 1) := by decide +kernel
theorem dX0_doMeet_32 : decode cX0_doMeet 32 = .ok (.aload_n 0, 1) := by decide +kernel
theorem dX0_doMeet_33 : decode cX0_doMeet 33 = .ok (.getfield 18, 3) := by decide +kernel
theorem dX0_doMeet_36 : decode cX0_doMeet 36 = .ok (.iload_n 2, 1) := by decide +kernel
theorem dX0_doMeet_37 : decode cX0_doMeet 37 = .ok (.iaload, 1) := by decide +kernel
theorem dX0_doMeet_38 : decode cX0_doMeet 38 = .ok (.aload_n 0, 1) := by decide +kernel
theorem dX0_doMeet_39 : decode cX0_doMeet 39 = .ok (.getfield 18, 3) := by decide +kernel
theorem dX0_doMeet_42 : decode cX0_doMeet 42 = .ok (.iload_n 3, 1) := by decide +kernel
theorem dX0_doMeet_43 : decode cX0_doMeet 43 = .ok (.iaload, 1) := by decide +kernel
theorem dX0_doMeet_44 : decode cX0_doMeet 44 = .ok (.invokestatic 58, 3) := by decide +kernel
theorem dX0_doMeet_47 : decode cX0_doMeet 47 = .ok (.invokestatic 58, 3) := by decide +kernel
theorem dX0_doMeet_50 : decode cX0_doMeet 50 = .ok (.istore 5, 2) := by decide +kernel
theorem dX0_doMeet_52 : decode cX0_doMeet 52 = .ok (.aload_n 0, 1) := by decide +kernel
theorem dX0_doMeet_53 : decode cX0_doMeet 53 = .ok (.getfield 21, 3) := by decide +kernel
theorem dX0_doMeet_56 : decode cX0_doMeet 56 = .ok (.iload_n 1, 1) := by decide +kernel
theorem dX0_doMeet_57 : decode cX0_doMeet 57 = .ok (.iaload, 1) := by decide +kernel
theorem dX0_doMeet_58 : decode cX0_doMeet 58 = .ok (.aload_n 0, 1) := by decide +kernel
theorem dX0_doMeet_59 : decode cX0_doMeet 59 = .ok (.getfield 21, 3) := by decide +kernel
theorem dX0_doMeet_62 : decode cX0_doMeet 62 = .ok (.iload_n 2, 1) := by decide +kernel
theorem dX0_doMeet_63 : decode cX0_doMeet 63 = .ok (.iaload, 1) := by decide +kernel
theorem dX0_doMeet_64 : decode cX0_doMeet 64 = .ok (.aload_n 0, 1) := by decide +kernel
theorem dX0_doMeet_65 : decode cX0_doMeet 65 = .ok (.getfield 21, 3) := by decide +kernel
theorem dX0_doMeet_68 : decode cX0_doMeet 68 = .ok (.iload_n 3, 1) := by decide +kernel
theorem dX0_doMeet_69 : decode cX0_doMeet 69 = .ok (.iaload, 1) := by decide +kernel
theorem dX0_doMeet_70 : decode cX0_doMeet 70 = .ok (.invokestatic 53, 3) := by decide +kernel
theorem dX0_doMeet_73 : decode cX0_doMeet 73 = .ok (.invokestatic 53, 3) := by decide +kernel
theorem dX0_doMeet_76 : decode cX0_doMeet 76 = .ok (.istore 6, 2) := by decide +kernel
theorem dX0_doMeet_78 : decode cX0_doMeet 78 = .ok (.aload_n 0, 1) := by decide +kernel
theorem dX0_doMeet_79 : decode cX0_doMeet 79 = .ok (.getfield 24, 3) := by decide +kernel
theorem dX0_doMeet_82 : decode cX0_doMeet 82 = .ok (.iload_n 1, 1) := by decide +kernel
theorem dX0_doMeet_83 : decode cX0_doMeet 83 = .ok (.iaload, 1) := by decide +kernel
theorem dX0_doMeet_84 : decode cX0_doMeet 84 = .ok (.aload_n 0, 1) := by decide +kernel
theorem dX0_doMeet_85 : decode cX0_doMeet 85 = .ok (.getfield 24, 3) := by decide +kernel
theorem dX0_doMeet_88 : decode cX0_doMeet 88 = .ok (.iload_n 2, 1) := by decide +kernel
theorem dX0_doMeet_89 : decode cX0_doMeet 89 = .ok (.iaload, 1) := by decide +kernel
theorem dX0_doMeet_90 : decode cX0_doMeet 90 = .ok (.aload_n 0, 1) := by decide +kernel
theorem dX0_doMeet_91 : decode cX0_doMeet 91 = .ok (.getfield 24, 3) := by decide +kernel
theorem dX0_doMeet_94 : decode cX0_doMeet 94 = .ok (.iload_n 3, 1) := by decide +kernel
theorem dX0_doMeet_95 : decode cX0_doMeet 95 = .ok (.iaload, 1) := by decide +kernel
theorem dX0_doMeet_96 : decode cX0_doMeet 96 = .ok (.invokestatic 58, 3) := by decide +kernel
theorem dX0_doMeet_99 : decode cX0_doMeet 99 = .ok (.invokestatic 58, 3) := by decide +kernel
theorem dX0_doMeet_102 : decode cX0_doMeet 102 = .ok (.istore 7, 2) := by decide +kernel
theorem dX0_doMeet_104 : decode cX0_doMeet 104 = .ok (.iload 4, 2) := by decide +kernel
theorem dX0_doMeet_106 : decode cX0_doMeet 106 = .ok (.iload 5, 2) := by decide +kernel
theorem dX0_doMeet_108 : decode cX0_doMeet 108 = .ok (.if_icmp .gt 14, 3) := by decide +kernel
theorem dX0_doMeet_111 : decode cX0_doMeet 111 = .ok (.iload 6, 2) := by decide +kernel
theorem dX0_doMeet_113 : decode cX0_doMeet 113 = .ok (.iload 7, 2) := by decide +kernel
theorem dX0_doMeet_115 : decode cX0_doMeet 115 = .ok (.if_icmp .ge 7, 3) := by decide +kernel
theorem dX0_doMeet_118 : decode cX0_doMeet 118 = .ok (.iconst 1, 1) := by decide +kernel
theorem dX0_doMeet_119 : decode cX0_doMeet 119 = .ok (.goto 4, 3) := by decide +kernel
theorem dX0_doMeet_122 : decode cX0_doMeet 122 = .ok (.iconst 0, 1) := by decide +kernel
theorem dX0_doMeet_123 : decode cX0_doMeet 123 = .ok (.ireturn, 1) := by decide +kernel
theorem dX1_init_0 : decode cX1_init 0 = .ok (.aload_n 0, 1) := by decide +kernel
theorem dX1_init_1 : decode cX1_init 1 = .ok (.invokespecial 3, 3) := by decide +kernel
theorem dX1_init_4 : decode cX1_init 4 = .ok (.aload_n 0, 1) := by decide +kernel
theorem dX1_init_5 : decode cX1_init 5 = .ok (.bipush 12, 2) := by decide +kernel
theorem dX1_init_7 : decode cX1_init 7 = .ok (.newarray .int, 2) := by decide +kernel
theorem dX1_init_9 : decode cX1_init 9 = .ok (.putfield 9, 3) := by decide +kernel
theorem dX1_init_12 : decode cX1_init 12 = .ok (.aload_n 0, 1) := by decide +kernel
theorem dX1_init_13 : decode cX1_init 13 = .ok (.bipush 12, 2) := by decide +kernel
theorem dX1_init_15 : decode cX1_init 15 = .ok (.newarray .int, 2) := by decide +kernel
theorem dX1_init_17 : decode cX1_init 17 = .ok (.putfield 15, 3) := by decide +kernel
theorem dX1_init_20 : decode cX1_init 20 = .ok (.return_, 1) := by decide +kernel
theorem dX1_guessAt_0 : decode cX1_guessAt 0 = .ok (.iconst 0, 1) := by decide +kernel
theorem dX1_guessAt_1 : decode cX1_guessAt 1 = .ok (.istore_n 3, 1) := by decide +kernel
theorem dX1_guessAt_2 : decode cX1_guessAt 2 = .ok (.iconst 0, 1) := by decide +kernel
theorem dX1_guessAt_3 : decode cX1_guessAt 3 = .ok (.istore 4, 2) := by decide +kernel
theorem dX1_guessAt_5 : decode cX1_guessAt 5 = .ok (.iconst 0, 1) := by decide +kernel
theorem dX1_guessAt_6 : decode cX1_guessAt 6 = .ok (.istore 5, 2) := by decide +kernel
theorem dX1_guessAt_8 : decode cX1_guessAt 8 = .ok (.iload 5, 2) := by decide +kernel
theorem dX1_guessAt_10 : decode cX1_guessAt 10 = .ok (.bipush 12, 2) := by decide +kernel
theorem dX1_guessAt_12 : decode cX1_guessAt 12 = .ok (.if_icmp .ge 47, 3) := by decide +kernel
theorem dX1_guessAt_15 : decode cX1_guessAt 15 = .ok (.iload 5, 2) := by decide +kernel
theorem dX1_guessAt_17 : decode cX1_guessAt 17 = .ok (.iload_n 1, 1) := by decide +kernel
theorem dX1_guessAt_18 : decode cX1_guessAt 18 = .ok (.iconst 1, 1) := by decide +kernel
theorem dX1_guessAt_19 : decode cX1_guessAt 19 = .ok (.isub, 1) := by decide +kernel
theorem dX1_guessAt_20 : decode cX1_guessAt 20 = .ok (.if_icmp .eq 11, 3) := by decide +kernel
theorem dX1_guessAt_23 : decode cX1_guessAt 23 = .ok (.iload 5, 2) := by decide +kernel
theorem dX1_guessAt_25 : decode cX1_guessAt 25 = .ok (.iload_n 1, 1) := by decide +kernel
theorem dX1_guessAt_26 : decode cX1_guessAt 26 = .ok (.iconst 1, 1) := by decide +kernel
theorem dX1_guessAt_27 : decode cX1_guessAt 27 = .ok (.iadd, 1) := by decide +kernel
theorem dX1_guessAt_28 : decode cX1_guessAt 28 = .ok (.if_icmp .ne 25, 3) := by decide +kernel
theorem dX1_guessAt_31 : decode cX1_guessAt 31 = .ok (.aload_n 0, 1) := by decide +kernel
theorem dX1_guessAt_32 : decode cX1_guessAt 32 = .ok (.getfield 9, 3) := by decide +kernel
theorem dX1_guessAt_35 : decode cX1_guessAt 35 = .ok (.iload 5, 2) := by decide +kernel
theorem dX1_guessAt_37 : decode cX1_guessAt 37 = .ok (.iaload, 1) := by decide +kernel
theorem dX1_guessAt_38 : decode cX1_guessAt 38 = .ok (.ifCond .ne 15, 3) := by decide +kernel
theorem dX1_guessAt_41 : decode cX1_guessAt 41 = .ok (.iload_n 3, 1) := by decide +kernel
theorem dX1_guessAt_42 : decode cX1_guessAt 42 = .ok (.aload_n 2, 1) := by decide +kernel
theorem dX1_guessAt_43 : decode cX1_guessAt 43 = .ok (.iload 5, 2) := by decide +kernel
theorem dX1_guessAt_45 : decode cX1_guessAt 45 = .ok (.invokevirtual 18, 3) := by decide +kernel
theorem dX1_guessAt_48 : decode cX1_guessAt 48 = .ok (.iadd, 1) := by decide +kernel
theorem dX1_guessAt_49 : decode cX1_guessAt 49 = .ok (.istore_n 3, 1) := by decide +kernel
theorem dX1_guessAt_50 : decode cX1_guessAt 50 = .ok (.iinc 4 1, 3) := by decide +kernel
theorem dX1_guessAt_53 : decode cX1_guessAt 53 = .ok (.iinc 5 1, 3) := by decide +kernel
theorem dX1_guessAt_56 : decode cX1_guessAt 56 = .ok (.goto (-48), 3) := by decide +kernel
theorem dX1_guessAt_59 : decode cX1_guessAt 59 = .ok (.iload 4, 2) := by decide +kernel
theorem dX1_guessAt_61 : decode cX1_guessAt 61 = .ok (.ifCond .ne 7, 3) := by decide +kernel
theorem dX1_guessAt_64 : decode cX1_guessAt 64 = .ok (.iconst (-1), 1) := by decide +kernel
theorem dX1_guessAt_65 : decode cX1_guessAt 65 = .ok (.goto 7, 3) := by decide +kernel
theorem dX1_guessAt_68 : decode cX1_guessAt 68 = .ok (.iload_n 3, 1) := by decide +kernel
theorem dX1_guessAt_69 : decode cX1_guessAt 69 = .ok (.iload 4, 2) := by decide +kernel
theorem dX1_guessAt_71 : decode cX1_guessAt 71 = .ok (.idiv, 1) := by decide +kernel
theorem dX1_guessAt_72 : decode cX1_guessAt 72 = .ok (.ireturn, 1) := by decide +kernel
theorem dX1_beliefAt_0 : decode cX1_beliefAt 0 = .ok (.iload_n 1, 1) := by decide +kernel
theorem dX1_beliefAt_1 : decode cX1_beliefAt 1 = .ok (.iconst 0, 1) := by decide +kernel
theorem dX1_beliefAt_2 : decode cX1_beliefAt 2 = .ok (.bipush 11, 2) := by decide +kernel
theorem dX1_beliefAt_4 : decode cX1_beliefAt 4 = .ok (.invokestatic 24, 3) := by decide +kernel
theorem dX1_beliefAt_7 : decode cX1_beliefAt 7 = .ok (.ifCond .ne 5, 3) := by decide +kernel
theorem dX1_beliefAt_10 : decode cX1_beliefAt 10 = .ok (.iconst (-1), 1) := by decide +kernel
theorem dX1_beliefAt_11 : decode cX1_beliefAt 11 = .ok (.ireturn, 1) := by decide +kernel
theorem dX1_beliefAt_12 : decode cX1_beliefAt 12 = .ok (.aload_n 0, 1) := by decide +kernel
theorem dX1_beliefAt_13 : decode cX1_beliefAt 13 = .ok (.getfield 9, 3) := by decide +kernel
theorem dX1_beliefAt_16 : decode cX1_beliefAt 16 = .ok (.iload_n 1, 1) := by decide +kernel
theorem dX1_beliefAt_17 : decode cX1_beliefAt 17 = .ok (.iaload, 1) := by decide +kernel
theorem dX1_beliefAt_18 : decode cX1_beliefAt 18 = .ok (.ifCond .ne 9, 3) := by decide +kernel
theorem dX1_beliefAt_21 : decode cX1_beliefAt 21 = .ok (.aload_n 2, 1) := by decide +kernel
theorem dX1_beliefAt_22 : decode cX1_beliefAt 22 = .ok (.iload_n 1, 1) := by decide +kernel
theorem dX1_beliefAt_23 : decode cX1_beliefAt 23 = .ok (.invokevirtual 18, 3) := by decide +kernel
theorem dX1_beliefAt_26 : decode cX1_beliefAt 26 = .ok (.ireturn, 1) := by decide +kernel
theorem dX1_beliefAt_27 : decode cX1_beliefAt 27 = .ok (.aload_n 0, 1) := by decide +kernel
theorem dX1_beliefAt_28 : decode cX1_beliefAt 28 = .ok (.iload_n 1, 1) := by decide +kernel
theorem dX1_beliefAt_29 : decode cX1_beliefAt 29 = .ok (.aload_n 2, 1) := by decide +kernel
theorem dX1_beliefAt_30 : decode cX1_beliefAt 30 = .ok (.invokevirtual 28, 3) := by decide +kernel
theorem dX1_beliefAt_33 : decode cX1_beliefAt 33 = .ok (.istore_n 3, 1) := by decide +kernel
theorem dX1_beliefAt_34 : decode cX1_beliefAt 34 = .ok (.aload_n 0, 1) := by decide +kernel
theorem dX1_beliefAt_35 : decode cX1_beliefAt 35 = .ok (.getfield 9, 3) := by decide +kernel
theorem dX1_beliefAt_38 : decode cX1_beliefAt 38 = .ok (.iload_n 1, 1) := by decide +kernel
theorem dX1_beliefAt_39 : decode cX1_beliefAt 39 = .ok (.iaload, 1) := by decide +kernel
theorem dX1_beliefAt_40 : decode cX1_beliefAt 40 = .ok (.iconst 2, 1) := by decide +kernel
theorem dX1_beliefAt_41 : decode cX1_beliefAt 41 = .ok (.if_icmp .ne 5, 3) := by decide +kernel
theorem dX1_beliefAt_44 : decode cX1_beliefAt 44 = .ok (.iload_n 3, 1) := by decide +kernel
theorem dX1_beliefAt_45 : decode cX1_beliefAt 45 = .ok (.ireturn, 1) := by decide +kernel
theorem dX1_beliefAt_46 : decode cX1_beliefAt 46 = .ok (.aload_n 0, 1) := by decide +kernel
theorem dX1_beliefAt_47 : decode cX1_beliefAt 47 = .ok (.getfield 15, 3) := by decide +kernel
theorem dX1_beliefAt_50 : decode cX1_beliefAt 50 = .ok (.iload_n 1, 1) := by decide +kernel
theorem dX1_beliefAt_51 : decode cX1_beliefAt 51 = .ok (.iaload, 1) := by decide +kernel
theorem dX1_beliefAt_52 : decode cX1_beliefAt 52 = .ok (.istore 4, 2) := by decide +kernel
theorem dX1_beliefAt_54 : decode cX1_beliefAt 54 = .ok (.iload_n 3, 1) := by decide +kernel
theorem dX1_beliefAt_55 : decode cX1_beliefAt 55 = .ok (.iconst (-1), 1) := by decide +kernel
theorem dX1_beliefAt_56 : decode cX1_beliefAt 56 = .ok (.if_icmp .eq 19, 3) := by decide +kernel
theorem dX1_beliefAt_59 : decode cX1_beliefAt 59 = .ok (.iload_n 3, 1) := by decide +kernel
theorem dX1_beliefAt_60 : decode cX1_beliefAt 60 = .ok (.iload 4, 2) := by decide +kernel
theorem dX1_beliefAt_62 : decode cX1_beliefAt 62 = .ok (.isub, 1) := by decide +kernel
theorem dX1_beliefAt_63 : decode cX1_beliefAt 63 = .ok (.invokestatic 32, 3) := by decide +kernel
theorem dX1_beliefAt_66 : decode cX1_beliefAt 66 = .ok (.bipush 30, 2) := by decide +kernel
theorem dX1_beliefAt_68 : decode cX1_beliefAt 68 = .ok (.if_icmp .le 7, 3) := by decide +kernel
theorem dX1_beliefAt_71 : decode cX1_beliefAt 71 = .ok (.iload_n 3, 1) := by decide +kernel
theorem dX1_beliefAt_72 : decode cX1_beliefAt 72 = .ok (.goto 5, 3) := by decide +kernel
theorem dX1_beliefAt_75 : decode cX1_beliefAt 75 = .ok (.iload 4, 2) := by decide +kernel
theorem dX1_beliefAt_77 : decode cX1_beliefAt 77 = .ok (.ireturn, 1) := by decide +kernel
theorem dX2_init_0 : decode cX2_init 0 = .ok (.aload_n 0, 1) := by decide +kernel
theorem dX2_init_1 : decode cX2_init 1 = .ok (.invokespecial 3, 3) := by decide +kernel
theorem dX2_init_4 : decode cX2_init 4 = .ok (.aload_n 0, 1) := by decide +kernel
theorem dX2_init_5 : decode cX2_init 5 = .ok (.bipush 12, 2) := by decide +kernel
theorem dX2_init_7 : decode cX2_init 7 = .ok (.newarray .int, 2) := by decide +kernel
theorem dX2_init_9 : decode cX2_init 9 = .ok (.putfield 11, 3) := by decide +kernel
theorem dX2_init_12 : decode cX2_init 12 = .ok (.aload_n 0, 1) := by decide +kernel
theorem dX2_init_13 : decode cX2_init 13 = .ok (.bipush 12, 2) := by decide +kernel
theorem dX2_init_15 : decode cX2_init 15 = .ok (.newarray .int, 2) := by decide +kernel
theorem dX2_init_17 : decode cX2_init 17 = .ok (.putfield 15, 3) := by decide +kernel
theorem dX2_init_20 : decode cX2_init 20 = .ok (.aload_n 0, 1) := by decide +kernel
theorem dX2_init_21 : decode cX2_init 21 = .ok (.bipush 12, 2) := by decide +kernel
theorem dX2_init_23 : decode cX2_init 23 = .ok (.newarray .int, 2) := by decide +kernel
theorem dX2_init_25 : decode cX2_init 25 = .ok (.putfield 18, 3) := by decide +kernel
theorem dX2_init_28 : decode cX2_init 28 = .ok (.aload_n 0, 1) := by decide +kernel
theorem dX2_init_29 : decode cX2_init 29 = .ok (.iconst 0, 1) := by decide +kernel
theorem dX2_init_30 : decode cX2_init 30 = .ok (.putfield 21, 3) := by decide +kernel
theorem dX2_init_33 : decode cX2_init 33 = .ok (.return_, 1) := by decide +kernel
theorem dX2_has_0 : decode cX2_has 0 = .ok (.iload_n 1, 1) := by decide +kernel
theorem dX2_has_1 : decode cX2_has 1 = .ok (.iconst 0, 1) := by decide +kernel
theorem dX2_has_2 : decode cX2_has 2 = .ok (.bipush 11, 2) := by decide +kernel
theorem dX2_has_4 : decode cX2_has 4 = .ok (.invokestatic 25, 3) := by decide +kernel
theorem dX2_has_7 : decode cX2_has 7 = .ok (.ifCond .eq 15, 3) := by decide +kernel
theorem dX2_has_10 : decode cX2_has 10 = .ok (.iload_n 1, 1) := by decide +kernel
theorem dX2_has_11 : decode cX2_has 11 = .ok (.aload_n 0, 1) := by decide +kernel
theorem dX2_has_12 : decode cX2_has 12 = .ok (.getfield 21, 3) := by decide +kernel
theorem dX2_has_15 : decode cX2_has 15 = .ok (.if_icmp .ge 7, 3) := by decide +kernel
theorem dX2_has_18 : decode cX2_has 18 = .ok (.iconst 1, 1) := by decide +kernel
theorem dX2_has_19 : decode cX2_has 19 = .ok (.goto 4, 3) := by decide +kernel
theorem dX2_has_22 : decode cX2_has 22 = .ok (.iconst 0, 1) := by decide +kernel
theorem dX2_has_23 : decode cX2_has 23 = .ok (.ireturn, 1) := by decide +kernel
theorem dX2_sectionOf_0 : decode cX2_sectionOf 0 = .ok (.aload_n 0, 1) := by decide +kernel
theorem dX2_sectionOf_1 : decode cX2_sectionOf 1 = .ok (.iload_n 1, 1) := by decide +kernel
theorem dX2_sectionOf_2 : decode cX2_sectionOf 2 = .ok (.invokevirtual 29, 3) := by decide +kernel
theorem dX2_sectionOf_5 : decode cX2_sectionOf 5 = .ok (.ifCond .eq 14, 3) := by decide +kernel
theorem dX2_sectionOf_8 : decode cX2_sectionOf 8 = .ok (.aload_n 0, 1) := by decide +kernel
theorem dX2_sectionOf_9 : decode cX2_sectionOf 9 = .ok (.getfield 11, 3) := by decide +kernel
theorem dX2_sectionOf_12 : decode cX2_sectionOf 12 = .ok (.iload_n 1, 1) := by decide +kernel
theorem dX2_sectionOf_13 : decode cX2_sectionOf 13 = .ok (.iaload, 1) := by decide +kernel
theorem dX2_sectionOf_14 : decode cX2_sectionOf 14 = .ok (.iconst 4, 1) := by decide +kernel
theorem dX2_sectionOf_15 : decode cX2_sectionOf 15 = .ok (.idiv, 1) := by decide +kernel
theorem dX2_sectionOf_16 : decode cX2_sectionOf 16 = .ok (.goto 4, 3) := by decide +kernel
theorem dX2_sectionOf_19 : decode cX2_sectionOf 19 = .ok (.iconst 0, 1) := by decide +kernel
theorem dX2_sectionOf_20 : decode cX2_sectionOf 20 = .ok (.ireturn, 1) := by decide +kernel
theorem dX2_canAdd_0 : decode cX2_canAdd 0 = .ok (.iconst 0, 1) := by decide +kernel
theorem dX2_canAdd_1 : decode cX2_canAdd 1 = .ok (.istore_n 2, 1) := by decide +kernel
theorem dX2_canAdd_2 : decode cX2_canAdd 2 = .ok (.iload_n 2, 1) := by decide +kernel
theorem dX2_canAdd_3 : decode cX2_canAdd 3 = .ok (.bipush 12, 2) := by decide +kernel
theorem dX2_canAdd_5 : decode cX2_canAdd 5 = .ok (.if_icmp .ge 39, 3) := by decide +kernel
theorem dX2_canAdd_8 : decode cX2_canAdd 8 = .ok (.iload_n 2, 1) := by decide +kernel
theorem dX2_canAdd_9 : decode cX2_canAdd 9 = .ok (.aload_n 0, 1) := by decide +kernel
theorem dX2_canAdd_10 : decode cX2_canAdd 10 = .ok (.getfield 21, 3) := by decide +kernel
theorem dX2_canAdd_13 : decode cX2_canAdd 13 = .ok (.if_icmp .ge 25, 3) := by decide +kernel
theorem dX2_canAdd_16 : decode cX2_canAdd 16 = .ok (.aload_n 0, 1) := by decide +kernel
theorem dX2_canAdd_17 : decode cX2_canAdd 17 = .ok (.getfield 11, 3) := by decide +kernel
theorem dX2_canAdd_20 : decode cX2_canAdd 20 = .ok (.iload_n 2, 1) := by decide +kernel
theorem dX2_canAdd_21 : decode cX2_canAdd 21 = .ok (.iaload, 1) := by decide +kernel
theorem dX2_canAdd_22 : decode cX2_canAdd 22 = .ok (.iload_n 1, 1) := by decide +kernel
theorem dX2_canAdd_23 : decode cX2_canAdd 23 = .ok (.if_icmp .ne 15, 3) := by decide +kernel
theorem dX2_canAdd_26 : decode cX2_canAdd 26 = .ok (.aload_n 0, 1) := by decide +kernel
theorem dX2_canAdd_27 : decode cX2_canAdd 27 = .ok (.getfield 15, 3) := by decide +kernel
theorem dX2_canAdd_30 : decode cX2_canAdd 30 = .ok (.iload_n 2, 1) := by decide +kernel
theorem dX2_canAdd_31 : decode cX2_canAdd 31 = .ok (.iaload, 1) := by decide +kernel
theorem dX2_canAdd_32 : decode cX2_canAdd 32 = .ok (.iconst 2, 1) := by decide +kernel
theorem dX2_canAdd_33 : decode cX2_canAdd 33 = .ok (.if_icmp .eq 5, 3) := by decide +kernel
theorem dX2_canAdd_36 : decode cX2_canAdd 36 = .ok (.iconst 0, 1) := by decide +kernel
theorem dX2_canAdd_37 : decode cX2_canAdd 37 = .ok (.ireturn, 1) := by decide +kernel
theorem dX2_canAdd_38 : decode cX2_canAdd 38 = .ok (.iinc 2 1, 3) := by decide +kernel
theorem dX2_canAdd_41 : decode cX2_canAdd 41 = .ok (.goto (-39), 3) := by decide +kernel
theorem dX2_canAdd_44 : decode cX2_canAdd 44 = .ok (.aload_n 0, 1) := by decide +kernel
theorem dX2_canAdd_45 : decode cX2_canAdd 45 = .ok (.getfield 21, 3) := by decide +kernel
theorem dX2_canAdd_48 : decode cX2_canAdd 48 = .ok (.bipush 12, 2) := by decide +kernel
theorem dX2_canAdd_50 : decode cX2_canAdd 50 = .ok (.if_icmp .ge 7, 3) := by decide +kernel
theorem dX2_canAdd_53 : decode cX2_canAdd 53 = .ok (.iconst 1, 1) := by decide +kernel
theorem dX2_canAdd_54 : decode cX2_canAdd 54 = .ok (.goto 4, 3) := by decide +kernel
theorem dX2_canAdd_57 : decode cX2_canAdd 57 = .ok (.iconst 0, 1) := by decide +kernel
theorem dX2_canAdd_58 : decode cX2_canAdd 58 = .ok (.ireturn, 1) := by decide +kernel
theorem dX2_add_0 : decode cX2_add 0 = .ok (.aload_n 0, 1) := by decide +kernel
theorem dX2_add_1 : decode cX2_add 1 = .ok (.getfield 21, 3) := by decide +kernel
theorem dX2_add_4 : decode cX2_add 4 = .ok (.iconst 0, 1) := by decide +kernel
theorem dX2_add_5 : decode cX2_add 5 = .ok (.bipush 11, 2) := by decide +kernel
theorem dX2_add_7 : decode cX2_add 7 = .ok (.invokestatic 25, 3) := by decide +kernel
theorem dX2_add_10 : decode cX2_add 10 = .ok (.ifCond .ne 5, 3) := by decide +kernel
theorem dX2_add_13 : decode cX2_add 13 = .ok (.iconst (-1), 1) := by decide +kernel
theorem dX2_add_14 : decode cX2_add 14 = .ok (.ireturn, 1) := by decide +kernel
theorem dX2_add_15 : decode cX2_add 15 = .ok (.aload_n 0, 1) := by decide +kernel
theorem dX2_add_16 : decode cX2_add 16 = .ok (.getfield 11, 3) := by decide +kernel
theorem dX2_add_19 : decode cX2_add 19 = .ok (.aload_n 0, 1) := by decide +kernel
theorem dX2_add_20 : decode cX2_add 20 = .ok (.getfield 21, 3) := by decide +kernel
theorem dX2_add_23 : decode cX2_add 23 = .ok (.iload_n 1, 1) := by decide +kernel
theorem dX2_add_24 : decode cX2_add 24 = .ok (.iastore, 1) := by decide +kernel
theorem dX2_add_25 : decode cX2_add 25 = .ok (.aload_n 0, 1) := by decide +kernel
theorem dX2_add_26 : decode cX2_add 26 = .ok (.getfield 15, 3) := by decide +kernel
theorem dX2_add_29 : decode cX2_add 29 = .ok (.aload_n 0, 1) := by decide +kernel
theorem dX2_add_30 : decode cX2_add 30 = .ok (.getfield 21, 3) := by decide +kernel
theorem dX2_add_33 : decode cX2_add 33 = .ok (.iconst 0, 1) := by decide +kernel
theorem dX2_add_34 : decode cX2_add 34 = .ok (.iastore, 1) := by decide +kernel
theorem dX2_add_35 : decode cX2_add 35 = .ok (.aload_n 0, 1) := by decide +kernel
theorem dX2_add_36 : decode cX2_add 36 = .ok (.getfield 18, 3) := by decide +kernel
theorem dX2_add_39 : decode cX2_add 39 = .ok (.aload_n 0, 1) := by decide +kernel
theorem dX2_add_40 : decode cX2_add 40 = .ok (.getfield 21, 3) := by decide +kernel
theorem dX2_add_43 : decode cX2_add 43 = .ok (.iconst (-1), 1) := by decide +kernel
theorem dX2_add_44 : decode cX2_add 44 = .ok (.iastore, 1) := by decide +kernel
theorem dX2_add_45 : decode cX2_add 45 = .ok (.aload_n 0, 1) := by decide +kernel
theorem dX2_add_46 : decode cX2_add 46 = .ok (.dup, 1) := by decide +kernel
theorem dX2_add_47 : decode cX2_add 47 = .ok (.getfield 21, 3) := by decide +kernel
theorem dX2_add_50 : decode cX2_add 50 = .ok (.iconst 1, 1) := by decide +kernel
theorem dX2_add_51 : decode cX2_add 51 = .ok (.iadd, 1) := by decide +kernel
theorem dX2_add_52 : decode cX2_add 52 = .ok (.putfield 21, 3) := by decide +kernel
theorem dX2_add_55 : decode cX2_add 55 = .ok (.aload_n 0, 1) := by decide +kernel
theorem dX2_add_56 : decode cX2_add 56 = .ok (.getfield 21, 3) := by decide +kernel
theorem dX2_add_59 : decode cX2_add 59 = .ok (.iconst 1, 1) := by decide +kernel
theorem dX2_add_60 : decode cX2_add 60 = .ok (.isub, 1) := by decide +kernel
theorem dX2_add_61 : decode cX2_add 61 = .ok (.ireturn, 1) := by decide +kernel
theorem dX2_tellCrosses_0 : decode cX2_tellCrosses 0 = .ok (.iconst 0, 1) := by decide +kernel
theorem dX2_tellCrosses_1 : decode cX2_tellCrosses 1 = .ok (.istore_n 2, 1) := by decide +kernel
theorem dX2_tellCrosses_2 : decode cX2_tellCrosses 2 = .ok (.iload_n 2, 1) := by decide +kernel
theorem dX2_tellCrosses_3 : decode cX2_tellCrosses 3 = .ok (.bipush 12, 2) := by decide +kernel
theorem dX2_tellCrosses_5 : decode cX2_tellCrosses 5 = .ok (.if_icmp .ge 51, 3) := by decide +kernel
theorem dX2_tellCrosses_8 : decode cX2_tellCrosses 8 = .ok (.iload_n 2, 1) := by decide +kernel
theorem dX2_tellCrosses_9 : decode cX2_tellCrosses 9 = .ok (.aload_n 0, 1) := by decide +kernel
theorem dX2_tellCrosses_10 : decode cX2_tellCrosses 10 = .ok (.getfield 21, 3) := by decide +kernel
theorem dX2_tellCrosses_13 : decode cX2_tellCrosses 13 = .ok (.if_icmp .ge 37, 3) := by decide +kernel
theorem dX2_tellCrosses_16 : decode cX2_tellCrosses 16 = .ok (.aload_n 0, 1) := by decide +kernel
theorem dX2_tellCrosses_17 : decode cX2_tellCrosses 17 = .ok (.getfield 15, 3) := by decide +kernel
theorem dX2_tellCrosses_20 : decode cX2_tellCrosses 20 = .ok (.iload_n 2, 1) := by decide +kernel
theorem dX2_tellCrosses_21 : decode cX2_tellCrosses 21 = .ok (.iaload, 1) := by decide +kernel
theorem dX2_tellCrosses_22 : decode cX2_tellCrosses 22 = .ok (.iconst 1, 1) := by decide +kernel
theorem dX2_tellCrosses_23 : decode cX2_tellCrosses 23 = .ok (.if_icmp .ne 27, 3) := by decide +kernel
theorem dX2_tellCrosses_26 : decode cX2_tellCrosses 26 = .ok (.aload_n 0, 1) := by decide +kernel
theorem dX2_tellCrosses_27 : decode cX2_tellCrosses 27 = .ok (.getfield 11, 3) := by decide +kernel
theorem dX2_tellCrosses_30 : decode cX2_tellCrosses 30 = .ok (.iload_n 2, 1) := by decide +kernel
theorem dX2_tellCrosses_31 : decode cX2_tellCrosses 31 = .ok (.iaload, 1) := by decide +kernel
theorem dX2_tellCrosses_32 : decode cX2_tellCrosses 32 = .ok (.iconst 0, 1) := by decide +kernel
theorem dX2_tellCrosses_33 : decode cX2_tellCrosses 33 = .ok (.bipush 47, 2) := by decide +kernel
theorem dX2_tellCrosses_35 : decode cX2_tellCrosses 35 = .ok (.invokestatic 25, 3) := by decide +kernel
theorem dX2_tellCrosses_38 : decode cX2_tellCrosses 38 = .ok (.ifCond .eq 12, 3) := by decide +kernel
theorem dX2_tellCrosses_41 : decode cX2_tellCrosses 41 = .ok (.aload_n 1, 1) := by decide +kernel
theorem dX2_tellCrosses_42 : decode cX2_tellCrosses 42 = .ok (.aload_n 0, 1) := by decide +kernel
theorem dX2_tellCrosses_43 : decode cX2_tellCrosses 43 = .ok (.getfield 11, 3) := by decide +kernel
theorem dX2_tellCrosses_46 : decode cX2_tellCrosses 46 = .ok (.iload_n 2, 1) := by decide +kernel
theorem dX2_tellCrosses_47 : decode cX2_tellCrosses 47 = .ok (.iaload, 1) := by decide +kernel
theorem dX2_tellCrosses_48 : decode cX2_tellCrosses 48 = .ok (.iconst 2, 1) := by decide +kernel
theorem dX2_tellCrosses_49 : decode cX2_tellCrosses 49 = .ok (.iastore, 1) := by decide +kernel
theorem dX2_tellCrosses_50 : decode cX2_tellCrosses 50 = .ok (.iinc 2 1, 3) := by decide +kernel
theorem dX2_tellCrosses_53 : decode cX2_tellCrosses 53 = .ok (.goto (-51), 3) := by decide +kernel
theorem dX2_tellCrosses_56 : decode cX2_tellCrosses 56 = .ok (.return_, 1) := by decide +kernel
theorem dX3_init_0 : decode cX3_init 0 = .ok (.aload_n 0, 1) := by decide +kernel
theorem dX3_init_1 : decode cX3_init 1 = .ok (.invokespecial 3, 3) := by decide +kernel
theorem dX3_init_4 : decode cX3_init 4 = .ok (.aload_n 0, 1) := by decide +kernel
theorem dX3_init_5 : decode cX3_init 5 = .ok (.bipush 48, 2) := by decide +kernel
theorem dX3_init_7 : decode cX3_init 7 = .ok (.newarray .int, 2) := by decide +kernel
theorem dX3_init_9 : decode cX3_init 9 = .ok (.putfield 9, 3) := by decide +kernel
theorem dX3_init_12 : decode cX3_init 12 = .ok (.aload_n 0, 1) := by decide +kernel
theorem dX3_init_13 : decode cX3_init 13 = .ok (.bipush 48, 2) := by decide +kernel
theorem dX3_init_15 : decode cX3_init 15 = .ok (.newarray .int, 2) := by decide +kernel
theorem dX3_init_17 : decode cX3_init 17 = .ok (.putfield 15, 3) := by decide +kernel
theorem dX3_init_20 : decode cX3_init 20 = .ok (.aload_n 0, 1) := by decide +kernel
theorem dX3_init_21 : decode cX3_init 21 = .ok (.bipush 48, 2) := by decide +kernel
theorem dX3_init_23 : decode cX3_init 23 = .ok (.newarray .int, 2) := by decide +kernel
theorem dX3_init_25 : decode cX3_init 25 = .ok (.putfield 18, 3) := by decide +kernel
theorem dX3_init_28 : decode cX3_init 28 = .ok (.iconst 0, 1) := by decide +kernel
theorem dX3_init_29 : decode cX3_init 29 = .ok (.istore_n 1, 1) := by decide +kernel
theorem dX3_init_30 : decode cX3_init 30 = .ok (.iload_n 1, 1) := by decide +kernel
theorem dX3_init_31 : decode cX3_init 31 = .ok (.bipush 48, 2) := by decide +kernel
theorem dX3_init_33 : decode cX3_init 33 = .ok (.if_icmp .ge 16, 3) := by decide +kernel
theorem dX3_init_36 : decode cX3_init 36 = .ok (.aload_n 0, 1) := by decide +kernel
theorem dX3_init_37 : decode cX3_init 37 = .ok (.getfield 9, 3) := by decide +kernel
theorem dX3_init_40 : decode cX3_init 40 = .ok (.iload_n 1, 1) := by decide +kernel
theorem dX3_init_41 : decode cX3_init 41 = .ok (.iconst (-1), 1) := by decide +kernel
theorem dX3_init_42 : decode cX3_init 42 = .ok (.iastore, 1) := by decide +kernel
theorem dX3_init_43 : decode cX3_init 43 = .ok (.iinc 1 1, 3) := by decide +kernel
theorem dX3_init_46 : decode cX3_init 46 = .ok (.goto (-16), 3) := by decide +kernel
theorem dX3_init_49 : decode cX3_init 49 = .ok (.return_, 1) := by decide +kernel
theorem dX3_setAnew_0 : decode cX3_setAnew 0 = .ok (.iconst 0, 1) := by decide +kernel
theorem dX3_setAnew_1 : decode cX3_setAnew 1 = .ok (.istore 5, 2) := by decide +kernel
theorem dX3_setAnew_3 : decode cX3_setAnew 3 = .ok (.iload 5, 2) := by decide +kernel
theorem dX3_setAnew_5 : decode cX3_setAnew 5 = .ok (.bipush 48, 2) := by decide +kernel
theorem dX3_setAnew_7 : decode cX3_setAnew 7 = .ok (.if_icmp .ge 17, 3) := by decide +kernel
theorem dX3_setAnew_10 : decode cX3_setAnew 10 = .ok (.aload_n 0, 1) := by decide +kernel
theorem dX3_setAnew_11 : decode cX3_setAnew 11 = .ok (.getfield 15, 3) := by decide +kernel
theorem dX3_setAnew_14 : decode cX3_setAnew 14 = .ok (.iload 5, 2) := by decide +kernel
theorem dX3_setAnew_16 : decode cX3_setAnew 16 = .ok (.iconst 0, 1) := by decide +kernel
theorem dX3_setAnew_17 : decode cX3_setAnew 17 = .ok (.iastore, 1) := by decide +kernel
theorem dX3_setAnew_18 : decode cX3_setAnew 18 = .ok (.iinc 5 1, 3) := by decide +kernel
theorem dX3_setAnew_21 : decode cX3_setAnew 21 = .ok (.goto (-18), 3) := by decide +kernel
theorem dX3_setAnew_24 : decode cX3_setAnew 24 = .ok (.aload_n 2, 1) := by decide +kernel
theorem dX3_setAnew_25 : decode cX3_setAnew 25 = .ok (.aload_n 0, 1) := by decide +kernel
theorem dX3_setAnew_26 : decode cX3_setAnew 26 = .ok (.getfield 15, 3) := by decide +kernel
theorem dX3_setAnew_29 : decode cX3_setAnew 29 = .ok (.invokevirtual 21, 3) := by decide +kernel
theorem dX3_setAnew_32 : decode cX3_setAnew 32 = .ok (.aload_n 3, 1) := by decide +kernel
theorem dX3_setAnew_33 : decode cX3_setAnew 33 = .ok (.aload_n 0, 1) := by decide +kernel
theorem dX3_setAnew_34 : decode cX3_setAnew 34 = .ok (.getfield 15, 3) := by decide +kernel
theorem dX3_setAnew_37 : decode cX3_setAnew 37 = .ok (.invokevirtual 27, 3) := by decide +kernel
theorem dX3_setAnew_40 : decode cX3_setAnew 40 = .ok (.aload 4, 2) := by decide +kernel
theorem dX3_setAnew_42 : decode cX3_setAnew 42 = .ok (.aload_n 0, 1) := by decide +kernel
theorem dX3_setAnew_43 : decode cX3_setAnew 43 = .ok (.getfield 15, 3) := by decide +kernel
theorem dX3_setAnew_46 : decode cX3_setAnew 46 = .ok (.iload_n 1, 1) := by decide +kernel
theorem dX3_setAnew_47 : decode cX3_setAnew 47 = .ok (.invokevirtual 30, 3) := by decide +kernel
theorem dX3_setAnew_50 : decode cX3_setAnew 50 = .ok (.iconst 0, 1) := by decide +kernel
theorem dX3_setAnew_51 : decode cX3_setAnew 51 = .ok (.istore 5, 2) := by decide +kernel
theorem dX3_setAnew_53 : decode cX3_setAnew 53 = .ok (.iload 5, 2) := by decide +kernel
theorem dX3_setAnew_55 : decode cX3_setAnew 55 = .ok (.bipush 48, 2) := by decide +kernel
theorem dX3_setAnew_57 : decode cX3_setAnew 57 = .ok (.if_icmp .ge 34, 3) := by decide +kernel
theorem dX3_setAnew_60 : decode cX3_setAnew 60 = .ok (.aload_n 0, 1) := by decide +kernel
theorem dX3_setAnew_61 : decode cX3_setAnew 61 = .ok (.getfield 9, 3) := by decide +kernel
theorem dX3_setAnew_64 : decode cX3_setAnew 64 = .ok (.iload 5, 2) := by decide +kernel
theorem dX3_setAnew_66 : decode cX3_setAnew 66 = .ok (.iaload, 1) := by decide +kernel
theorem dX3_setAnew_67 : decode cX3_setAnew 67 = .ok (.iconst (-1), 1) := by decide +kernel
theorem dX3_setAnew_68 : decode cX3_setAnew 68 = .ok (.if_icmp .eq 17, 3) := by decide +kernel
theorem dX3_setAnew_71 : decode cX3_setAnew 71 = .ok (.aload_n 0, 1) := by decide +kernel
theorem dX3_setAnew_72 : decode cX3_setAnew 72 = .ok (.getfield 15, 3) := by decide +kernel
theorem dX3_setAnew_75 : decode cX3_setAnew 75 = .ok (.iload 5, 2) := by decide +kernel
theorem dX3_setAnew_77 : decode cX3_setAnew 77 = .ok (.aload_n 0, 1) := by decide +kernel
theorem dX3_setAnew_78 : decode cX3_setAnew 78 = .ok (.getfield 9, 3) := by decide +kernel
theorem dX3_setAnew_81 : decode cX3_setAnew 81 = .ok (.iload 5, 2) := by decide +kernel
theorem dX3_setAnew_83 : decode cX3_setAnew 83 = .ok (.iaload, 1) := by decide +kernel
theorem dX3_setAnew_84 : decode cX3_setAnew 84 = .ok (.iastore, 1) := by decide +kernel
theorem dX3_setAnew_85 : decode cX3_setAnew 85 = .ok (.iinc 5 1, 3) := by decide +kernel
theorem dX3_setAnew_88 : decode cX3_setAnew 88 = .ok (.goto (-35), 3) := by decide +kernel
theorem dX3_setAnew_91 : decode cX3_setAnew 91 = .ok (.iconst 0, 1) := by decide +kernel
theorem dX3_setAnew_92 : decode cX3_setAnew 92 = .ok (.istore 5, 2) := by decide +kernel
theorem dX3_setAnew_94 : decode cX3_setAnew 94 = .ok (.iload 5, 2) := by decide +kernel
theorem dX3_setAnew_96 : decode cX3_setAnew 96 = .ok (.bipush 48, 2) := by decide +kernel
theorem dX3_setAnew_98 : decode cX3_setAnew 98 = .ok (.if_icmp .ge 49, 3) := by decide +kernel
theorem dX3_setAnew_101 : decode cX3_setAnew 101 = .ok (.aload_n 0, 1) := by decide +kernel
theorem dX3_setAnew_102 : decode cX3_setAnew 102 = .ok (.getfield 18, 3) := by decide +kernel
theorem dX3_setAnew_105 : decode cX3_setAnew 105 = .ok (.iload 5, 2) := by decide +kernel
theorem dX3_setAnew_107 : decode cX3_setAnew 107 = .ok (.aload_n 0, 1) := by decide +kernel
theorem dX3_setAnew_108 : decode cX3_setAnew 108 = .ok (.getfield 15, 3) := by decide +kernel
theorem dX3_setAnew_111 : decode cX3_setAnew 111 = .ok (.iload 5, 2) := by decide +kernel
theorem dX3_setAnew_113 : decode cX3_setAnew 113 = .ok (.iaload, 1) := by decide +kernel
theorem dX3_setAnew_114 : decode cX3_setAnew 114 = .ok (.ifCond .ne 19, 3) := by decide +kernel
theorem dX3_setAnew_117 : decode cX3_setAnew 117 = .ok (.iload 5, 2) := by decide +kernel
theorem dX3_setAnew_119 : decode cX3_setAnew 119 = .ok (.aload_n 0, 1) := by decide +kernel
theorem dX3_setAnew_120 : decode cX3_setAnew 120 = .ok (.getfield 15, 3) := by decide +kernel
theorem dX3_setAnew_123 : decode cX3_setAnew 123 = .ok (.invokestatic 35, 3) := by decide +kernel
theorem dX3_setAnew_126 : decode cX3_setAnew 126 = .ok (.ifCond .eq 7, 3) := by decide +kernel
theorem dX3_setAnew_129 : decode cX3_setAnew 129 = .ok (.iconst 1, 1) := by decide +kernel
theorem dX3_setAnew_130 : decode cX3_setAnew 130 = .ok (.goto 10, 3) := by decide +kernel
theorem dX3_setAnew_133 : decode cX3_setAnew 133 = .ok (.aload_n 0, 1) := by decide +kernel
theorem dX3_setAnew_134 : decode cX3_setAnew 134 = .ok (.getfield 15, 3) := by decide +kernel
theorem dX3_setAnew_137 : decode cX3_setAnew 137 = .ok (.iload 5, 2) := by decide +kernel
theorem dX3_setAnew_139 : decode cX3_setAnew 139 = .ok (.iaload, 1) := by decide +kernel
theorem dX3_setAnew_140 : decode cX3_setAnew 140 = .ok (.iastore, 1) := by decide +kernel
theorem dX3_setAnew_141 : decode cX3_setAnew 141 = .ok (.iinc 5 1, 3) := by decide +kernel
theorem dX3_setAnew_144 : decode cX3_setAnew 144 = .ok (.goto (-50), 3) := by decide +kernel
theorem dX3_setAnew_147 : decode cX3_setAnew 147 = .ok (.return_, 1) := by decide +kernel
theorem dX3_areLawful_0 : decode cX3_areLawful 0 = .ok (.iconst 0, 1) := by decide +kernel
theorem dX3_areLawful_1 : decode cX3_areLawful 1 = .ok (.istore_n 1, 1) := by decide +kernel
theorem dX3_areLawful_2 : decode cX3_areLawful 2 = .ok (.iload_n 1, 1) := by decide +kernel
theorem dX3_areLawful_3 : decode cX3_areLawful 3 = .ok (.bipush 48, 2) := by decide +kernel
theorem dX3_areLawful_5 : decode cX3_areLawful 5 = .ok (.if_icmp .ge 31, 3) := by decide +kernel
theorem dX3_areLawful_8 : decode cX3_areLawful 8 = .ok (.aload_n 0, 1) := by decide +kernel
theorem dX3_areLawful_9 : decode cX3_areLawful 9 = .ok (.getfield 18, 3) := by decide +kernel
theorem dX3_areLawful_12 : decode cX3_areLawful 12 = .ok (.iload_n 1, 1) := by decide +kernel
theorem dX3_areLawful_13 : decode cX3_areLawful 13 = .ok (.iaload, 1) := by decide +kernel
theorem dX3_areLawful_14 : decode cX3_areLawful 14 = .ok (.ifCond .ne 16, 3) := by decide +kernel
theorem dX3_areLawful_17 : decode cX3_areLawful 17 = .ok (.iload_n 1, 1) := by decide +kernel
theorem dX3_areLawful_18 : decode cX3_areLawful 18 = .ok (.aload_n 0, 1) := by decide +kernel
theorem dX3_areLawful_19 : decode cX3_areLawful 19 = .ok (.getfield 18, 3) := by decide +kernel
theorem dX3_areLawful_22 : decode cX3_areLawful 22 = .ok (.invokestatic 35, 3) := by decide +kernel
theorem dX3_areLawful_25 : decode cX3_areLawful 25 = .ok (.ifCond .eq 5, 3) := by decide +kernel
theorem dX3_areLawful_28 : decode cX3_areLawful 28 = .ok (.iconst 0, 1) := by decide +kernel
theorem dX3_areLawful_29 : decode cX3_areLawful 29 = .ok (.ireturn, 1) := by decide +kernel
theorem dX3_areLawful_30 : decode cX3_areLawful 30 = .ok (.iinc 1 1, 3) := by decide +kernel
theorem dX3_areLawful_33 : decode cX3_areLawful 33 = .ok (.goto (-31), 3) := by decide +kernel
theorem dX3_areLawful_36 : decode cX3_areLawful 36 = .ok (.iconst 1, 1) := by decide +kernel
theorem dX3_areLawful_37 : decode cX3_areLawful 37 = .ok (.ireturn, 1) := by decide +kernel
theorem dX3_isAheadOfCross_0 : decode cX3_isAheadOfCross 0 = .ok (.iload_n 0, 1) := by decide +kernel
theorem dX3_isAheadOfCross_1 : decode cX3_isAheadOfCross 1 = .ok (.iconst 4, 1) := by decide +kernel
theorem dX3_isAheadOfCross_2 : decode cX3_isAheadOfCross 2 = .ok (.iadd, 1) := by decide +kernel
theorem dX3_isAheadOfCross_3 : decode cX3_isAheadOfCross 3 = .ok (.istore_n 2, 1) := by decide +kernel
theorem dX3_isAheadOfCross_4 : decode cX3_isAheadOfCross 4 = .ok (.iload_n 2, 1) := by decide +kernel
theorem dX3_isAheadOfCross_5 : decode cX3_isAheadOfCross 5 = .ok (.iconst 0, 1) := by decide +kernel
theorem dX3_isAheadOfCross_6 : decode cX3_isAheadOfCross 6 = .ok (.bipush 47, 2) := by decide +kernel
theorem dX3_isAheadOfCross_8 : decode cX3_isAheadOfCross 8 = .ok (.invokestatic 39, 3) := by decide +kernel
theorem dX3_isAheadOfCross_11 : decode cX3_isAheadOfCross 11 = .ok (.ifCond .eq 14, 3) := by decide +kernel
theorem dX3_isAheadOfCross_14 : decode cX3_isAheadOfCross 14 = .ok (.aload_n 1, 1) := by decide +kernel
theorem dX3_isAheadOfCross_15 : decode cX3_isAheadOfCross 15 = .ok (.iload_n 2, 1) := by decide +kernel
theorem dX3_isAheadOfCross_16 : decode cX3_isAheadOfCross 16 = .ok (.iaload, 1) := by decide +kernel
theorem dX3_isAheadOfCross_17 : decode cX3_isAheadOfCross 17 = .ok (.iconst 2, 1) := by decide +kernel
theorem dX3_isAheadOfCross_18 : decode cX3_isAheadOfCross 18 = .ok (.if_icmp .ne 7, 3) := by decide +kernel
theorem dX3_isAheadOfCross_21 : decode cX3_isAheadOfCross 21 = .ok (.iconst 1, 1) := by decide +kernel
theorem dX3_isAheadOfCross_22 : decode cX3_isAheadOfCross 22 = .ok (.goto 4, 3) := by decide +kernel
theorem dX3_isAheadOfCross_25 : decode cX3_isAheadOfCross 25 = .ok (.iconst 0, 1) := by decide +kernel
theorem dX3_isAheadOfCross_26 : decode cX3_isAheadOfCross 26 = .ok (.ireturn, 1) := by decide +kernel
theorem dX4_init_0 : decode cX4_init 0 = .ok (.aload_n 0, 1) := by decide +kernel
theorem dX4_init_1 : decode cX4_init 1 = .ok (.invokespecial 3, 3) := by decide +kernel
theorem dX4_init_4 : decode cX4_init 4 = .ok (.aload_n 0, 1) := by decide +kernel
theorem dX4_init_5 : decode cX4_init 5 = .ok (.iconst 3, 1) := by decide +kernel
theorem dX4_init_6 : decode cX4_init 6 = .ok (.newarray .int, 2) := by decide +kernel
theorem dX4_init_8 : decode cX4_init 8 = .ok (.putfield 11, 3) := by decide +kernel
theorem dX4_init_11 : decode cX4_init 11 = .ok (.aload_n 0, 1) := by decide +kernel
theorem dX4_init_12 : decode cX4_init 12 = .ok (.iconst 3, 1) := by decide +kernel
theorem dX4_init_13 : decode cX4_init 13 = .ok (.newarray .int, 2) := by decide +kernel
theorem dX4_init_15 : decode cX4_init 15 = .ok (.dup, 1) := by decide +kernel
theorem dX4_init_16 : decode cX4_init 16 = .ok (.iconst 0, 1) := by decide +kernel
theorem dX4_init_17 : decode cX4_init 17 = .ok (.iconst (-1), 1) := by decide +kernel
theorem dX4_init_18 : decode cX4_init 18 = .ok (.iastore, 1) := by decide +kernel
theorem dX4_init_19 : decode cX4_init 19 = .ok (.dup, 1) := by decide +kernel
theorem dX4_init_20 : decode cX4_init 20 = .ok (.iconst 1, 1) := by decide +kernel
theorem dX4_init_21 : decode cX4_init 21 = .ok (.iconst (-1), 1) := by decide +kernel
theorem dX4_init_22 : decode cX4_init 22 = .ok (.iastore, 1) := by decide +kernel
theorem dX4_init_23 : decode cX4_init 23 = .ok (.dup, 1) := by decide +kernel
theorem dX4_init_24 : decode cX4_init 24 = .ok (.iconst 2, 1) := by decide +kernel
theorem dX4_init_25 : decode cX4_init 25 = .ok (.iconst (-1), 1) := by decide +kernel
theorem dX4_init_26 : decode cX4_init 26 = .ok (.iastore, 1) := by decide +kernel
theorem dX4_init_27 : decode cX4_init 27 = .ok (.putfield 15, 3) := by decide +kernel
theorem dX4_init_30 : decode cX4_init 30 = .ok (.aload_n 0, 1) := by decide +kernel
theorem dX4_init_31 : decode cX4_init 31 = .ok (.iconst 3, 1) := by decide +kernel
theorem dX4_init_32 : decode cX4_init 32 = .ok (.newarray .int, 2) := by decide +kernel
theorem dX4_init_34 : decode cX4_init 34 = .ok (.putfield 18, 3) := by decide +kernel
theorem dX4_init_37 : decode cX4_init 37 = .ok (.return_, 1) := by decide +kernel
theorem dX5_init_0 : decode cX5_init 0 = .ok (.aload_n 0, 1) := by decide +kernel
theorem dX5_init_1 : decode cX5_init 1 = .ok (.invokespecial 3, 3) := by decide +kernel
theorem dX5_init_4 : decode cX5_init 4 = .ok (.aload_n 0, 1) := by decide +kernel
theorem dX5_init_5 : decode cX5_init 5 = .ok (.sipush 720, 3) := by decide +kernel
theorem dX5_init_8 : decode cX5_init 8 = .ok (.newarray .int, 2) := by decide +kernel
theorem dX5_init_10 : decode cX5_init 10 = .ok (.putfield 11, 3) := by decide +kernel
theorem dX5_init_13 : decode cX5_init 13 = .ok (.return_, 1) := by decide +kernel
theorem dX5_isKept_0 : decode cX5_isKept 0 = .ok (.iload_n 0, 1) := by decide +kernel
theorem dX5_isKept_1 : decode cX5_isKept 1 = .ok (.iload_n 1, 1) := by decide +kernel
theorem dX5_isKept_2 : decode cX5_isKept 2 = .ok (.bipush 60, 2) := by decide +kernel
theorem dX5_isKept_4 : decode cX5_isKept 4 = .ok (.isub, 1) := by decide +kernel
theorem dX5_isKept_5 : decode cX5_isKept 5 = .ok (.iconst 1, 1) := by decide +kernel
theorem dX5_isKept_6 : decode cX5_isKept 6 = .ok (.iadd, 1) := by decide +kernel
theorem dX5_isKept_7 : decode cX5_isKept 7 = .ok (.iload_n 1, 1) := by decide +kernel
theorem dX5_isKept_8 : decode cX5_isKept 8 = .ok (.invokestatic 15, 3) := by decide +kernel
theorem dX5_isKept_11 : decode cX5_isKept 11 = .ok (.ireturn, 1) := by decide +kernel
theorem dX5_keep_0 : decode cX5_keep 0 = .ok (.iconst 0, 1) := by decide +kernel
theorem dX5_keep_1 : decode cX5_keep 1 = .ok (.istore 4, 2) := by decide +kernel
theorem dX5_keep_3 : decode cX5_keep 3 = .ok (.iload 4, 2) := by decide +kernel
theorem dX5_keep_5 : decode cX5_keep 5 = .ok (.bipush 12, 2) := by decide +kernel
theorem dX5_keep_7 : decode cX5_keep 7 = .ok (.if_icmp .ge 58, 3) := by decide +kernel
theorem dX5_keep_10 : decode cX5_keep 10 = .ok (.aload_n 2, 1) := by decide +kernel
theorem dX5_keep_11 : decode cX5_keep 11 = .ok (.iload 4, 2) := by decide +kernel
theorem dX5_keep_13 : decode cX5_keep 13 = .ok (.iaload, 1) := by decide +kernel
theorem dX5_keep_14 : decode cX5_keep 14 = .ok (.istore 5, 2) := by decide +kernel
theorem dX5_keep_16 : decode cX5_keep 16 = .ok (.iconst 3, 1) := by decide +kernel
theorem dX5_keep_17 : decode cX5_keep 17 = .ok (.istore 6, 2) := by decide +kernel
theorem dX5_keep_19 : decode cX5_keep 19 = .ok (.iload 6, 2) := by decide +kernel
theorem dX5_keep_21 : decode cX5_keep 21 = .ok (.ifCond .lt 25, 3) := by decide +kernel
theorem dX5_keep_24 : decode cX5_keep 24 = .ok (.iload 5, 2) := by decide +kernel
theorem dX5_keep_26 : decode cX5_keep 26 = .ok (.iconst 4, 1) := by decide +kernel
theorem dX5_keep_27 : decode cX5_keep 27 = .ok (.imul, 1) := by decide +kernel
theorem dX5_keep_28 : decode cX5_keep 28 = .ok (.aload_n 3, 1) := by decide +kernel
theorem dX5_keep_29 : decode cX5_keep 29 = .ok (.iload 4, 2) := by decide +kernel
theorem dX5_keep_31 : decode cX5_keep 31 = .ok (.iload 6, 2) := by decide +kernel
theorem dX5_keep_33 : decode cX5_keep 33 = .ok (.invokestatic 19, 3) := by decide +kernel
theorem dX5_keep_36 : decode cX5_keep 36 = .ok (.iaload, 1) := by decide +kernel
theorem dX5_keep_37 : decode cX5_keep 37 = .ok (.iadd, 1) := by decide +kernel
theorem dX5_keep_38 : decode cX5_keep 38 = .ok (.istore 5, 2) := by decide +kernel
theorem dX5_keep_40 : decode cX5_keep 40 = .ok (.iinc 6 (-1), 3) := by decide +kernel
theorem dX5_keep_43 : decode cX5_keep 43 = .ok (.goto (-24), 3) := by decide +kernel
theorem dX5_keep_46 : decode cX5_keep 46 = .ok (.aload_n 0, 1) := by decide +kernel
theorem dX5_keep_47 : decode cX5_keep 47 = .ok (.getfield 11, 3) := by decide +kernel
theorem dX5_keep_50 : decode cX5_keep 50 = .ok (.iload_n 1, 1) := by decide +kernel
theorem dX5_keep_51 : decode cX5_keep 51 = .ok (.iload 4, 2) := by decide +kernel
theorem dX5_keep_53 : decode cX5_keep 53 = .ok (.invokestatic 23, 3) := by decide +kernel
theorem dX5_keep_56 : decode cX5_keep 56 = .ok (.iload 5, 2) := by decide +kernel
theorem dX5_keep_58 : decode cX5_keep 58 = .ok (.iastore, 1) := by decide +kernel
theorem dX5_keep_59 : decode cX5_keep 59 = .ok (.iinc 4 1, 3) := by decide +kernel
theorem dX5_keep_62 : decode cX5_keep 62 = .ok (.goto (-59), 3) := by decide +kernel
theorem dX5_keep_65 : decode cX5_keep 65 = .ok (.return_, 1) := by decide +kernel
theorem dX5_speedSign_0 : decode cX5_speedSign 0 = .ok (.aload_n 0, 1) := by decide +kernel
theorem dX5_speedSign_1 : decode cX5_speedSign 1 = .ok (.getfield 11, 3) := by decide +kernel
theorem dX5_speedSign_4 : decode cX5_speedSign 4 = .ok (.iload_n 1, 1) := by decide +kernel
theorem dX5_speedSign_5 : decode cX5_speedSign 5 = .ok (.iload_n 2, 1) := by decide +kernel
theorem dX5_speedSign_6 : decode cX5_speedSign 6 = .ok (.invokestatic 23, 3) := by decide +kernel
theorem dX5_speedSign_9 : decode cX5_speedSign 9 = .ok (.iaload, 1) := by decide +kernel
theorem dX5_speedSign_10 : decode cX5_speedSign 10 = .ok (.bipush 8, 2) := by decide +kernel
theorem dX5_speedSign_12 : decode cX5_speedSign 12 = .ok (.ishr, 1) := by decide +kernel
theorem dX5_speedSign_13 : decode cX5_speedSign 13 = .ok (.ireturn, 1) := by decide +kernel
theorem dX5_laneSign_0 : decode cX5_laneSign 0 = .ok (.aload_n 0, 1) := by decide +kernel
theorem dX5_laneSign_1 : decode cX5_laneSign 1 = .ok (.getfield 11, 3) := by decide +kernel
theorem dX5_laneSign_4 : decode cX5_laneSign 4 = .ok (.iload_n 1, 1) := by decide +kernel
theorem dX5_laneSign_5 : decode cX5_laneSign 5 = .ok (.iload_n 2, 1) := by decide +kernel
theorem dX5_laneSign_6 : decode cX5_laneSign 6 = .ok (.invokestatic 23, 3) := by decide +kernel
theorem dX5_laneSign_9 : decode cX5_laneSign 9 = .ok (.iaload, 1) := by decide +kernel
theorem dX5_laneSign_10 : decode cX5_laneSign 10 = .ok (.iconst 2, 1) := by decide +kernel
theorem dX5_laneSign_11 : decode cX5_laneSign 11 = .ok (.iload_n 3, 1) := by decide +kernel
theorem dX5_laneSign_12 : decode cX5_laneSign 12 = .ok (.imul, 1) := by decide +kernel
theorem dX5_laneSign_13 : decode cX5_laneSign 13 = .ok (.ishr, 1) := by decide +kernel
theorem dX5_laneSign_14 : decode cX5_laneSign 14 = .ok (.iconst 3, 1) := by decide +kernel
theorem dX5_laneSign_15 : decode cX5_laneSign 15 = .ok (.iand, 1) := by decide +kernel
theorem dX5_laneSign_16 : decode cX5_laneSign 16 = .ok (.ireturn, 1) := by decide +kernel
theorem dX5_slotOf_0 : decode cX5_slotOf 0 = .ok (.iload_n 0, 1) := by decide +kernel
theorem dX5_slotOf_1 : decode cX5_slotOf 1 = .ok (.bipush 60, 2) := by decide +kernel
theorem dX5_slotOf_3 : decode cX5_slotOf 3 = .ok (.invokestatic 26, 3) := by decide +kernel
theorem dX5_slotOf_6 : decode cX5_slotOf 6 = .ok (.bipush 12, 2) := by decide +kernel
theorem dX5_slotOf_8 : decode cX5_slotOf 8 = .ok (.imul, 1) := by decide +kernel
theorem dX5_slotOf_9 : decode cX5_slotOf 9 = .ok (.iload_n 1, 1) := by decide +kernel
theorem dX5_slotOf_10 : decode cX5_slotOf 10 = .ok (.iadd, 1) := by decide +kernel
theorem dX5_slotOf_11 : decode cX5_slotOf 11 = .ok (.ireturn, 1) := by decide +kernel
theorem dX6_init_0 : decode cX6_init 0 = .ok (.aload_n 0, 1) := by decide +kernel
theorem dX6_init_1 : decode cX6_init 1 = .ok (.invokespecial 3, 3) := by decide +kernel
theorem dX6_init_4 : decode cX6_init 4 = .ok (.aload_n 0, 1) := by decide +kernel
theorem dX6_init_5 : decode cX6_init 5 = .ok (.bipush 12, 2) := by decide +kernel
theorem dX6_init_7 : decode cX6_init 7 = .ok (.newarray .boolean, 2) := by decide +kernel
theorem dX6_init_9 : decode cX6_init 9 = .ok (.putfield 9, 3) := by decide +kernel
theorem dX6_init_12 : decode cX6_init 12 = .ok (.aload_n 0, 1) := by decide +kernel
theorem dX6_init_13 : decode cX6_init 13 = .ok (.bipush 12, 2) := by decide +kernel
theorem dX6_init_15 : decode cX6_init 15 = .ok (.newarray .int, 2) := by decide +kernel
theorem dX6_init_17 : decode cX6_init 17 = .ok (.putfield 15, 3) := by decide +kernel
theorem dX6_init_20 : decode cX6_init 20 = .ok (.iconst 0, 1) := by decide +kernel
theorem dX6_init_21 : decode cX6_init 21 = .ok (.istore_n 1, 1) := by decide +kernel
theorem dX6_init_22 : decode cX6_init 22 = .ok (.iload_n 1, 1) := by decide +kernel
theorem dX6_init_23 : decode cX6_init 23 = .ok (.bipush 12, 2) := by decide +kernel
theorem dX6_init_25 : decode cX6_init 25 = .ok (.if_icmp .ge 18, 3) := by decide +kernel
theorem dX6_init_28 : decode cX6_init 28 = .ok (.aload_n 0, 1) := by decide +kernel
theorem dX6_init_29 : decode cX6_init 29 = .ok (.getfield 15, 3) := by decide +kernel
theorem dX6_init_32 : decode cX6_init 32 = .ok (.iload_n 1, 1) := by decide +kernel
theorem dX6_init_33 : decode cX6_init 33 = .ok (.sipush (-1000), 3) := by decide +kernel
theorem dX6_init_36 : decode cX6_init 36 = .ok (.iastore, 1) := by decide +kernel
theorem dX6_init_37 : decode cX6_init 37 = .ok (.iinc 1 1, 3) := by decide +kernel
theorem dX6_init_40 : decode cX6_init 40 = .ok (.goto (-18), 3) := by decide +kernel
theorem dX6_init_43 : decode cX6_init 43 = .ok (.return_, 1) := by decide +kernel
theorem dX6_isOpenAt_0 : decode cX6_isOpenAt 0 = .ok (.iload_n 1, 1) := by decide +kernel
theorem dX6_isOpenAt_1 : decode cX6_isOpenAt 1 = .ok (.iconst 0, 1) := by decide +kernel
theorem dX6_isOpenAt_2 : decode cX6_isOpenAt 2 = .ok (.bipush 11, 2) := by decide +kernel
theorem dX6_isOpenAt_4 : decode cX6_isOpenAt 4 = .ok (.invokestatic 19, 3) := by decide +kernel
theorem dX6_isOpenAt_7 : decode cX6_isOpenAt 7 = .ok (.ifCond .eq 16, 3) := by decide +kernel
theorem dX6_isOpenAt_10 : decode cX6_isOpenAt 10 = .ok (.aload_n 0, 1) := by decide +kernel
theorem dX6_isOpenAt_11 : decode cX6_isOpenAt 11 = .ok (.getfield 9, 3) := by decide +kernel
theorem dX6_isOpenAt_14 : decode cX6_isOpenAt 14 = .ok (.iload_n 1, 1) := by decide +kernel
theorem dX6_isOpenAt_15 : decode cX6_isOpenAt 15 = .ok (.baload, 1) := by decide +kernel
theorem dX6_isOpenAt_16 : decode cX6_isOpenAt 16 = .ok (.ifCond .eq 7, 3) := by decide +kernel
theorem dX6_isOpenAt_19 : decode cX6_isOpenAt 19 = .ok (.iconst 1, 1) := by decide +kernel
theorem dX6_isOpenAt_20 : decode cX6_isOpenAt 20 = .ok (.goto 4, 3) := by decide +kernel
theorem dX6_isOpenAt_23 : decode cX6_isOpenAt 23 = .ok (.iconst 0, 1) := by decide +kernel
theorem dX6_isOpenAt_24 : decode cX6_isOpenAt 24 = .ok (.ireturn, 1) := by decide +kernel
theorem dX6_canOpen_0 : decode cX6_canOpen 0 = .ok (.iconst 0, 1) := by decide +kernel
theorem dX6_canOpen_1 : decode cX6_canOpen 1 = .ok (.istore 4, 2) := by decide +kernel
theorem dX6_canOpen_3 : decode cX6_canOpen 3 = .ok (.iload 4, 2) := by decide +kernel
theorem dX6_canOpen_5 : decode cX6_canOpen 5 = .ok (.bipush 12, 2) := by decide +kernel
theorem dX6_canOpen_7 : decode cX6_canOpen 7 = .ok (.if_icmp .ge 34, 3) := by decide +kernel
theorem dX6_canOpen_10 : decode cX6_canOpen 10 = .ok (.iload 4, 2) := by decide +kernel
theorem dX6_canOpen_12 : decode cX6_canOpen 12 = .ok (.iload_n 1, 1) := by decide +kernel
theorem dX6_canOpen_13 : decode cX6_canOpen 13 = .ok (.iload_n 2, 1) := by decide +kernel
theorem dX6_canOpen_14 : decode cX6_canOpen 14 = .ok (.invokestatic 19, 3) := by decide +kernel
theorem dX6_canOpen_17 : decode cX6_canOpen 17 = .ok (.ifCond .eq 18, 3) := by decide +kernel
theorem dX6_canOpen_20 : decode cX6_canOpen 20 = .ok (.iload_n 3, 1) := by decide +kernel
theorem dX6_canOpen_21 : decode cX6_canOpen 21 = .ok (.aload_n 0, 1) := by decide +kernel
theorem dX6_canOpen_22 : decode cX6_canOpen 22 = .ok (.getfield 15, 3) := by decide +kernel
theorem dX6_canOpen_25 : decode cX6_canOpen 25 = .ok (.iload 4, 2) := by decide +kernel
theorem dX6_canOpen_27 : decode cX6_canOpen 27 = .ok (.iaload, 1) := by decide +kernel
theorem dX6_canOpen_28 : decode cX6_canOpen 28 = .ok (.isub, 1) := by decide +kernel
theorem dX6_canOpen_29 : decode cX6_canOpen 29 = .ok (.iconst 5, 1) := by decide +kernel
theorem dX6_canOpen_30 : decode cX6_canOpen 30 = .ok (.if_icmp .lt 5, 3) := by decide +kernel
theorem dX6_canOpen_33 : decode cX6_canOpen 33 = .ok (.iconst 0, 1) := by decide +kernel
theorem dX6_canOpen_34 : decode cX6_canOpen 34 = .ok (.ireturn, 1) := by decide +kernel
theorem dX6_canOpen_35 : decode cX6_canOpen 35 = .ok (.iinc 4 1, 3) := by decide +kernel
theorem dX6_canOpen_38 : decode cX6_canOpen 38 = .ok (.goto (-35), 3) := by decide +kernel
theorem dX6_canOpen_41 : decode cX6_canOpen 41 = .ok (.iconst 1, 1) := by decide +kernel
theorem dX6_canOpen_42 : decode cX6_canOpen 42 = .ok (.ireturn, 1) := by decide +kernel
theorem dX6_openAll_0 : decode cX6_openAll 0 = .ok (.iconst 0, 1) := by decide +kernel
theorem dX6_openAll_1 : decode cX6_openAll 1 = .ok (.istore_n 3, 1) := by decide +kernel
theorem dX6_openAll_2 : decode cX6_openAll 2 = .ok (.iconst 0, 1) := by decide +kernel
theorem dX6_openAll_3 : decode cX6_openAll 3 = .ok (.istore 4, 2) := by decide +kernel
theorem dX6_openAll_5 : decode cX6_openAll 5 = .ok (.iload 4, 2) := by decide +kernel
theorem dX6_openAll_7 : decode cX6_openAll 7 = .ok (.bipush 12, 2) := by decide +kernel
theorem dX6_openAll_9 : decode cX6_openAll 9 = .ok (.if_icmp .ge 40, 3) := by decide +kernel
theorem dX6_openAll_12 : decode cX6_openAll 12 = .ok (.iload 4, 2) := by decide +kernel
theorem dX6_openAll_14 : decode cX6_openAll 14 = .ok (.iload_n 1, 1) := by decide +kernel
theorem dX6_openAll_15 : decode cX6_openAll 15 = .ok (.iload_n 2, 1) := by decide +kernel
theorem dX6_openAll_16 : decode cX6_openAll 16 = .ok (.invokestatic 19, 3) := by decide +kernel
theorem dX6_openAll_19 : decode cX6_openAll 19 = .ok (.ifCond .eq 24, 3) := by decide +kernel
theorem dX6_openAll_22 : decode cX6_openAll 22 = .ok (.aload_n 0, 1) := by decide +kernel
theorem dX6_openAll_23 : decode cX6_openAll 23 = .ok (.getfield 9, 3) := by decide +kernel
theorem dX6_openAll_26 : decode cX6_openAll 26 = .ok (.iload 4, 2) := by decide +kernel
theorem dX6_openAll_28 : decode cX6_openAll 28 = .ok (.baload, 1) := by decide +kernel
theorem dX6_openAll_29 : decode cX6_openAll 29 = .ok (.ifCond .ne 14, 3) := by decide +kernel
theorem dX6_openAll_32 : decode cX6_openAll 32 = .ok (.aload_n 0, 1) := by decide +kernel
theorem dX6_openAll_33 : decode cX6_openAll 33 = .ok (.getfield 9, 3) := by decide +kernel
theorem dX6_openAll_36 : decode cX6_openAll 36 = .ok (.iload 4, 2) := by decide +kernel
theorem dX6_openAll_38 : decode cX6_openAll 38 = .ok (.iconst 1, 1) := by decide +kernel
theorem dX6_openAll_39 : decode cX6_openAll 39 = .ok (.bastore, 1) := by decide +kernel
theorem dX6_openAll_40 : decode cX6_openAll 40 = .ok (.iinc 3 1, 3) := by decide +kernel
theorem dX6_openAll_43 : decode cX6_openAll 43 = .ok (.iinc 4 1, 3) := by decide +kernel
theorem dX6_openAll_46 : decode cX6_openAll 46 = .ok (.goto (-41), 3) := by decide +kernel
theorem dX6_openAll_49 : decode cX6_openAll 49 = .ok (.iload_n 3, 1) := by decide +kernel
theorem dX6_openAll_50 : decode cX6_openAll 50 = .ok (.ireturn, 1) := by decide +kernel
theorem dX6_shutAll_0 : decode cX6_shutAll 0 = .ok (.iconst 0, 1) := by decide +kernel
theorem dX6_shutAll_1 : decode cX6_shutAll 1 = .ok (.istore_n 1, 1) := by decide +kernel
theorem dX6_shutAll_2 : decode cX6_shutAll 2 = .ok (.iconst 0, 1) := by decide +kernel
theorem dX6_shutAll_3 : decode cX6_shutAll 3 = .ok (.istore_n 2, 1) := by decide +kernel
theorem dX6_shutAll_4 : decode cX6_shutAll 4 = .ok (.iload_n 2, 1) := by decide +kernel
theorem dX6_shutAll_5 : decode cX6_shutAll 5 = .ok (.bipush 12, 2) := by decide +kernel
theorem dX6_shutAll_7 : decode cX6_shutAll 7 = .ok (.if_icmp .ge 28, 3) := by decide +kernel
theorem dX6_shutAll_10 : decode cX6_shutAll 10 = .ok (.aload_n 0, 1) := by decide +kernel
theorem dX6_shutAll_11 : decode cX6_shutAll 11 = .ok (.getfield 9, 3) := by decide +kernel
theorem dX6_shutAll_14 : decode cX6_shutAll 14 = .ok (.iload_n 2, 1) := by decide +kernel
theorem dX6_shutAll_15 : decode cX6_shutAll 15 = .ok (.baload, 1) := by decide +kernel
theorem dX6_shutAll_16 : decode cX6_shutAll 16 = .ok (.ifCond .eq 13, 3) := by decide +kernel
theorem dX6_shutAll_19 : decode cX6_shutAll 19 = .ok (.aload_n 0, 1) := by decide +kernel
theorem dX6_shutAll_20 : decode cX6_shutAll 20 = .ok (.getfield 9, 3) := by decide +kernel
theorem dX6_shutAll_23 : decode cX6_shutAll 23 = .ok (.iload_n 2, 1) := by decide +kernel
theorem dX6_shutAll_24 : decode cX6_shutAll 24 = .ok (.iconst 0, 1) := by decide +kernel
theorem dX6_shutAll_25 : decode cX6_shutAll 25 = .ok (.bastore, 1) := by decide +kernel
theorem dX6_shutAll_26 : decode cX6_shutAll 26 = .ok (.iinc 1 1, 3) := by decide +kernel
theorem dX6_shutAll_29 : decode cX6_shutAll 29 = .ok (.iinc 2 1, 3) := by decide +kernel
theorem dX6_shutAll_32 : decode cX6_shutAll 32 = .ok (.goto (-28), 3) := by decide +kernel
theorem dX6_shutAll_35 : decode cX6_shutAll 35 = .ok (.iload_n 1, 1) := by decide +kernel
theorem dX6_shutAll_36 : decode cX6_shutAll 36 = .ok (.ireturn, 1) := by decide +kernel
theorem dX6_tellCrosses_0 : decode cX6_tellCrosses 0 = .ok (.iconst 0, 1) := by decide +kernel
theorem dX6_tellCrosses_1 : decode cX6_tellCrosses 1 = .ok (.istore_n 2, 1) := by decide +kernel
theorem dX6_tellCrosses_2 : decode cX6_tellCrosses 2 = .ok (.iload_n 2, 1) := by decide +kernel
theorem dX6_tellCrosses_3 : decode cX6_tellCrosses 3 = .ok (.bipush 12, 2) := by decide +kernel
theorem dX6_tellCrosses_5 : decode cX6_tellCrosses 5 = .ok (.if_icmp .ge 26, 3) := by decide +kernel
theorem dX6_tellCrosses_8 : decode cX6_tellCrosses 8 = .ok (.aload_n 0, 1) := by decide +kernel
theorem dX6_tellCrosses_9 : decode cX6_tellCrosses 9 = .ok (.getfield 9, 3) := by decide +kernel
theorem dX6_tellCrosses_12 : decode cX6_tellCrosses 12 = .ok (.iload_n 2, 1) := by decide +kernel
theorem dX6_tellCrosses_13 : decode cX6_tellCrosses 13 = .ok (.baload, 1) := by decide +kernel
theorem dX6_tellCrosses_14 : decode cX6_tellCrosses 14 = .ok (.ifCond .ne 11, 3) := by decide +kernel
theorem dX6_tellCrosses_17 : decode cX6_tellCrosses 17 = .ok (.aload_n 1, 1) := by decide +kernel
theorem dX6_tellCrosses_18 : decode cX6_tellCrosses 18 = .ok (.iload_n 2, 1) := by decide +kernel
theorem dX6_tellCrosses_19 : decode cX6_tellCrosses 19 = .ok (.iconst 0, 1) := by decide +kernel
theorem dX6_tellCrosses_20 : decode cX6_tellCrosses 20 = .ok (.invokestatic 23, 3) := by decide +kernel
theorem dX6_tellCrosses_23 : decode cX6_tellCrosses 23 = .ok (.iconst 2, 1) := by decide +kernel
theorem dX6_tellCrosses_24 : decode cX6_tellCrosses 24 = .ok (.iastore, 1) := by decide +kernel
theorem dX6_tellCrosses_25 : decode cX6_tellCrosses 25 = .ok (.iinc 2 1, 3) := by decide +kernel
theorem dX6_tellCrosses_28 : decode cX6_tellCrosses 28 = .ok (.goto (-26), 3) := by decide +kernel
theorem dX6_tellCrosses_31 : decode cX6_tellCrosses 31 = .ok (.return_, 1) := by decide +kernel
theorem dX7_init_0 : decode cX7_init 0 = .ok (.aload_n 0, 1) := by decide +kernel
theorem dX7_init_1 : decode cX7_init 1 = .ok (.invokespecial 3, 3) := by decide +kernel
theorem dX7_init_4 : decode cX7_init 4 = .ok (.aload_n 0, 1) := by decide +kernel
theorem dX7_init_5 : decode cX7_init 5 = .ok (.bipush 12, 2) := by decide +kernel
theorem dX7_init_7 : decode cX7_init 7 = .ok (.newarray .int, 2) := by decide +kernel
theorem dX7_init_9 : decode cX7_init 9 = .ok (.putfield 9, 3) := by decide +kernel
theorem dX7_init_12 : decode cX7_init 12 = .ok (.aload_n 0, 1) := by decide +kernel
theorem dX7_init_13 : decode cX7_init 13 = .ok (.bipush 12, 2) := by decide +kernel
theorem dX7_init_15 : decode cX7_init 15 = .ok (.newarray .int, 2) := by decide +kernel
theorem dX7_init_17 : decode cX7_init 17 = .ok (.putfield 15, 3) := by decide +kernel
theorem dX7_init_20 : decode cX7_init 20 = .ok (.aload_n 0, 1) := by decide +kernel
theorem dX7_init_21 : decode cX7_init 21 = .ok (.bipush 12, 2) := by decide +kernel
theorem dX7_init_23 : decode cX7_init 23 = .ok (.newarray .int, 2) := by decide +kernel
theorem dX7_init_25 : decode cX7_init 25 = .ok (.putfield 18, 3) := by decide +kernel
theorem dX7_init_28 : decode cX7_init 28 = .ok (.aload_n 0, 1) := by decide +kernel
theorem dX7_init_29 : decode cX7_init 29 = .ok (.iconst 0, 1) := by decide +kernel
theorem dX7_init_30 : decode cX7_init 30 = .ok (.putfield 21, 3) := by decide +kernel
theorem dX7_init_33 : decode cX7_init 33 = .ok (.iconst 0, 1) := by decide +kernel
theorem dX7_init_34 : decode cX7_init 34 = .ok (.istore_n 1, 1) := by decide +kernel
theorem dX7_init_35 : decode cX7_init 35 = .ok (.iload_n 1, 1) := by decide +kernel
theorem dX7_init_36 : decode cX7_init 36 = .ok (.bipush 12, 2) := by decide +kernel
theorem dX7_init_38 : decode cX7_init 38 = .ok (.if_icmp .ge 33, 3) := by decide +kernel
theorem dX7_init_41 : decode cX7_init 41 = .ok (.aload_n 0, 1) := by decide +kernel
theorem dX7_init_42 : decode cX7_init 42 = .ok (.getfield 9, 3) := by decide +kernel
theorem dX7_init_45 : decode cX7_init 45 = .ok (.iload_n 1, 1) := by decide +kernel
theorem dX7_init_46 : decode cX7_init 46 = .ok (.iconst (-1), 1) := by decide +kernel
theorem dX7_init_47 : decode cX7_init 47 = .ok (.iastore, 1) := by decide +kernel
theorem dX7_init_48 : decode cX7_init 48 = .ok (.aload_n 0, 1) := by decide +kernel
theorem dX7_init_49 : decode cX7_init 49 = .ok (.getfield 15, 3) := by decide +kernel
theorem dX7_init_52 : decode cX7_init 52 = .ok (.iload_n 1, 1) := by decide +kernel
theorem dX7_init_53 : decode cX7_init 53 = .ok (.bipush 120, 2) := by decide +kernel
theorem dX7_init_55 : decode cX7_init 55 = .ok (.iastore, 1) := by decide +kernel
theorem dX7_init_56 : decode cX7_init 56 = .ok (.aload_n 0, 1) := by decide +kernel
theorem dX7_init_57 : decode cX7_init 57 = .ok (.getfield 18, 3) := by decide +kernel
theorem dX7_init_60 : decode cX7_init 60 = .ok (.iload_n 1, 1) := by decide +kernel
theorem dX7_init_61 : decode cX7_init 61 = .ok (.sipush (-1000), 3) := by decide +kernel
theorem dX7_init_64 : decode cX7_init 64 = .ok (.iastore, 1) := by decide +kernel
theorem dX7_init_65 : decode cX7_init 65 = .ok (.iinc 1 1, 3) := by decide +kernel
theorem dX7_init_68 : decode cX7_init 68 = .ok (.goto (-33), 3) := by decide +kernel
theorem dX7_init_71 : decode cX7_init 71 = .ok (.return_, 1) := by decide +kernel
theorem dX7_setAnew_0 : decode cX7_setAnew 0 = .ok (.bipush 11, 2) := by decide +kernel
theorem dX7_setAnew_2 : decode cX7_setAnew 2 = .ok (.istore 4, 2) := by decide +kernel
theorem dX7_setAnew_4 : decode cX7_setAnew 4 = .ok (.iload 4, 2) := by decide +kernel
theorem dX7_setAnew_6 : decode cX7_setAnew 6 = .ok (.ifCond .lt 107, 3) := by decide +kernel
theorem dX7_setAnew_9 : decode cX7_setAnew 9 = .ok (.aload_n 0, 1) := by decide +kernel
theorem dX7_setAnew_10 : decode cX7_setAnew 10 = .ok (.iload 4, 2) := by decide +kernel
theorem dX7_setAnew_12 : decode cX7_setAnew 12 = .ok (.aload_n 2, 1) := by decide +kernel
theorem dX7_setAnew_13 : decode cX7_setAnew 13 = .ok (.iload 4, 2) := by decide +kernel
theorem dX7_setAnew_15 : decode cX7_setAnew 15 = .ok (.aload_n 3, 1) := by decide +kernel
theorem dX7_setAnew_16 : decode cX7_setAnew 16 = .ok (.invokevirtual 25, 3) := by decide +kernel
theorem dX7_setAnew_19 : decode cX7_setAnew 19 = .ok (.invokevirtual 31, 3) := by decide +kernel
theorem dX7_setAnew_22 : decode cX7_setAnew 22 = .ok (.istore 5, 2) := by decide +kernel
theorem dX7_setAnew_24 : decode cX7_setAnew 24 = .ok (.aload_n 0, 1) := by decide +kernel
theorem dX7_setAnew_25 : decode cX7_setAnew 25 = .ok (.iload 5, 2) := by decide +kernel
theorem dX7_setAnew_27 : decode cX7_setAnew 27 = .ok (.iload 4, 2) := by decide +kernel
theorem dX7_setAnew_29 : decode cX7_setAnew 29 = .ok (.iload_n 1, 1) := by decide +kernel
theorem dX7_setAnew_30 : decode cX7_setAnew 30 = .ok (.invokevirtual 35, 3) := by decide +kernel
theorem dX7_setAnew_33 : decode cX7_setAnew 33 = .ok (.ifCond .eq 13, 3) := by decide +kernel
theorem dX7_setAnew_36 : decode cX7_setAnew 36 = .ok (.aload_n 0, 1) := by decide +kernel
theorem dX7_setAnew_37 : decode cX7_setAnew 37 = .ok (.getfield 15, 3) := by decide +kernel
theorem dX7_setAnew_40 : decode cX7_setAnew 40 = .ok (.iload 4, 2) := by decide +kernel
theorem dX7_setAnew_42 : decode cX7_setAnew 42 = .ok (.iaload, 1) := by decide +kernel
theorem dX7_setAnew_43 : decode cX7_setAnew 43 = .ok (.goto 5, 3) := by decide +kernel
theorem dX7_setAnew_46 : decode cX7_setAnew 46 = .ok (.iload 5, 2) := by decide +kernel
theorem dX7_setAnew_48 : decode cX7_setAnew 48 = .ok (.istore 6, 2) := by decide +kernel
theorem dX7_setAnew_50 : decode cX7_setAnew 50 = .ok (.iload 4, 2) := by decide +kernel
theorem dX7_setAnew_52 : decode cX7_setAnew 52 = .ok (.iconst 1, 1) := by decide +kernel
theorem dX7_setAnew_53 : decode cX7_setAnew 53 = .ok (.iadd, 1) := by decide +kernel
theorem dX7_setAnew_54 : decode cX7_setAnew 54 = .ok (.bipush 12, 2) := by decide +kernel
theorem dX7_setAnew_56 : decode cX7_setAnew 56 = .ok (.if_icmp .ge 22, 3) := by decide +kernel
theorem dX7_setAnew_59 : decode cX7_setAnew 59 = .ok (.iload 6, 2) := by decide +kernel
theorem dX7_setAnew_61 : decode cX7_setAnew 61 = .ok (.aload_n 0, 1) := by decide +kernel
theorem dX7_setAnew_62 : decode cX7_setAnew 62 = .ok (.getfield 15, 3) := by decide +kernel
theorem dX7_setAnew_65 : decode cX7_setAnew 65 = .ok (.iload 4, 2) := by decide +kernel
theorem dX7_setAnew_67 : decode cX7_setAnew 67 = .ok (.iconst 1, 1) := by decide +kernel
theorem dX7_setAnew_68 : decode cX7_setAnew 68 = .ok (.iadd, 1) := by decide +kernel
theorem dX7_setAnew_69 : decode cX7_setAnew 69 = .ok (.iaload, 1) := by decide +kernel
theorem dX7_setAnew_70 : decode cX7_setAnew 70 = .ok (.bipush 20, 2) := by decide +kernel
theorem dX7_setAnew_72 : decode cX7_setAnew 72 = .ok (.iadd, 1) := by decide +kernel
theorem dX7_setAnew_73 : decode cX7_setAnew 73 = .ok (.invokestatic 39, 3) := by decide +kernel
theorem dX7_setAnew_76 : decode cX7_setAnew 76 = .ok (.istore 6, 2) := by decide +kernel
theorem dX7_setAnew_78 : decode cX7_setAnew 78 = .ok (.iload 6, 2) := by decide +kernel
theorem dX7_setAnew_80 : decode cX7_setAnew 80 = .ok (.aload_n 0, 1) := by decide +kernel
theorem dX7_setAnew_81 : decode cX7_setAnew 81 = .ok (.getfield 15, 3) := by decide +kernel
theorem dX7_setAnew_84 : decode cX7_setAnew 84 = .ok (.iload 4, 2) := by decide +kernel
theorem dX7_setAnew_86 : decode cX7_setAnew 86 = .ok (.iaload, 1) := by decide +kernel
theorem dX7_setAnew_87 : decode cX7_setAnew 87 = .ok (.if_icmp .ge 11, 3) := by decide +kernel
theorem dX7_setAnew_90 : decode cX7_setAnew 90 = .ok (.aload_n 0, 1) := by decide +kernel
theorem dX7_setAnew_91 : decode cX7_setAnew 91 = .ok (.getfield 18, 3) := by decide +kernel
theorem dX7_setAnew_94 : decode cX7_setAnew 94 = .ok (.iload 4, 2) := by decide +kernel
theorem dX7_setAnew_96 : decode cX7_setAnew 96 = .ok (.iload_n 1, 1) := by decide +kernel
theorem dX7_setAnew_97 : decode cX7_setAnew 97 = .ok (.iastore, 1) := by decide +kernel
theorem dX7_setAnew_98 : decode cX7_setAnew 98 = .ok (.aload_n 0, 1) := by decide +kernel
theorem dX7_setAnew_99 : decode cX7_setAnew 99 = .ok (.getfield 15, 3) := by decide +kernel
theorem dX7_setAnew_102 : decode cX7_setAnew 102 = .ok (.iload 4, 2) := by decide +kernel
theorem dX7_setAnew_104 : decode cX7_setAnew 104 = .ok (.iload 6, 2) := by decide +kernel
theorem dX7_setAnew_106 : decode cX7_setAnew 106 = .ok (.iastore, 1) := by decide +kernel
theorem dX7_setAnew_107 : decode cX7_setAnew 107 = .ok (.iinc 4 (-1), 3) := by decide +kernel
theorem dX7_setAnew_110 : decode cX7_setAnew 110 = .ok (.goto (-106), 3) := by decide +kernel
theorem dX7_setAnew_113 : decode cX7_setAnew 113 = .ok (.return_, 1) := by decide +kernel
theorem dX7_areLawful_0 : decode cX7_areLawful 0 = .ok (.iconst 0, 1) := by decide +kernel
theorem dX7_areLawful_1 : decode cX7_areLawful 1 = .ok (.istore_n 1, 1) := by decide +kernel
theorem dX7_areLawful_2 : decode cX7_areLawful 2 = .ok (.iload_n 1, 1) := by decide +kernel
theorem dX7_areLawful_3 : decode cX7_areLawful 3 = .ok (.iconst 1, 1) := by decide +kernel
theorem dX7_areLawful_4 : decode cX7_areLawful 4 = .ok (.iadd, 1) := by decide +kernel
theorem dX7_areLawful_5 : decode cX7_areLawful 5 = .ok (.bipush 12, 2) := by decide +kernel
theorem dX7_areLawful_7 : decode cX7_areLawful 7 = .ok (.if_icmp .ge 31, 3) := by decide +kernel
theorem dX7_areLawful_10 : decode cX7_areLawful 10 = .ok (.aload_n 0, 1) := by decide +kernel
theorem dX7_areLawful_11 : decode cX7_areLawful 11 = .ok (.getfield 15, 3) := by decide +kernel
theorem dX7_areLawful_14 : decode cX7_areLawful 14 = .ok (.iload_n 1, 1) := by decide +kernel
theorem dX7_areLawful_15 : decode cX7_areLawful 15 = .ok (.iaload, 1) := by decide +kernel
theorem dX7_areLawful_16 : decode cX7_areLawful 16 = .ok (.aload_n 0, 1) := by decide +kernel
theorem dX7_areLawful_17 : decode cX7_areLawful 17 = .ok (.getfield 15, 3) := by decide +kernel
theorem dX7_areLawful_20 : decode cX7_areLawful 20 = .ok (.iload_n 1, 1) := by decide +kernel
theorem dX7_areLawful_21 : decode cX7_areLawful 21 = .ok (.iconst 1, 1) := by decide +kernel
theorem dX7_areLawful_22 : decode cX7_areLawful 22 = .ok (.iadd, 1) := by decide +kernel
theorem dX7_areLawful_23 : decode cX7_areLawful 23 = .ok (.iaload, 1) := by decide +kernel
theorem dX7_areLawful_24 : decode cX7_areLawful 24 = .ok (.bipush 20, 2) := by decide +kernel
theorem dX7_areLawful_26 : decode cX7_areLawful 26 = .ok (.iadd, 1) := by decide +kernel
theorem dX7_areLawful_27 : decode cX7_areLawful 27 = .ok (.if_icmp .le 5, 3) := by decide +kernel
theorem dX7_areLawful_30 : decode cX7_areLawful 30 = .ok (.iconst 0, 1) := by decide +kernel
theorem dX7_areLawful_31 : decode cX7_areLawful 31 = .ok (.ireturn, 1) := by decide +kernel
theorem dX7_areLawful_32 : decode cX7_areLawful 32 = .ok (.iinc 1 1, 3) := by decide +kernel
theorem dX7_areLawful_35 : decode cX7_areLawful 35 = .ok (.goto (-33), 3) := by decide +kernel
theorem dX7_areLawful_38 : decode cX7_areLawful 38 = .ok (.iconst 1, 1) := by decide +kernel
theorem dX7_areLawful_39 : decode cX7_areLawful 39 = .ok (.ireturn, 1) := by decide +kernel
theorem dX7_wantAt_0 : decode cX7_wantAt 0 = .ok (.aload_n 0, 1) := by decide +kernel
theorem dX7_wantAt_1 : decode cX7_wantAt 1 = .ok (.getfield 9, 3) := by decide +kernel
theorem dX7_wantAt_4 : decode cX7_wantAt 4 = .ok (.iload_n 1, 1) := by decide +kernel
theorem dX7_wantAt_5 : decode cX7_wantAt 5 = .ok (.iaload, 1) := by decide +kernel
theorem dX7_wantAt_6 : decode cX7_wantAt 6 = .ok (.iconst (-1), 1) := by decide +kernel
theorem dX7_wantAt_7 : decode cX7_wantAt 7 = .ok (.if_icmp .eq 10, 3) := by decide +kernel
theorem dX7_wantAt_10 : decode cX7_wantAt 10 = .ok (.aload_n 0, 1) := by decide +kernel
theorem dX7_wantAt_11 : decode cX7_wantAt 11 = .ok (.getfield 9, 3) := by decide +kernel
theorem dX7_wantAt_14 : decode cX7_wantAt 14 = .ok (.iload_n 1, 1) := by decide +kernel
theorem dX7_wantAt_15 : decode cX7_wantAt 15 = .ok (.iaload, 1) := by decide +kernel
theorem dX7_wantAt_16 : decode cX7_wantAt 16 = .ok (.ireturn, 1) := by decide +kernel
theorem dX7_wantAt_17 : decode cX7_wantAt 17 = .ok (.aload_n 0, 1) := by decide +kernel
theorem dX7_wantAt_18 : decode cX7_wantAt 18 = .ok (.getfield 21, 3) := by decide +kernel
theorem dX7_wantAt_21 : decode cX7_wantAt 21 = .ok (.iconst 0, 1) := by decide +kernel
theorem dX7_wantAt_22 : decode cX7_wantAt 22 = .ok (.iconst 3, 1) := by decide +kernel
theorem dX7_wantAt_23 : decode cX7_wantAt 23 = .ok (.invokestatic 44, 3) := by decide +kernel
theorem dX7_wantAt_26 : decode cX7_wantAt 26 = .ok (.ifCond .eq 14, 3) := by decide +kernel
theorem dX7_wantAt_29 : decode cX7_wantAt 29 = .ok (.getstatic 47, 3) := by decide +kernel
theorem dX7_wantAt_32 : decode cX7_wantAt 32 = .ok (.aload_n 0, 1) := by decide +kernel
theorem dX7_wantAt_33 : decode cX7_wantAt 33 = .ok (.getfield 21, 3) := by decide +kernel
theorem dX7_wantAt_36 : decode cX7_wantAt 36 = .ok (.iaload, 1) := by decide +kernel
theorem dX7_wantAt_37 : decode cX7_wantAt 37 = .ok (.goto 5, 3) := by decide +kernel
theorem dX7_wantAt_40 : decode cX7_wantAt 40 = .ok (.bipush 120, 2) := by decide +kernel
theorem dX7_wantAt_42 : decode cX7_wantAt 42 = .ok (.istore_n 3, 1) := by decide +kernel
theorem dX7_wantAt_43 : decode cX7_wantAt 43 = .ok (.iload_n 2, 1) := by decide +kernel
theorem dX7_wantAt_44 : decode cX7_wantAt 44 = .ok (.invokestatic 50, 3) := by decide +kernel
theorem dX7_wantAt_47 : decode cX7_wantAt 47 = .ok (.iload_n 3, 1) := by decide +kernel
theorem dX7_wantAt_48 : decode cX7_wantAt 48 = .ok (.invokestatic 39, 3) := by decide +kernel
theorem dX7_wantAt_51 : decode cX7_wantAt 51 = .ok (.ireturn, 1) := by decide +kernel
theorem dX7_wantBy_0 : decode cX7_wantBy 0 = .ok (.iload_n 0, 1) := by decide +kernel
theorem dX7_wantBy_1 : decode cX7_wantBy 1 = .ok (.iconst (-1), 1) := by decide +kernel
theorem dX7_wantBy_2 : decode cX7_wantBy 2 = .ok (.if_icmp .ne 6, 3) := by decide +kernel
theorem dX7_wantBy_5 : decode cX7_wantBy 5 = .ok (.bipush 60, 2) := by decide +kernel
theorem dX7_wantBy_7 : decode cX7_wantBy 7 = .ok (.ireturn, 1) := by decide +kernel
theorem dX7_wantBy_8 : decode cX7_wantBy 8 = .ok (.iload_n 0, 1) := by decide +kernel
theorem dX7_wantBy_9 : decode cX7_wantBy 9 = .ok (.bipush 40, 2) := by decide +kernel
theorem dX7_wantBy_11 : decode cX7_wantBy 11 = .ok (.if_icmp .ge 6, 3) := by decide +kernel
theorem dX7_wantBy_14 : decode cX7_wantBy 14 = .ok (.bipush 40, 2) := by decide +kernel
theorem dX7_wantBy_16 : decode cX7_wantBy 16 = .ok (.ireturn, 1) := by decide +kernel
theorem dX7_wantBy_17 : decode cX7_wantBy 17 = .ok (.iload_n 0, 1) := by decide +kernel
theorem dX7_wantBy_18 : decode cX7_wantBy 18 = .ok (.bipush 60, 2) := by decide +kernel
theorem dX7_wantBy_20 : decode cX7_wantBy 20 = .ok (.if_icmp .ge 6, 3) := by decide +kernel
theorem dX7_wantBy_23 : decode cX7_wantBy 23 = .ok (.bipush 60, 2) := by decide +kernel
theorem dX7_wantBy_25 : decode cX7_wantBy 25 = .ok (.ireturn, 1) := by decide +kernel
theorem dX7_wantBy_26 : decode cX7_wantBy 26 = .ok (.iload_n 0, 1) := by decide +kernel
theorem dX7_wantBy_27 : decode cX7_wantBy 27 = .ok (.bipush 80, 2) := by decide +kernel
theorem dX7_wantBy_29 : decode cX7_wantBy 29 = .ok (.if_icmp .ge 8, 3) := by decide +kernel
theorem dX7_wantBy_32 : decode cX7_wantBy 32 = .ok (.bipush 80, 2) := by decide +kernel
theorem dX7_wantBy_34 : decode cX7_wantBy 34 = .ok (.goto 5, 3) := by decide +kernel
theorem dX7_wantBy_37 : decode cX7_wantBy 37 = .ok (.bipush 120, 2) := by decide +kernel
theorem dX7_wantBy_39 : decode cX7_wantBy 39 = .ok (.ireturn, 1) := by decide +kernel
theorem dX7_staysBelow_0 : decode cX7_staysBelow 0 = .ok (.aload_n 0, 1) := by decide +kernel
theorem dX7_staysBelow_1 : decode cX7_staysBelow 1 = .ok (.getfield 9, 3) := by decide +kernel
theorem dX7_staysBelow_4 : decode cX7_staysBelow 4 = .ok (.iload_n 2, 1) := by decide +kernel
theorem dX7_staysBelow_5 : decode cX7_staysBelow 5 = .ok (.iaload, 1) := by decide +kernel
theorem dX7_staysBelow_6 : decode cX7_staysBelow 6 = .ok (.iconst (-1), 1) := by decide +kernel
theorem dX7_staysBelow_7 : decode cX7_staysBelow 7 = .ok (.if_icmp .ne 29, 3) := by decide +kernel
theorem dX7_staysBelow_10 : decode cX7_staysBelow 10 = .ok (.iload_n 1, 1) := by decide +kernel
theorem dX7_staysBelow_11 : decode cX7_staysBelow 11 = .ok (.aload_n 0, 1) := by decide +kernel
theorem dX7_staysBelow_12 : decode cX7_staysBelow 12 = .ok (.getfield 15, 3) := by decide +kernel
theorem dX7_staysBelow_15 : decode cX7_staysBelow 15 = .ok (.iload_n 2, 1) := by decide +kernel
theorem dX7_staysBelow_16 : decode cX7_staysBelow 16 = .ok (.iaload, 1) := by decide +kernel
theorem dX7_staysBelow_17 : decode cX7_staysBelow 17 = .ok (.if_icmp .le 19, 3) := by decide +kernel
theorem dX7_staysBelow_20 : decode cX7_staysBelow 20 = .ok (.iload_n 3, 1) := by decide +kernel
theorem dX7_staysBelow_21 : decode cX7_staysBelow 21 = .ok (.aload_n 0, 1) := by decide +kernel
theorem dX7_staysBelow_22 : decode cX7_staysBelow 22 = .ok (.getfield 18, 3) := by decide +kernel
theorem dX7_staysBelow_25 : decode cX7_staysBelow 25 = .ok (.iload_n 2, 1) := by decide +kernel
theorem dX7_staysBelow_26 : decode cX7_staysBelow 26 = .ok (.iaload, 1) := by decide +kernel
theorem dX7_staysBelow_27 : decode cX7_staysBelow 27 = .ok (.isub, 1) := by decide +kernel
theorem dX7_staysBelow_28 : decode cX7_staysBelow 28 = .ok (.iconst 3, 1) := by decide +kernel
theorem dX7_staysBelow_29 : decode cX7_staysBelow 29 = .ok (.if_icmp .ge 7, 3) := by decide +kernel
theorem dX7_staysBelow_32 : decode cX7_staysBelow 32 = .ok (.iconst 1, 1) := by decide +kernel
theorem dX7_staysBelow_33 : decode cX7_staysBelow 33 = .ok (.goto 4, 3) := by decide +kernel
theorem dX7_staysBelow_36 : decode cX7_staysBelow 36 = .ok (.iconst 0, 1) := by decide +kernel
theorem dX7_staysBelow_37 : decode cX7_staysBelow 37 = .ok (.ireturn, 1) := by decide +kernel
theorem dX8_init_0 : decode cX8_init 0 = .ok (.aload_n 0, 1) := by decide +kernel
theorem dX8_init_1 : decode cX8_init 1 = .ok (.invokespecial 3, 3) := by decide +kernel
theorem dX8_init_4 : decode cX8_init 4 = .ok (.aload_n 0, 1) := by decide +kernel
theorem dX8_init_5 : decode cX8_init 5 = .ok (.bipush 48, 2) := by decide +kernel
theorem dX8_init_7 : decode cX8_init 7 = .ok (.newarray .int, 2) := by decide +kernel
theorem dX8_init_9 : decode cX8_init 9 = .ok (.putfield 9, 3) := by decide +kernel
theorem dX8_init_12 : decode cX8_init 12 = .ok (.aload_n 0, 1) := by decide +kernel
theorem dX8_init_13 : decode cX8_init 13 = .ok (.bipush 48, 2) := by decide +kernel
theorem dX8_init_15 : decode cX8_init 15 = .ok (.newarray .boolean, 2) := by decide +kernel
theorem dX8_init_17 : decode cX8_init 17 = .ok (.putfield 15, 3) := by decide +kernel
theorem dX8_init_20 : decode cX8_init 20 = .ok (.aload_n 0, 1) := by decide +kernel
theorem dX8_init_21 : decode cX8_init 21 = .ok (.bipush 12, 2) := by decide +kernel
theorem dX8_init_23 : decode cX8_init 23 = .ok (.newarray .boolean, 2) := by decide +kernel
theorem dX8_init_25 : decode cX8_init 25 = .ok (.putfield 19, 3) := by decide +kernel
theorem dX8_init_28 : decode cX8_init 28 = .ok (.aload_n 0, 1) := by decide +kernel
theorem dX8_init_29 : decode cX8_init 29 = .ok (.iconst 0, 1) := by decide +kernel
theorem dX8_init_30 : decode cX8_init 30 = .ok (.putfield 22, 3) := by decide +kernel
theorem dX8_init_33 : decode cX8_init 33 = .ok (.aload_n 0, 1) := by decide +kernel
theorem dX8_init_34 : decode cX8_init 34 = .ok (.iconst 0, 1) := by decide +kernel
theorem dX8_init_35 : decode cX8_init 35 = .ok (.putfield 26, 3) := by decide +kernel
theorem dX8_init_38 : decode cX8_init 38 = .ok (.aload_n 0, 1) := by decide +kernel
theorem dX8_init_39 : decode cX8_init 39 = .ok (.iconst 0, 1) := by decide +kernel
theorem dX8_init_40 : decode cX8_init 40 = .ok (.putfield 29, 3) := by decide +kernel
theorem dX8_init_43 : decode cX8_init 43 = .ok (.aload_n 0, 1) := by decide +kernel
theorem dX8_init_44 : decode cX8_init 44 = .ok (.iconst 0, 1) := by decide +kernel
theorem dX8_init_45 : decode cX8_init 45 = .ok (.putfield 32, 3) := by decide +kernel
theorem dX8_init_48 : decode cX8_init 48 = .ok (.return_, 1) := by decide +kernel
theorem dX8_mostIn_0 : decode cX8_mostIn 0 = .ok (.iload_n 1, 1) := by decide +kernel
theorem dX8_mostIn_1 : decode cX8_mostIn 1 = .ok (.ifCond .lt 9, 3) := by decide +kernel
theorem dX8_mostIn_4 : decode cX8_mostIn 4 = .ok (.iload_n 1, 1) := by decide +kernel
theorem dX8_mostIn_5 : decode cX8_mostIn 5 = .ok (.bipush 12, 2) := by decide +kernel
theorem dX8_mostIn_7 : decode cX8_mostIn 7 = .ok (.if_icmp .lt 5, 3) := by decide +kernel
theorem dX8_mostIn_10 : decode cX8_mostIn 10 = .ok (.iconst 0, 1) := by decide +kernel
theorem dX8_mostIn_11 : decode cX8_mostIn 11 = .ok (.ireturn, 1) := by decide +kernel
theorem dX8_mostIn_12 : decode cX8_mostIn 12 = .ok (.iconst 0, 1) := by decide +kernel
theorem dX8_mostIn_13 : decode cX8_mostIn 13 = .ok (.istore_n 2, 1) := by decide +kernel
theorem dX8_mostIn_14 : decode cX8_mostIn 14 = .ok (.iconst 0, 1) := by decide +kernel
theorem dX8_mostIn_15 : decode cX8_mostIn 15 = .ok (.istore_n 3, 1) := by decide +kernel
theorem dX8_mostIn_16 : decode cX8_mostIn 16 = .ok (.iload_n 3, 1) := by decide +kernel
theorem dX8_mostIn_17 : decode cX8_mostIn 17 = .ok (.iconst 4, 1) := by decide +kernel
theorem dX8_mostIn_18 : decode cX8_mostIn 18 = .ok (.if_icmp .ge 34, 3) := by decide +kernel
theorem dX8_mostIn_21 : decode cX8_mostIn 21 = .ok (.aload_n 0, 1) := by decide +kernel
theorem dX8_mostIn_22 : decode cX8_mostIn 22 = .ok (.getfield 9, 3) := by decide +kernel
theorem dX8_mostIn_25 : decode cX8_mostIn 25 = .ok (.iload_n 1, 1) := by decide +kernel
theorem dX8_mostIn_26 : decode cX8_mostIn 26 = .ok (.iconst 4, 1) := by decide +kernel
theorem dX8_mostIn_27 : decode cX8_mostIn 27 = .ok (.imul, 1) := by decide +kernel
theorem dX8_mostIn_28 : decode cX8_mostIn 28 = .ok (.iload_n 3, 1) := by decide +kernel
theorem dX8_mostIn_29 : decode cX8_mostIn 29 = .ok (.iadd, 1) := by decide +kernel
theorem dX8_mostIn_30 : decode cX8_mostIn 30 = .ok (.iaload, 1) := by decide +kernel
theorem dX8_mostIn_31 : decode cX8_mostIn 31 = .ok (.istore 4, 2) := by decide +kernel
theorem dX8_mostIn_33 : decode cX8_mostIn 33 = .ok (.iload 4, 2) := by decide +kernel
theorem dX8_mostIn_35 : decode cX8_mostIn 35 = .ok (.iload_n 2, 1) := by decide +kernel
theorem dX8_mostIn_36 : decode cX8_mostIn 36 = .ok (.if_icmp .le 8, 3) := by decide +kernel
theorem dX8_mostIn_39 : decode cX8_mostIn 39 = .ok (.iload 4, 2) := by decide +kernel
theorem dX8_mostIn_41 : decode cX8_mostIn 41 = .ok (.goto 4, 3) := by decide +kernel
theorem dX8_mostIn_44 : decode cX8_mostIn 44 = .ok (.iload_n 2, 1) := by decide +kernel
theorem dX8_mostIn_45 : decode cX8_mostIn 45 = .ok (.istore_n 2, 1) := by decide +kernel
theorem dX8_mostIn_46 : decode cX8_mostIn 46 = .ok (.iinc 3 1, 3) := by decide +kernel
theorem dX8_mostIn_49 : decode cX8_mostIn 49 = .ok (.goto (-33), 3) := by decide +kernel
theorem dX8_mostIn_52 : decode cX8_mostIn 52 = .ok (.iload_n 2, 1) := by decide +kernel
theorem dX8_mostIn_53 : decode cX8_mostIn 53 = .ok (.ireturn, 1) := by decide +kernel
theorem dX8_speedAt_0 : decode cX8_speedAt 0 = .ok (.bipush 120, 2) := by decide +kernel
theorem dX8_speedAt_2 : decode cX8_speedAt 2 = .ok (.iconst 5, 1) := by decide +kernel
theorem dX8_speedAt_3 : decode cX8_speedAt 3 = .ok (.aload_n 0, 1) := by decide +kernel
theorem dX8_speedAt_4 : decode cX8_speedAt 4 = .ok (.iload_n 1, 1) := by decide +kernel
theorem dX8_speedAt_5 : decode cX8_speedAt 5 = .ok (.invokevirtual 35, 3) := by decide +kernel
theorem dX8_speedAt_8 : decode cX8_speedAt 8 = .ok (.imul, 1) := by decide +kernel
theorem dX8_speedAt_9 : decode cX8_speedAt 9 = .ok (.isub, 1) := by decide +kernel
theorem dX8_speedAt_10 : decode cX8_speedAt 10 = .ok (.ireturn, 1) := by decide +kernel
theorem dX8_countOnRoad_0 : decode cX8_countOnRoad 0 = .ok (.iconst 0, 1) := by decide +kernel
theorem dX8_countOnRoad_1 : decode cX8_countOnRoad 1 = .ok (.istore_n 1, 1) := by decide +kernel
theorem dX8_countOnRoad_2 : decode cX8_countOnRoad 2 = .ok (.iconst 0, 1) := by decide +kernel
theorem dX8_countOnRoad_3 : decode cX8_countOnRoad 3 = .ok (.istore_n 2, 1) := by decide +kernel
theorem dX8_countOnRoad_4 : decode cX8_countOnRoad 4 = .ok (.iload_n 2, 1) := by decide +kernel
theorem dX8_countOnRoad_5 : decode cX8_countOnRoad 5 = .ok (.bipush 48, 2) := by decide +kernel
theorem dX8_countOnRoad_7 : decode cX8_countOnRoad 7 = .ok (.if_icmp .ge 18, 3) := by decide +kernel
theorem dX8_countOnRoad_10 : decode cX8_countOnRoad 10 = .ok (.iload_n 1, 1) := by decide +kernel
theorem dX8_countOnRoad_11 : decode cX8_countOnRoad 11 = .ok (.aload_n 0, 1) := by decide +kernel
theorem dX8_countOnRoad_12 : decode cX8_countOnRoad 12 = .ok (.getfield 9, 3) := by decide +kernel
theorem dX8_countOnRoad_15 : decode cX8_countOnRoad 15 = .ok (.iload_n 2, 1) := by decide +kernel
theorem dX8_countOnRoad_16 : decode cX8_countOnRoad 16 = .ok (.iaload, 1) := by decide +kernel
theorem dX8_countOnRoad_17 : decode cX8_countOnRoad 17 = .ok (.iadd, 1) := by decide +kernel
theorem dX8_countOnRoad_18 : decode cX8_countOnRoad 18 = .ok (.istore_n 1, 1) := by decide +kernel
theorem dX8_countOnRoad_19 : decode cX8_countOnRoad 19 = .ok (.iinc 2 1, 3) := by decide +kernel
theorem dX8_countOnRoad_22 : decode cX8_countOnRoad 22 = .ok (.goto (-18), 3) := by decide +kernel
theorem dX8_countOnRoad_25 : decode cX8_countOnRoad 25 = .ok (.iload_n 1, 1) := by decide +kernel
theorem dX8_countOnRoad_26 : decode cX8_countOnRoad 26 = .ok (.ireturn, 1) := by decide +kernel
theorem dX8_isStoppedAt_0 : decode cX8_isStoppedAt 0 = .ok (.iload_n 1, 1) := by decide +kernel
theorem dX8_isStoppedAt_1 : decode cX8_isStoppedAt 1 = .ok (.iconst 0, 1) := by decide +kernel
theorem dX8_isStoppedAt_2 : decode cX8_isStoppedAt 2 = .ok (.bipush 47, 2) := by decide +kernel
theorem dX8_isStoppedAt_4 : decode cX8_isStoppedAt 4 = .ok (.invokestatic 39, 3) := by decide +kernel
theorem dX8_isStoppedAt_7 : decode cX8_isStoppedAt 7 = .ok (.ifCond .eq 16, 3) := by decide +kernel
theorem dX8_isStoppedAt_10 : decode cX8_isStoppedAt 10 = .ok (.aload_n 0, 1) := by decide +kernel
theorem dX8_isStoppedAt_11 : decode cX8_isStoppedAt 11 = .ok (.getfield 15, 3) := by decide +kernel
theorem dX8_isStoppedAt_14 : decode cX8_isStoppedAt 14 = .ok (.iload_n 1, 1) := by decide +kernel
theorem dX8_isStoppedAt_15 : decode cX8_isStoppedAt 15 = .ok (.baload, 1) := by decide +kernel
theorem dX8_isStoppedAt_16 : decode cX8_isStoppedAt 16 = .ok (.ifCond .eq 7, 3) := by decide +kernel
theorem dX8_isStoppedAt_19 : decode cX8_isStoppedAt 19 = .ok (.iconst 1, 1) := by decide +kernel
theorem dX8_isStoppedAt_20 : decode cX8_isStoppedAt 20 = .ok (.goto 4, 3) := by decide +kernel
theorem dX8_isStoppedAt_23 : decode cX8_isStoppedAt 23 = .ok (.iconst 0, 1) := by decide +kernel
theorem dX8_isStoppedAt_24 : decode cX8_isStoppedAt 24 = .ok (.ireturn, 1) := by decide +kernel
theorem dX8_isClear_0 : decode cX8_isClear 0 = .ok (.aload_n 0, 1) := by decide +kernel
theorem dX8_isClear_1 : decode cX8_isClear 1 = .ok (.iload_n 1, 1) := by decide +kernel
theorem dX8_isClear_2 : decode cX8_isClear 2 = .ok (.invokevirtual 43, 3) := by decide +kernel
theorem dX8_isClear_5 : decode cX8_isClear 5 = .ok (.ifCond .ne 15, 3) := by decide +kernel
theorem dX8_isClear_8 : decode cX8_isClear 8 = .ok (.aload_n 0, 1) := by decide +kernel
theorem dX8_isClear_9 : decode cX8_isClear 9 = .ok (.iload_n 1, 1) := by decide +kernel
theorem dX8_isClear_10 : decode cX8_isClear 10 = .ok (.invokevirtual 47, 3) := by decide +kernel
theorem dX8_isClear_13 : decode cX8_isClear 13 = .ok (.ifCond .ne 7, 3) := by decide +kernel
theorem dX8_isClear_16 : decode cX8_isClear 16 = .ok (.iconst 1, 1) := by decide +kernel
theorem dX8_isClear_17 : decode cX8_isClear 17 = .ok (.goto 4, 3) := by decide +kernel
theorem dX8_isClear_20 : decode cX8_isClear 20 = .ok (.iconst 0, 1) := by decide +kernel
theorem dX8_isClear_21 : decode cX8_isClear 21 = .ok (.ireturn, 1) := by decide +kernel
theorem dX8_clearStopped_0 : decode cX8_clearStopped 0 = .ok (.iload_n 1, 1) := by decide +kernel
theorem dX8_clearStopped_1 : decode cX8_clearStopped 1 = .ok (.iconst 0, 1) := by decide +kernel
theorem dX8_clearStopped_2 : decode cX8_clearStopped 2 = .ok (.bipush 47, 2) := by decide +kernel
theorem dX8_clearStopped_4 : decode cX8_clearStopped 4 = .ok (.invokestatic 39, 3) := by decide +kernel
theorem dX8_clearStopped_7 : decode cX8_clearStopped 7 = .ok (.ifCond .eq 10, 3) := by decide +kernel
theorem dX8_clearStopped_10 : decode cX8_clearStopped 10 = .ok (.aload_n 0, 1) := by decide +kernel
theorem dX8_clearStopped_11 : decode cX8_clearStopped 11 = .ok (.getfield 15, 3) := by decide +kernel
theorem dX8_clearStopped_14 : decode cX8_clearStopped 14 = .ok (.iload_n 1, 1) := by decide +kernel
theorem dX8_clearStopped_15 : decode cX8_clearStopped 15 = .ok (.iconst 0, 1) := by decide +kernel
theorem dX8_clearStopped_16 : decode cX8_clearStopped 16 = .ok (.bastore, 1) := by decide +kernel
theorem dX8_clearStopped_17 : decode cX8_clearStopped 17 = .ok (.return_, 1) := by decide +kernel
theorem dX8_goOn_0 : decode cX8_goOn 0 = .ok (.bipush 11, 2) := by decide +kernel
theorem dX8_goOn_2 : decode cX8_goOn 2 = .ok (.istore_n 2, 1) := by decide +kernel
theorem dX8_goOn_3 : decode cX8_goOn 3 = .ok (.iload_n 2, 1) := by decide +kernel
theorem dX8_goOn_4 : decode cX8_goOn 4 = .ok (.ifCond .lt 29, 3) := by decide +kernel
theorem dX8_goOn_7 : decode cX8_goOn 7 = .ok (.iconst 0, 1) := by decide +kernel
theorem dX8_goOn_8 : decode cX8_goOn 8 = .ok (.istore_n 3, 1) := by decide +kernel
theorem dX8_goOn_9 : decode cX8_goOn 9 = .ok (.iload_n 3, 1) := by decide +kernel
theorem dX8_goOn_10 : decode cX8_goOn 10 = .ok (.iconst 4, 1) := by decide +kernel
theorem dX8_goOn_11 : decode cX8_goOn 11 = .ok (.if_icmp .ge 16, 3) := by decide +kernel
theorem dX8_goOn_14 : decode cX8_goOn 14 = .ok (.aload_n 0, 1) := by decide +kernel
theorem dX8_goOn_15 : decode cX8_goOn 15 = .ok (.iload_n 2, 1) := by decide +kernel
theorem dX8_goOn_16 : decode cX8_goOn 16 = .ok (.iload_n 3, 1) := by decide +kernel
theorem dX8_goOn_17 : decode cX8_goOn 17 = .ok (.aload_n 1, 1) := by decide +kernel
theorem dX8_goOn_18 : decode cX8_goOn 18 = .ok (.invokevirtual 50, 3) := by decide +kernel
theorem dX8_goOn_21 : decode cX8_goOn 21 = .ok (.iinc 3 1, 3) := by decide +kernel
theorem dX8_goOn_24 : decode cX8_goOn 24 = .ok (.goto (-15), 3) := by decide +kernel
theorem dX8_goOn_27 : decode cX8_goOn 27 = .ok (.iinc 2 (-1), 3) := by decide +kernel
theorem dX8_goOn_30 : decode cX8_goOn 30 = .ok (.goto (-27), 3) := by decide +kernel
theorem dX8_goOn_33 : decode cX8_goOn 33 = .ok (.return_, 1) := by decide +kernel
theorem dX8_arrive_0 : decode cX8_arrive 0 = .ok (.aload_n 0, 1) := by decide +kernel
theorem dX8_arrive_1 : decode cX8_arrive 1 = .ok (.dup, 1) := by decide +kernel
theorem dX8_arrive_2 : decode cX8_arrive 2 = .ok (.getfield 26, 3) := by decide +kernel
theorem dX8_arrive_5 : decode cX8_arrive 5 = .ok (.aload_n 0, 1) := by decide +kernel
theorem dX8_arrive_6 : decode cX8_arrive 6 = .ok (.getfield 22, 3) := by decide +kernel
theorem dX8_arrive_9 : decode cX8_arrive 9 = .ok (.iadd, 1) := by decide +kernel
theorem dX8_arrive_10 : decode cX8_arrive 10 = .ok (.putfield 26, 3) := by decide +kernel
theorem dX8_arrive_13 : decode cX8_arrive 13 = .ok (.aload_n 0, 1) := by decide +kernel
theorem dX8_arrive_14 : decode cX8_arrive 14 = .ok (.dup, 1) := by decide +kernel
theorem dX8_arrive_15 : decode cX8_arrive 15 = .ok (.getfield 29, 3) := by decide +kernel
theorem dX8_arrive_18 : decode cX8_arrive 18 = .ok (.aload_n 0, 1) := by decide +kernel
theorem dX8_arrive_19 : decode cX8_arrive 19 = .ok (.getfield 22, 3) := by decide +kernel
theorem dX8_arrive_22 : decode cX8_arrive 22 = .ok (.iadd, 1) := by decide +kernel
theorem dX8_arrive_23 : decode cX8_arrive 23 = .ok (.putfield 29, 3) := by decide +kernel
theorem dX8_arrive_26 : decode cX8_arrive 26 = .ok (.iconst 0, 1) := by decide +kernel
theorem dX8_arrive_27 : decode cX8_arrive 27 = .ok (.istore_n 2, 1) := by decide +kernel
theorem dX8_arrive_28 : decode cX8_arrive 28 = .ok (.iload_n 2, 1) := by decide +kernel
theorem dX8_arrive_29 : decode cX8_arrive 29 = .ok (.bipush 80, 2) := by decide +kernel
theorem dX8_arrive_31 : decode cX8_arrive 31 = .ok (.if_icmp .ge 48, 3) := by decide +kernel
theorem dX8_arrive_34 : decode cX8_arrive 34 = .ok (.aload_n 0, 1) := by decide +kernel
theorem dX8_arrive_35 : decode cX8_arrive 35 = .ok (.getfield 29, 3) := by decide +kernel
theorem dX8_arrive_38 : decode cX8_arrive 38 = .ok (.ifCond .le 41, 3) := by decide +kernel
theorem dX8_arrive_41 : decode cX8_arrive 41 = .ok (.aload_n 0, 1) := by decide +kernel
theorem dX8_arrive_42 : decode cX8_arrive 42 = .ok (.aload_n 1, 1) := by decide +kernel
theorem dX8_arrive_43 : decode cX8_arrive 43 = .ok (.invokevirtual 54, 3) := by decide +kernel
theorem dX8_arrive_46 : decode cX8_arrive 46 = .ok (.istore_n 3, 1) := by decide +kernel
theorem dX8_arrive_47 : decode cX8_arrive 47 = .ok (.iload_n 3, 1) := by decide +kernel
theorem dX8_arrive_48 : decode cX8_arrive 48 = .ok (.iconst (-1), 1) := by decide +kernel
theorem dX8_arrive_49 : decode cX8_arrive 49 = .ok (.if_icmp .ne 4, 3) := by decide +kernel
theorem dX8_arrive_52 : decode cX8_arrive 52 = .ok (.return_, 1) := by decide +kernel
theorem dX8_arrive_53 : decode cX8_arrive 53 = .ok (.aload_n 0, 1) := by decide +kernel
theorem dX8_arrive_54 : decode cX8_arrive 54 = .ok (.getfield 9, 3) := by decide +kernel
theorem dX8_arrive_57 : decode cX8_arrive 57 = .ok (.iload_n 3, 1) := by decide +kernel
theorem dX8_arrive_58 : decode cX8_arrive 58 = .ok (.dup2, 1) := by decide +kernel
theorem dX8_arrive_59 : decode cX8_arrive 59 = .ok (.iaload, 1) := by decide +kernel
theorem dX8_arrive_60 : decode cX8_arrive 60 = .ok (.iconst 1, 1) := by decide +kernel
theorem dX8_arrive_61 : decode cX8_arrive 61 = .ok (.iadd, 1) := by decide +kernel
theorem dX8_arrive_62 : decode cX8_arrive 62 = .ok (.iastore, 1) := by decide +kernel
theorem dX8_arrive_63 : decode cX8_arrive 63 = .ok (.aload_n 0, 1) := by decide +kernel
theorem dX8_arrive_64 : decode cX8_arrive 64 = .ok (.dup, 1) := by decide +kernel
theorem dX8_arrive_65 : decode cX8_arrive 65 = .ok (.getfield 29, 3) := by decide +kernel
theorem dX8_arrive_68 : decode cX8_arrive 68 = .ok (.iconst 1, 1) := by decide +kernel
theorem dX8_arrive_69 : decode cX8_arrive 69 = .ok (.isub, 1) := by decide +kernel
theorem dX8_arrive_70 : decode cX8_arrive 70 = .ok (.putfield 29, 3) := by decide +kernel
theorem dX8_arrive_73 : decode cX8_arrive 73 = .ok (.iinc 2 1, 3) := by decide +kernel
theorem dX8_arrive_76 : decode cX8_arrive 76 = .ok (.goto (-48), 3) := by decide +kernel
theorem dX8_arrive_79 : decode cX8_arrive 79 = .ok (.return_, 1) := by decide +kernel
theorem dX8_judgeBroken_0 : decode cX8_judgeBroken 0 = .ok (.iconst 0, 1) := by decide +kernel
theorem dX8_judgeBroken_1 : decode cX8_judgeBroken 1 = .ok (.istore_n 1, 1) := by decide +kernel
theorem dX8_judgeBroken_2 : decode cX8_judgeBroken 2 = .ok (.iload_n 1, 1) := by decide +kernel
theorem dX8_judgeBroken_3 : decode cX8_judgeBroken 3 = .ok (.bipush 12, 2) := by decide +kernel
theorem dX8_judgeBroken_5 : decode cX8_judgeBroken 5 = .ok (.if_icmp .ge 47, 3) := by decide +kernel
theorem dX8_judgeBroken_8 : decode cX8_judgeBroken 8 = .ok (.aload_n 0, 1) := by decide +kernel
theorem dX8_judgeBroken_9 : decode cX8_judgeBroken 9 = .ok (.iload_n 1, 1) := by decide +kernel
theorem dX8_judgeBroken_10 : decode cX8_judgeBroken 10 = .ok (.invokevirtual 35, 3) := by decide +kernel
theorem dX8_judgeBroken_13 : decode cX8_judgeBroken 13 = .ok (.istore_n 2, 1) := by decide +kernel
theorem dX8_judgeBroken_14 : decode cX8_judgeBroken 14 = .ok (.aload_n 0, 1) := by decide +kernel
theorem dX8_judgeBroken_15 : decode cX8_judgeBroken 15 = .ok (.getfield 19, 3) := by decide +kernel
theorem dX8_judgeBroken_18 : decode cX8_judgeBroken 18 = .ok (.iload_n 1, 1) := by decide +kernel
theorem dX8_judgeBroken_19 : decode cX8_judgeBroken 19 = .ok (.iload_n 2, 1) := by decide +kernel
theorem dX8_judgeBroken_20 : decode cX8_judgeBroken 20 = .ok (.bipush 15, 2) := by decide +kernel
theorem dX8_judgeBroken_22 : decode cX8_judgeBroken 22 = .ok (.if_icmp .ge 18, 3) := by decide +kernel
theorem dX8_judgeBroken_25 : decode cX8_judgeBroken 25 = .ok (.aload_n 0, 1) := by decide +kernel
theorem dX8_judgeBroken_26 : decode cX8_judgeBroken 26 = .ok (.getfield 19, 3) := by decide +kernel
theorem dX8_judgeBroken_29 : decode cX8_judgeBroken 29 = .ok (.iload_n 1, 1) := by decide +kernel
theorem dX8_judgeBroken_30 : decode cX8_judgeBroken 30 = .ok (.baload, 1) := by decide +kernel
theorem dX8_judgeBroken_31 : decode cX8_judgeBroken 31 = .ok (.ifCond .eq 13, 3) := by decide +kernel
theorem dX8_judgeBroken_34 : decode cX8_judgeBroken 34 = .ok (.iload_n 2, 1) := by decide +kernel
theorem dX8_judgeBroken_35 : decode cX8_judgeBroken 35 = .ok (.bipush 8, 2) := by decide +kernel
theorem dX8_judgeBroken_37 : decode cX8_judgeBroken 37 = .ok (.if_icmp .lt 7, 3) := by decide +kernel
theorem dX8_judgeBroken_40 : decode cX8_judgeBroken 40 = .ok (.iconst 1, 1) := by decide +kernel
theorem dX8_judgeBroken_41 : decode cX8_judgeBroken 41 = .ok (.goto 4, 3) := by decide +kernel
theorem dX8_judgeBroken_44 : decode cX8_judgeBroken 44 = .ok (.iconst 0, 1) := by decide +kernel
theorem dX8_judgeBroken_45 : decode cX8_judgeBroken 45 = .ok (.bastore, 1) := by decide +kernel
theorem dX8_judgeBroken_46 : decode cX8_judgeBroken 46 = .ok (.iinc 1 1, 3) := by decide +kernel
theorem dX8_judgeBroken_49 : decode cX8_judgeBroken 49 = .ok (.goto (-47), 3) := by decide +kernel
theorem dX8_judgeBroken_52 : decode cX8_judgeBroken 52 = .ok (.return_, 1) := by decide +kernel
theorem dX8_goOnFrom_0 : decode cX8_goOnFrom 0 = .ok (.iload_n 1, 1) := by decide +kernel
theorem dX8_goOnFrom_1 : decode cX8_goOnFrom 1 = .ok (.iload_n 2, 1) := by decide +kernel
theorem dX8_goOnFrom_2 : decode cX8_goOnFrom 2 = .ok (.invokestatic 58, 3) := by decide +kernel
theorem dX8_goOnFrom_5 : decode cX8_goOnFrom 5 = .ok (.istore 4, 2) := by decide +kernel
theorem dX8_goOnFrom_7 : decode cX8_goOnFrom 7 = .ok (.aload_n 0, 1) := by decide +kernel
theorem dX8_goOnFrom_8 : decode cX8_goOnFrom 8 = .ok (.iload 4, 2) := by decide +kernel
theorem dX8_goOnFrom_10 : decode cX8_goOnFrom 10 = .ok (.invokevirtual 47, 3) := by decide +kernel
theorem dX8_goOnFrom_13 : decode cX8_goOnFrom 13 = .ok (.aload_n 0, 1) := by decide +kernel
theorem dX8_goOnFrom_14 : decode cX8_goOnFrom 14 = .ok (.iload_n 1, 1) := by decide +kernel
theorem dX8_goOnFrom_15 : decode cX8_goOnFrom 15 = .ok (.iload 4, 2) := by decide +kernel
theorem dX8_goOnFrom_17 : decode cX8_goOnFrom 17 = .ok (.invokevirtual 62, 3) := by decide +kernel
theorem dX8_goOnFrom_20 : decode cX8_goOnFrom 20 = .ok (.invokestatic 65, 3) := by decide +kernel
theorem dX8_goOnFrom_23 : decode cX8_goOnFrom 23 = .ok (.istore 5, 2) := by decide +kernel
theorem dX8_goOnFrom_25 : decode cX8_goOnFrom 25 = .ok (.iconst 0, 1) := by decide +kernel
theorem dX8_goOnFrom_26 : decode cX8_goOnFrom 26 = .ok (.istore 6, 2) := by decide +kernel
theorem dX8_goOnFrom_28 : decode cX8_goOnFrom 28 = .ok (.iload 6, 2) := by decide +kernel
theorem dX8_goOnFrom_30 : decode cX8_goOnFrom 30 = .ok (.iload 5, 2) := by decide +kernel
theorem dX8_goOnFrom_32 : decode cX8_goOnFrom 32 = .ok (.if_icmp .ge 66, 3) := by decide +kernel
theorem dX8_goOnFrom_35 : decode cX8_goOnFrom 35 = .ok (.iload_n 1, 1) := by decide +kernel
theorem dX8_goOnFrom_36 : decode cX8_goOnFrom 36 = .ok (.bipush 11, 2) := by decide +kernel
theorem dX8_goOnFrom_38 : decode cX8_goOnFrom 38 = .ok (.if_icmp .ne 16, 3) := by decide +kernel
theorem dX8_goOnFrom_41 : decode cX8_goOnFrom 41 = .ok (.aload_n 0, 1) := by decide +kernel
theorem dX8_goOnFrom_42 : decode cX8_goOnFrom 42 = .ok (.dup, 1) := by decide +kernel
theorem dX8_goOnFrom_43 : decode cX8_goOnFrom 43 = .ok (.getfield 32, 3) := by decide +kernel
theorem dX8_goOnFrom_46 : decode cX8_goOnFrom 46 = .ok (.iconst 1, 1) := by decide +kernel
theorem dX8_goOnFrom_47 : decode cX8_goOnFrom 47 = .ok (.iadd, 1) := by decide +kernel
theorem dX8_goOnFrom_48 : decode cX8_goOnFrom 48 = .ok (.putfield 32, 3) := by decide +kernel
theorem dX8_goOnFrom_51 : decode cX8_goOnFrom 51 = .ok (.goto 30, 3) := by decide +kernel
theorem dX8_goOnFrom_54 : decode cX8_goOnFrom 54 = .ok (.aload_n 0, 1) := by decide +kernel
theorem dX8_goOnFrom_55 : decode cX8_goOnFrom 55 = .ok (.iload_n 1, 1) := by decide +kernel
theorem dX8_goOnFrom_56 : decode cX8_goOnFrom 56 = .ok (.iload_n 2, 1) := by decide +kernel
theorem dX8_goOnFrom_57 : decode cX8_goOnFrom 57 = .ok (.aload_n 3, 1) := by decide +kernel
theorem dX8_goOnFrom_58 : decode cX8_goOnFrom 58 = .ok (.invokevirtual 70, 3) := by decide +kernel
theorem dX8_goOnFrom_61 : decode cX8_goOnFrom 61 = .ok (.istore 7, 2) := by decide +kernel
theorem dX8_goOnFrom_63 : decode cX8_goOnFrom 63 = .ok (.iload 7, 2) := by decide +kernel
theorem dX8_goOnFrom_65 : decode cX8_goOnFrom 65 = .ok (.iconst (-1), 1) := by decide +kernel
theorem dX8_goOnFrom_66 : decode cX8_goOnFrom 66 = .ok (.if_icmp .ne 4, 3) := by decide +kernel
theorem dX8_goOnFrom_69 : decode cX8_goOnFrom 69 = .ok (.return_, 1) := by decide +kernel
theorem dX8_goOnFrom_70 : decode cX8_goOnFrom 70 = .ok (.aload_n 0, 1) := by decide +kernel
theorem dX8_goOnFrom_71 : decode cX8_goOnFrom 71 = .ok (.getfield 9, 3) := by decide +kernel
theorem dX8_goOnFrom_74 : decode cX8_goOnFrom 74 = .ok (.iload 7, 2) := by decide +kernel
theorem dX8_goOnFrom_76 : decode cX8_goOnFrom 76 = .ok (.dup2, 1) := by decide +kernel
theorem dX8_goOnFrom_77 : decode cX8_goOnFrom 77 = .ok (.iaload, 1) := by decide +kernel
theorem dX8_goOnFrom_78 : decode cX8_goOnFrom 78 = .ok (.iconst 1, 1) := by decide +kernel
theorem dX8_goOnFrom_79 : decode cX8_goOnFrom 79 = .ok (.iadd, 1) := by decide +kernel
theorem dX8_goOnFrom_80 : decode cX8_goOnFrom 80 = .ok (.iastore, 1) := by decide +kernel
theorem dX8_goOnFrom_81 : decode cX8_goOnFrom 81 = .ok (.aload_n 0, 1) := by decide +kernel
theorem dX8_goOnFrom_82 : decode cX8_goOnFrom 82 = .ok (.getfield 9, 3) := by decide +kernel
theorem dX8_goOnFrom_85 : decode cX8_goOnFrom 85 = .ok (.iload 4, 2) := by decide +kernel
theorem dX8_goOnFrom_87 : decode cX8_goOnFrom 87 = .ok (.dup2, 1) := by decide +kernel
theorem dX8_goOnFrom_88 : decode cX8_goOnFrom 88 = .ok (.iaload, 1) := by decide +kernel
theorem dX8_goOnFrom_89 : decode cX8_goOnFrom 89 = .ok (.iconst 1, 1) := by decide +kernel
theorem dX8_goOnFrom_90 : decode cX8_goOnFrom 90 = .ok (.isub, 1) := by decide +kernel
theorem dX8_goOnFrom_91 : decode cX8_goOnFrom 91 = .ok (.iastore, 1) := by decide +kernel
theorem dX8_goOnFrom_92 : decode cX8_goOnFrom 92 = .ok (.iinc 6 1, 3) := by decide +kernel
theorem dX8_goOnFrom_95 : decode cX8_goOnFrom 95 = .ok (.goto (-67), 3) := by decide +kernel
theorem dX8_goOnFrom_98 : decode cX8_goOnFrom 98 = .ok (.return_, 1) := by decide +kernel
theorem dX8_mostThatGoOn_0 : decode cX8_mostThatGoOn 0 = .ok (.aload_n 0, 1) := by decide +kernel
theorem dX8_mostThatGoOn_1 : decode cX8_mostThatGoOn 1 = .ok (.iload_n 2, 1) := by decide +kernel
theorem dX8_mostThatGoOn_2 : decode cX8_mostThatGoOn 2 = .ok (.invokevirtual 43, 3) := by decide +kernel
theorem dX8_mostThatGoOn_5 : decode cX8_mostThatGoOn 5 = .ok (.ifCond .eq 5, 3) := by decide +kernel
theorem dX8_mostThatGoOn_8 : decode cX8_mostThatGoOn 8 = .ok (.iconst 0, 1) := by decide +kernel
theorem dX8_mostThatGoOn_9 : decode cX8_mostThatGoOn 9 = .ok (.ireturn, 1) := by decide +kernel
theorem dX8_mostThatGoOn_10 : decode cX8_mostThatGoOn 10 = .ok (.aload_n 0, 1) := by decide +kernel
theorem dX8_mostThatGoOn_11 : decode cX8_mostThatGoOn 11 = .ok (.getfield 19, 3) := by decide +kernel
theorem dX8_mostThatGoOn_14 : decode cX8_mostThatGoOn 14 = .ok (.iload_n 1, 1) := by decide +kernel
theorem dX8_mostThatGoOn_15 : decode cX8_mostThatGoOn 15 = .ok (.baload, 1) := by decide +kernel
theorem dX8_mostThatGoOn_16 : decode cX8_mostThatGoOn 16 = .ok (.ifCond .eq 8, 3) := by decide +kernel
theorem dX8_mostThatGoOn_19 : decode cX8_mostThatGoOn 19 = .ok (.bipush 6, 2) := by decide +kernel
theorem dX8_mostThatGoOn_21 : decode cX8_mostThatGoOn 21 = .ok (.goto 5, 3) := by decide +kernel
theorem dX8_mostThatGoOn_24 : decode cX8_mostThatGoOn 24 = .ok (.bipush 8, 2) := by decide +kernel
theorem dX8_mostThatGoOn_26 : decode cX8_mostThatGoOn 26 = .ok (.ireturn, 1) := by decide +kernel
theorem dX8_placeToGoTo_0 : decode cX8_placeToGoTo 0 = .ok (.aload_n 3, 1) := by decide +kernel
theorem dX8_placeToGoTo_1 : decode cX8_placeToGoTo 1 = .ok (.iload_n 1, 1) := by decide +kernel
theorem dX8_placeToGoTo_2 : decode cX8_placeToGoTo 2 = .ok (.iload_n 2, 1) := by decide +kernel
theorem dX8_placeToGoTo_3 : decode cX8_placeToGoTo 3 = .ok (.invokestatic 58, 3) := by decide +kernel
theorem dX8_placeToGoTo_6 : decode cX8_placeToGoTo 6 = .ok (.iaload, 1) := by decide +kernel
theorem dX8_placeToGoTo_7 : decode cX8_placeToGoTo 7 = .ok (.ifCond .ne 9, 3) := by decide +kernel
theorem dX8_placeToGoTo_10 : decode cX8_placeToGoTo 10 = .ok (.getstatic 74, 3) := by decide +kernel
theorem dX8_placeToGoTo_13 : decode cX8_placeToGoTo 13 = .ok (.goto 6, 3) := by decide +kernel
theorem dX8_placeToGoTo_16 : decode cX8_placeToGoTo 16 = .ok (.getstatic 77, 3) := by decide +kernel
theorem dX8_placeToGoTo_19 : decode cX8_placeToGoTo 19 = .ok (.astore 4, 2) := by decide +kernel
theorem dX8_placeToGoTo_21 : decode cX8_placeToGoTo 21 = .ok (.iconst 0, 1) := by decide +kernel
theorem dX8_placeToGoTo_22 : decode cX8_placeToGoTo 22 = .ok (.istore 5, 2) := by decide +kernel
theorem dX8_placeToGoTo_24 : decode cX8_placeToGoTo 24 = .ok (.iload 5, 2) := by decide +kernel
theorem dX8_placeToGoTo_26 : decode cX8_placeToGoTo 26 = .ok (.aload 4, 2) := by decide +kernel
theorem dX8_placeToGoTo_28 : decode cX8_placeToGoTo 28 = .ok (.arraylength, 1) := by decide +kernel
theorem dX8_placeToGoTo_29 : decode cX8_placeToGoTo 29 = .ok (.if_icmp .ge 53, 3) := by decide +kernel
theorem dX8_placeToGoTo_32 : decode cX8_placeToGoTo 32 = .ok (.iload_n 2, 1) := by decide +kernel
theorem dX8_placeToGoTo_33 : decode cX8_placeToGoTo 33 = .ok (.aload 4, 2) := by decide +kernel
theorem dX8_placeToGoTo_35 : decode cX8_placeToGoTo 35 = .ok (.iload 5, 2) := by decide +kernel
theorem dX8_placeToGoTo_37 : decode cX8_placeToGoTo 37 = .ok (.iaload, 1) := by decide +kernel
theorem dX8_placeToGoTo_38 : decode cX8_placeToGoTo 38 = .ok (.iadd, 1) := by decide +kernel
theorem dX8_placeToGoTo_39 : decode cX8_placeToGoTo 39 = .ok (.istore 6, 2) := by decide +kernel
theorem dX8_placeToGoTo_41 : decode cX8_placeToGoTo 41 = .ok (.iload 6, 2) := by decide +kernel
theorem dX8_placeToGoTo_43 : decode cX8_placeToGoTo 43 = .ok (.iconst 0, 1) := by decide +kernel
theorem dX8_placeToGoTo_44 : decode cX8_placeToGoTo 44 = .ok (.iconst 3, 1) := by decide +kernel
theorem dX8_placeToGoTo_45 : decode cX8_placeToGoTo 45 = .ok (.invokestatic 39, 3) := by decide +kernel
theorem dX8_placeToGoTo_48 : decode cX8_placeToGoTo 48 = .ok (.ifCond .eq 28, 3) := by decide +kernel
theorem dX8_placeToGoTo_51 : decode cX8_placeToGoTo 51 = .ok (.aload_n 0, 1) := by decide +kernel
theorem dX8_placeToGoTo_52 : decode cX8_placeToGoTo 52 = .ok (.iload_n 1, 1) := by decide +kernel
theorem dX8_placeToGoTo_53 : decode cX8_placeToGoTo 53 = .ok (.iconst 1, 1) := by decide +kernel
theorem dX8_placeToGoTo_54 : decode cX8_placeToGoTo 54 = .ok (.iadd, 1) := by decide +kernel
theorem dX8_placeToGoTo_55 : decode cX8_placeToGoTo 55 = .ok (.iload 6, 2) := by decide +kernel
theorem dX8_placeToGoTo_57 : decode cX8_placeToGoTo 57 = .ok (.invokestatic 58, 3) := by decide +kernel
theorem dX8_placeToGoTo_60 : decode cX8_placeToGoTo 60 = .ok (.aload_n 3, 1) := by decide +kernel
theorem dX8_placeToGoTo_61 : decode cX8_placeToGoTo 61 = .ok (.invokevirtual 80, 3) := by decide +kernel
theorem dX8_placeToGoTo_64 : decode cX8_placeToGoTo 64 = .ok (.ifCond .eq 12, 3) := by decide +kernel
theorem dX8_placeToGoTo_67 : decode cX8_placeToGoTo 67 = .ok (.iload_n 1, 1) := by decide +kernel
theorem dX8_placeToGoTo_68 : decode cX8_placeToGoTo 68 = .ok (.iconst 1, 1) := by decide +kernel
theorem dX8_placeToGoTo_69 : decode cX8_placeToGoTo 69 = .ok (.iadd, 1) := by decide +kernel
theorem dX8_placeToGoTo_70 : decode cX8_placeToGoTo 70 = .ok (.iload 6, 2) := by decide +kernel
theorem dX8_placeToGoTo_72 : decode cX8_placeToGoTo 72 = .ok (.invokestatic 58, 3) := by decide +kernel
theorem dX8_placeToGoTo_75 : decode cX8_placeToGoTo 75 = .ok (.ireturn, 1) := by decide +kernel
theorem dX8_placeToGoTo_76 : decode cX8_placeToGoTo 76 = .ok (.iinc 5 1, 3) := by decide +kernel
theorem dX8_placeToGoTo_79 : decode cX8_placeToGoTo 79 = .ok (.goto (-55), 3) := by decide +kernel
theorem dX8_placeToGoTo_82 : decode cX8_placeToGoTo 82 = .ok (.iconst (-1), 1) := by decide +kernel
theorem dX8_placeToGoTo_83 : decode cX8_placeToGoTo 83 = .ok (.ireturn, 1) := by decide +kernel
theorem dX8_laneToEnter_0 : decode cX8_laneToEnter 0 = .ok (.iconst (-1), 1) := by decide +kernel
theorem dX8_laneToEnter_1 : decode cX8_laneToEnter 1 = .ok (.istore_n 2, 1) := by decide +kernel
theorem dX8_laneToEnter_2 : decode cX8_laneToEnter 2 = .ok (.iconst 0, 1) := by decide +kernel
theorem dX8_laneToEnter_3 : decode cX8_laneToEnter 3 = .ok (.istore_n 3, 1) := by decide +kernel
theorem dX8_laneToEnter_4 : decode cX8_laneToEnter 4 = .ok (.iload_n 3, 1) := by decide +kernel
theorem dX8_laneToEnter_5 : decode cX8_laneToEnter 5 = .ok (.iconst 4, 1) := by decide +kernel
theorem dX8_laneToEnter_6 : decode cX8_laneToEnter 6 = .ok (.if_icmp .ge 40, 3) := by decide +kernel
theorem dX8_laneToEnter_9 : decode cX8_laneToEnter 9 = .ok (.aload_n 0, 1) := by decide +kernel
theorem dX8_laneToEnter_10 : decode cX8_laneToEnter 10 = .ok (.iload_n 3, 1) := by decide +kernel
theorem dX8_laneToEnter_11 : decode cX8_laneToEnter 11 = .ok (.aload_n 1, 1) := by decide +kernel
theorem dX8_laneToEnter_12 : decode cX8_laneToEnter 12 = .ok (.invokevirtual 80, 3) := by decide +kernel
theorem dX8_laneToEnter_15 : decode cX8_laneToEnter 15 = .ok (.ifCond .eq 25, 3) := by decide +kernel
theorem dX8_laneToEnter_18 : decode cX8_laneToEnter 18 = .ok (.iload_n 2, 1) := by decide +kernel
theorem dX8_laneToEnter_19 : decode cX8_laneToEnter 19 = .ok (.iconst (-1), 1) := by decide +kernel
theorem dX8_laneToEnter_20 : decode cX8_laneToEnter 20 = .ok (.if_icmp .eq 18, 3) := by decide +kernel
theorem dX8_laneToEnter_23 : decode cX8_laneToEnter 23 = .ok (.aload_n 0, 1) := by decide +kernel
theorem dX8_laneToEnter_24 : decode cX8_laneToEnter 24 = .ok (.getfield 9, 3) := by decide +kernel
theorem dX8_laneToEnter_27 : decode cX8_laneToEnter 27 = .ok (.iload_n 3, 1) := by decide +kernel
theorem dX8_laneToEnter_28 : decode cX8_laneToEnter 28 = .ok (.iaload, 1) := by decide +kernel
theorem dX8_laneToEnter_29 : decode cX8_laneToEnter 29 = .ok (.aload_n 0, 1) := by decide +kernel
theorem dX8_laneToEnter_30 : decode cX8_laneToEnter 30 = .ok (.getfield 9, 3) := by decide +kernel
theorem dX8_laneToEnter_33 : decode cX8_laneToEnter 33 = .ok (.iload_n 2, 1) := by decide +kernel
theorem dX8_laneToEnter_34 : decode cX8_laneToEnter 34 = .ok (.iaload, 1) := by decide +kernel
theorem dX8_laneToEnter_35 : decode cX8_laneToEnter 35 = .ok (.if_icmp .ge 5, 3) := by decide +kernel
theorem dX8_laneToEnter_38 : decode cX8_laneToEnter 38 = .ok (.iload_n 3, 1) := by decide +kernel
theorem dX8_laneToEnter_39 : decode cX8_laneToEnter 39 = .ok (.istore_n 2, 1) := by decide +kernel
theorem dX8_laneToEnter_40 : decode cX8_laneToEnter 40 = .ok (.iinc 3 1, 3) := by decide +kernel
theorem dX8_laneToEnter_43 : decode cX8_laneToEnter 43 = .ok (.goto (-39), 3) := by decide +kernel
theorem dX8_laneToEnter_46 : decode cX8_laneToEnter 46 = .ok (.iload_n 2, 1) := by decide +kernel
theorem dX8_laneToEnter_47 : decode cX8_laneToEnter 47 = .ok (.ireturn, 1) := by decide +kernel
theorem dX8_letsIn_0 : decode cX8_letsIn 0 = .ok (.iload_n 1, 1) := by decide +kernel
theorem dX8_letsIn_1 : decode cX8_letsIn 1 = .ok (.iconst 0, 1) := by decide +kernel
theorem dX8_letsIn_2 : decode cX8_letsIn 2 = .ok (.bipush 47, 2) := by decide +kernel
theorem dX8_letsIn_4 : decode cX8_letsIn 4 = .ok (.invokestatic 39, 3) := by decide +kernel
theorem dX8_letsIn_7 : decode cX8_letsIn 7 = .ok (.ifCond .eq 25, 3) := by decide +kernel
theorem dX8_letsIn_10 : decode cX8_letsIn 10 = .ok (.aload_n 2, 1) := by decide +kernel
theorem dX8_letsIn_11 : decode cX8_letsIn 11 = .ok (.iload_n 1, 1) := by decide +kernel
theorem dX8_letsIn_12 : decode cX8_letsIn 12 = .ok (.iaload, 1) := by decide +kernel
theorem dX8_letsIn_13 : decode cX8_letsIn 13 = .ok (.iconst 2, 1) := by decide +kernel
theorem dX8_letsIn_14 : decode cX8_letsIn 14 = .ok (.if_icmp .eq 18, 3) := by decide +kernel
theorem dX8_letsIn_17 : decode cX8_letsIn 17 = .ok (.aload_n 0, 1) := by decide +kernel
theorem dX8_letsIn_18 : decode cX8_letsIn 18 = .ok (.getfield 9, 3) := by decide +kernel
theorem dX8_letsIn_21 : decode cX8_letsIn 21 = .ok (.iload_n 1, 1) := by decide +kernel
theorem dX8_letsIn_22 : decode cX8_letsIn 22 = .ok (.iaload, 1) := by decide +kernel
theorem dX8_letsIn_23 : decode cX8_letsIn 23 = .ok (.bipush 20, 2) := by decide +kernel
theorem dX8_letsIn_25 : decode cX8_letsIn 25 = .ok (.if_icmp .ge 7, 3) := by decide +kernel
theorem dX8_letsIn_28 : decode cX8_letsIn 28 = .ok (.iconst 1, 1) := by decide +kernel
theorem dX8_letsIn_29 : decode cX8_letsIn 29 = .ok (.goto 4, 3) := by decide +kernel
theorem dX8_letsIn_32 : decode cX8_letsIn 32 = .ok (.iconst 0, 1) := by decide +kernel
theorem dX8_letsIn_33 : decode cX8_letsIn 33 = .ok (.ireturn, 1) := by decide +kernel
theorem dX8_heldAt_0 : decode cX8_heldAt 0 = .ok (.iload_n 1, 1) := by decide +kernel
theorem dX8_heldAt_1 : decode cX8_heldAt 1 = .ok (.iconst 0, 1) := by decide +kernel
theorem dX8_heldAt_2 : decode cX8_heldAt 2 = .ok (.bipush 47, 2) := by decide +kernel
theorem dX8_heldAt_4 : decode cX8_heldAt 4 = .ok (.invokestatic 39, 3) := by decide +kernel
theorem dX8_heldAt_7 : decode cX8_heldAt 7 = .ok (.ifCond .eq 12, 3) := by decide +kernel
theorem dX8_heldAt_10 : decode cX8_heldAt 10 = .ok (.aload_n 0, 1) := by decide +kernel
theorem dX8_heldAt_11 : decode cX8_heldAt 11 = .ok (.getfield 9, 3) := by decide +kernel
theorem dX8_heldAt_14 : decode cX8_heldAt 14 = .ok (.iload_n 1, 1) := by decide +kernel
theorem dX8_heldAt_15 : decode cX8_heldAt 15 = .ok (.iaload, 1) := by decide +kernel
theorem dX8_heldAt_16 : decode cX8_heldAt 16 = .ok (.goto 4, 3) := by decide +kernel
theorem dX8_heldAt_19 : decode cX8_heldAt 19 = .ok (.iconst 0, 1) := by decide +kernel
theorem dX8_heldAt_20 : decode cX8_heldAt 20 = .ok (.ireturn, 1) := by decide +kernel
theorem dX9_init_0 : decode cX9_init 0 = .ok (.aload_n 0, 1) := by decide +kernel
theorem dX9_init_1 : decode cX9_init 1 = .ok (.invokespecial 1, 3) := by decide +kernel
theorem dX9_init_4 : decode cX9_init 4 = .ok (.aload_n 0, 1) := by decide +kernel
theorem dX9_init_5 : decode cX9_init 5 = .ok (.iconst 0, 1) := by decide +kernel
theorem dX9_init_6 : decode cX9_init 6 = .ok (.putfield 7, 3) := by decide +kernel
theorem dX9_init_9 : decode cX9_init 9 = .ok (.aload_n 0, 1) := by decide +kernel
theorem dX9_init_10 : decode cX9_init 10 = .ok (.new 13, 3) := by decide +kernel
theorem dX9_init_13 : decode cX9_init 13 = .ok (.dup, 1) := by decide +kernel
theorem dX9_init_14 : decode cX9_init 14 = .ok (.invokespecial 15, 3) := by decide +kernel
theorem dX9_init_17 : decode cX9_init 17 = .ok (.putfield 16, 3) := by decide +kernel
theorem dX9_init_20 : decode cX9_init 20 = .ok (.aload_n 0, 1) := by decide +kernel
theorem dX9_init_21 : decode cX9_init 21 = .ok (.new 20, 3) := by decide +kernel
theorem dX9_init_24 : decode cX9_init 24 = .ok (.dup, 1) := by decide +kernel
theorem dX9_init_25 : decode cX9_init 25 = .ok (.invokespecial 22, 3) := by decide +kernel
theorem dX9_init_28 : decode cX9_init 28 = .ok (.putfield 23, 3) := by decide +kernel
theorem dX9_init_31 : decode cX9_init 31 = .ok (.aload_n 0, 1) := by decide +kernel
theorem dX9_init_32 : decode cX9_init 32 = .ok (.new 27, 3) := by decide +kernel
theorem dX9_init_35 : decode cX9_init 35 = .ok (.dup, 1) := by decide +kernel
theorem dX9_init_36 : decode cX9_init 36 = .ok (.invokespecial 29, 3) := by decide +kernel
theorem dX9_init_39 : decode cX9_init 39 = .ok (.putfield 30, 3) := by decide +kernel
theorem dX9_init_42 : decode cX9_init 42 = .ok (.aload_n 0, 1) := by decide +kernel
theorem dX9_init_43 : decode cX9_init 43 = .ok (.new 34, 3) := by decide +kernel
theorem dX9_init_46 : decode cX9_init 46 = .ok (.dup, 1) := by decide +kernel
theorem dX9_init_47 : decode cX9_init 47 = .ok (.invokespecial 36, 3) := by decide +kernel
theorem dX9_init_50 : decode cX9_init 50 = .ok (.putfield 37, 3) := by decide +kernel
theorem dX9_init_53 : decode cX9_init 53 = .ok (.aload_n 0, 1) := by decide +kernel
theorem dX9_init_54 : decode cX9_init 54 = .ok (.new 41, 3) := by decide +kernel
theorem dX9_init_57 : decode cX9_init 57 = .ok (.dup, 1) := by decide +kernel
theorem dX9_init_58 : decode cX9_init 58 = .ok (.invokespecial 43, 3) := by decide +kernel
theorem dX9_init_61 : decode cX9_init 61 = .ok (.putfield 44, 3) := by decide +kernel
theorem dX9_init_64 : decode cX9_init 64 = .ok (.aload_n 0, 1) := by decide +kernel
theorem dX9_init_65 : decode cX9_init 65 = .ok (.new 48, 3) := by decide +kernel
theorem dX9_init_68 : decode cX9_init 68 = .ok (.dup, 1) := by decide +kernel
theorem dX9_init_69 : decode cX9_init 69 = .ok (.invokespecial 50, 3) := by decide +kernel
theorem dX9_init_72 : decode cX9_init 72 = .ok (.putfield 51, 3) := by decide +kernel
theorem dX9_init_75 : decode cX9_init 75 = .ok (.aload_n 0, 1) := by decide +kernel
theorem dX9_init_76 : decode cX9_init 76 = .ok (.new 55, 3) := by decide +kernel
theorem dX9_init_79 : decode cX9_init 79 = .ok (.dup, 1) := by decide +kernel
theorem dX9_init_80 : decode cX9_init 80 = .ok (.invokespecial 57, 3) := by decide +kernel
theorem dX9_init_83 : decode cX9_init 83 = .ok (.putfield 58, 3) := by decide +kernel
theorem dX9_init_86 : decode cX9_init 86 = .ok (.aload_n 0, 1) := by decide +kernel
theorem dX9_init_87 : decode cX9_init 87 = .ok (.new 62, 3) := by decide +kernel
theorem dX9_init_90 : decode cX9_init 90 = .ok (.dup, 1) := by decide +kernel
theorem dX9_init_91 : decode cX9_init 91 = .ok (.invokespecial 64, 3) := by decide +kernel
theorem dX9_init_94 : decode cX9_init 94 = .ok (.putfield 65, 3) := by decide +kernel
theorem dX9_init_97 : decode cX9_init 97 = .ok (.aload_n 0, 1) := by decide +kernel
theorem dX9_init_98 : decode cX9_init 98 = .ok (.new 69, 3) := by decide +kernel
theorem dX9_init_101 : decode cX9_init 101 = .ok (.dup, 1) := by decide +kernel
theorem dX9_init_102 : decode cX9_init 102 = .ok (.invokespecial 71, 3) := by decide +kernel
theorem dX9_init_105 : decode cX9_init 105 = .ok (.putfield 72, 3) := by decide +kernel
theorem dX9_init_108 : decode cX9_init 108 = .ok (.aload_n 0, 1) := by decide +kernel
theorem dX9_init_109 : decode cX9_init 109 = .ok (.getfield 37, 3) := by decide +kernel
theorem dX9_init_112 : decode cX9_init 112 = .ok (.aload_n 0, 1) := by decide +kernel
theorem dX9_init_113 : decode cX9_init 113 = .ok (.getfield 7, 3) := by decide +kernel
theorem dX9_init_116 : decode cX9_init 116 = .ok (.aload_n 0, 1) := by decide +kernel
theorem dX9_init_117 : decode cX9_init 117 = .ok (.getfield 44, 3) := by decide +kernel
theorem dX9_init_120 : decode cX9_init 120 = .ok (.aload_n 0, 1) := by decide +kernel
theorem dX9_init_121 : decode cX9_init 121 = .ok (.getfield 51, 3) := by decide +kernel
theorem dX9_init_124 : decode cX9_init 124 = .ok (.aload_n 0, 1) := by decide +kernel
theorem dX9_init_125 : decode cX9_init 125 = .ok (.getfield 65, 3) := by decide +kernel
theorem dX9_init_128 : decode cX9_init 128 = .ok (.invokevirtual 76, 3) := by decide +kernel
theorem dX9_init_131 : decode cX9_init 131 = .ok (.aload_n 0, 1) := by decide +kernel
theorem dX9_init_132 : decode cX9_init 132 = .ok (.getfield 72, 3) := by decide +kernel
theorem dX9_init_135 : decode cX9_init 135 = .ok (.aload_n 0, 1) := by decide +kernel
theorem dX9_init_136 : decode cX9_init 136 = .ok (.getfield 7, 3) := by decide +kernel
theorem dX9_init_139 : decode cX9_init 139 = .ok (.aload_n 0, 1) := by decide +kernel
theorem dX9_init_140 : decode cX9_init 140 = .ok (.getfield 30, 3) := by decide +kernel
theorem dX9_init_143 : decode cX9_init 143 = .ok (.getfield 80, 3) := by decide +kernel
theorem dX9_init_146 : decode cX9_init 146 = .ok (.aload_n 0, 1) := by decide +kernel
theorem dX9_init_147 : decode cX9_init 147 = .ok (.getfield 37, 3) := by decide +kernel
theorem dX9_init_150 : decode cX9_init 150 = .ok (.getfield 84, 3) := by decide +kernel
theorem dX9_init_153 : decode cX9_init 153 = .ok (.invokevirtual 85, 3) := by decide +kernel
theorem dX9_init_156 : decode cX9_init 156 = .ok (.return_, 1) := by decide +kernel
theorem dX9_demand_0 : decode cX9_demand 0 = .ok (.iload_n 1, 1) := by decide +kernel
theorem dX9_demand_1 : decode cX9_demand 1 = .ok (.iconst 0, 1) := by decide +kernel
theorem dX9_demand_2 : decode cX9_demand 2 = .ok (.bipush 40, 2) := by decide +kernel
theorem dX9_demand_4 : decode cX9_demand 4 = .ok (.invokestatic 89, 3) := by decide +kernel
theorem dX9_demand_7 : decode cX9_demand 7 = .ok (.invokestatic 93, 3) := by decide +kernel
theorem dX9_demand_10 : decode cX9_demand 10 = .ok (.aload_n 0, 1) := by decide +kernel
theorem dX9_demand_11 : decode cX9_demand 11 = .ok (.getfield 16, 3) := by decide +kernel
theorem dX9_demand_14 : decode cX9_demand 14 = .ok (.getfield 97, 3) := by decide +kernel
theorem dX9_demand_17 : decode cX9_demand 17 = .ok (.istore_n 2, 1) := by decide +kernel
theorem dX9_demand_18 : decode cX9_demand 18 = .ok (.aload_n 0, 1) := by decide +kernel
theorem dX9_demand_19 : decode cX9_demand 19 = .ok (.getfield 16, 3) := by decide +kernel
theorem dX9_demand_22 : decode cX9_demand 22 = .ok (.iload_n 1, 1) := by decide +kernel
theorem dX9_demand_23 : decode cX9_demand 23 = .ok (.putfield 97, 3) := by decide +kernel
theorem dX9_demand_26 : decode cX9_demand 26 = .ok (.iload_n 2, 1) := by decide +kernel
theorem dX9_demand_27 : decode cX9_demand 27 = .ok (.ireturn, 1) := by decide +kernel
theorem dX9_pass_0 : decode cX9_pass 0 = .ok (.iload_n 1, 1) := by decide +kernel
theorem dX9_pass_1 : decode cX9_pass 1 = .ok (.iconst 1, 1) := by decide +kernel
theorem dX9_pass_2 : decode cX9_pass 2 = .ok (.bipush 60, 2) := by decide +kernel
theorem dX9_pass_4 : decode cX9_pass 4 = .ok (.invokestatic 89, 3) := by decide +kernel
theorem dX9_pass_7 : decode cX9_pass 7 = .ok (.invokestatic 93, 3) := by decide +kernel
theorem dX9_pass_10 : decode cX9_pass 10 = .ok (.aload_n 0, 1) := by decide +kernel
theorem dX9_pass_11 : decode cX9_pass 11 = .ok (.getfield 7, 3) := by decide +kernel
theorem dX9_pass_14 : decode cX9_pass 14 = .ok (.iload_n 1, 1) := by decide +kernel
theorem dX9_pass_15 : decode cX9_pass 15 = .ok (.iadd, 1) := by decide +kernel
theorem dX9_pass_16 : decode cX9_pass 16 = .ok (.sipush 600, 3) := by decide +kernel
theorem dX9_pass_19 : decode cX9_pass 19 = .ok (.if_icmp .gt 7, 3) := by decide +kernel
theorem dX9_pass_22 : decode cX9_pass 22 = .ok (.iconst 1, 1) := by decide +kernel
theorem dX9_pass_23 : decode cX9_pass 23 = .ok (.goto 4, 3) := by decide +kernel
theorem dX9_pass_26 : decode cX9_pass 26 = .ok (.iconst 0, 1) := by decide +kernel
theorem dX9_pass_27 : decode cX9_pass 27 = .ok (.invokestatic 100, 3) := by decide +kernel
theorem dX9_pass_30 : decode cX9_pass 30 = .ok (.iconst 0, 1) := by decide +kernel
theorem dX9_pass_31 : decode cX9_pass 31 = .ok (.istore_n 2, 1) := by decide +kernel
theorem dX9_pass_32 : decode cX9_pass 32 = .ok (.iload_n 2, 1) := by decide +kernel
theorem dX9_pass_33 : decode cX9_pass 33 = .ok (.iload_n 1, 1) := by decide +kernel
theorem dX9_pass_34 : decode cX9_pass 34 = .ok (.if_icmp .ge 13, 3) := by decide +kernel
theorem dX9_pass_37 : decode cX9_pass 37 = .ok (.aload_n 0, 1) := by decide +kernel
theorem dX9_pass_38 : decode cX9_pass 38 = .ok (.invokevirtual 103, 3) := by decide +kernel
theorem dX9_pass_41 : decode cX9_pass 41 = .ok (.iinc 2 1, 3) := by decide +kernel
theorem dX9_pass_44 : decode cX9_pass 44 = .ok (.goto (-12), 3) := by decide +kernel
theorem dX9_pass_47 : decode cX9_pass 47 = .ok (.aload_n 0, 1) := by decide +kernel
theorem dX9_pass_48 : decode cX9_pass 48 = .ok (.getfield 7, 3) := by decide +kernel
theorem dX9_pass_51 : decode cX9_pass 51 = .ok (.ireturn, 1) := by decide +kernel
theorem dX9_holds_0 : decode cX9_holds 0 = .ok (.iload_n 1, 1) := by decide +kernel
theorem dX9_holds_1 : decode cX9_holds 1 = .ok (.iload_n 2, 1) := by decide +kernel
theorem dX9_holds_2 : decode cX9_holds 2 = .ok (.invokestatic 106, 3) := by decide +kernel
theorem dX9_holds_5 : decode cX9_holds 5 = .ok (.aload_n 0, 1) := by decide +kernel
theorem dX9_holds_6 : decode cX9_holds 6 = .ok (.getfield 16, 3) := by decide +kernel
theorem dX9_holds_9 : decode cX9_holds 9 = .ok (.getfield 110, 3) := by decide +kernel
theorem dX9_holds_12 : decode cX9_holds 12 = .ok (.iload_n 1, 1) := by decide +kernel
theorem dX9_holds_13 : decode cX9_holds 13 = .ok (.iload_n 2, 1) := by decide +kernel
theorem dX9_holds_14 : decode cX9_holds 14 = .ok (.invokestatic 113, 3) := by decide +kernel
theorem dX9_holds_17 : decode cX9_holds 17 = .ok (.iaload, 1) := by decide +kernel
theorem dX9_holds_18 : decode cX9_holds 18 = .ok (.ireturn, 1) := by decide +kernel
theorem dX9_vehicles_0 : decode cX9_vehicles 0 = .ok (.iload_n 1, 1) := by decide +kernel
theorem dX9_vehicles_1 : decode cX9_vehicles 1 = .ok (.iconst 0, 1) := by decide +kernel
theorem dX9_vehicles_2 : decode cX9_vehicles 2 = .ok (.iconst 3, 1) := by decide +kernel
theorem dX9_vehicles_3 : decode cX9_vehicles 3 = .ok (.invokestatic 89, 3) := by decide +kernel
theorem dX9_vehicles_6 : decode cX9_vehicles 6 = .ok (.invokestatic 93, 3) := by decide +kernel
theorem dX9_vehicles_9 : decode cX9_vehicles 9 = .ok (.iload_n 1, 1) := by decide +kernel
theorem dX9_vehicles_10 : decode cX9_vehicles 10 = .ok (.tableswitch 50 0 2 #[26, 34, 42], 26) := by decide +kernel
theorem dX9_vehicles_36 : decode cX9_vehicles 36 = .ok (.aload_n 0, 1) := by decide +kernel
theorem dX9_vehicles_37 : decode cX9_vehicles 37 = .ok (.getfield 16, 3) := by decide +kernel
theorem dX9_vehicles_40 : decode cX9_vehicles 40 = .ok (.getfield 117, 3) := by decide +kernel
theorem dX9_vehicles_43 : decode cX9_vehicles 43 = .ok (.ireturn, 1) := by decide +kernel
theorem dX9_vehicles_44 : decode cX9_vehicles 44 = .ok (.aload_n 0, 1) := by decide +kernel
theorem dX9_vehicles_45 : decode cX9_vehicles 45 = .ok (.getfield 16, 3) := by decide +kernel
theorem dX9_vehicles_48 : decode cX9_vehicles 48 = .ok (.invokevirtual 120, 3) := by decide +kernel
theorem dX9_vehicles_51 : decode cX9_vehicles 51 = .ok (.ireturn, 1) := by decide +kernel
theorem dX9_vehicles_52 : decode cX9_vehicles 52 = .ok (.aload_n 0, 1) := by decide +kernel
theorem dX9_vehicles_53 : decode cX9_vehicles 53 = .ok (.getfield 16, 3) := by decide +kernel
theorem dX9_vehicles_56 : decode cX9_vehicles 56 = .ok (.getfield 124, 3) := by decide +kernel
theorem dX9_vehicles_59 : decode cX9_vehicles 59 = .ok (.ireturn, 1) := by decide +kernel
theorem dX9_vehicles_60 : decode cX9_vehicles 60 = .ok (.aload_n 0, 1) := by decide +kernel
theorem dX9_vehicles_61 : decode cX9_vehicles 61 = .ok (.getfield 16, 3) := by decide +kernel
theorem dX9_vehicles_64 : decode cX9_vehicles 64 = .ok (.getfield 127, 3) := by decide +kernel
theorem dX9_vehicles_67 : decode cX9_vehicles 67 = .ok (.ireturn, 1) := by decide +kernel
theorem dX9_section_0 : decode cX9_section 0 = .ok (.iload_n 1, 1) := by decide +kernel
theorem dX9_section_1 : decode cX9_section 1 = .ok (.invokestatic 130, 3) := by decide +kernel
theorem dX9_section_4 : decode cX9_section 4 = .ok (.iload_n 2, 1) := by decide +kernel
theorem dX9_section_5 : decode cX9_section 5 = .ok (.iconst 0, 1) := by decide +kernel
theorem dX9_section_6 : decode cX9_section 6 = .ok (.iconst 5, 1) := by decide +kernel
theorem dX9_section_7 : decode cX9_section 7 = .ok (.invokestatic 89, 3) := by decide +kernel
theorem dX9_section_10 : decode cX9_section 10 = .ok (.invokestatic 93, 3) := by decide +kernel
theorem dX9_section_13 : decode cX9_section 13 = .ok (.iload_n 2, 1) := by decide +kernel
theorem dX9_section_14 : decode cX9_section 14 = .ok (.tableswitch 97 0 4 #[34, 43, 56, 69, 79], 34) := by decide +kernel
theorem dX9_section_48 : decode cX9_section 48 = .ok (.aload_n 0, 1) := by decide +kernel
theorem dX9_section_49 : decode cX9_section 49 = .ok (.getfield 16, 3) := by decide +kernel
theorem dX9_section_52 : decode cX9_section 52 = .ok (.iload_n 1, 1) := by decide +kernel
theorem dX9_section_53 : decode cX9_section 53 = .ok (.invokevirtual 134, 3) := by decide +kernel
theorem dX9_section_56 : decode cX9_section 56 = .ok (.ireturn, 1) := by decide +kernel
theorem dX9_section_57 : decode cX9_section 57 = .ok (.aload_n 0, 1) := by decide +kernel
theorem dX9_section_58 : decode cX9_section 58 = .ok (.getfield 23, 3) := by decide +kernel
theorem dX9_section_61 : decode cX9_section 61 = .ok (.iload_n 1, 1) := by decide +kernel
theorem dX9_section_62 : decode cX9_section 62 = .ok (.aload_n 0, 1) := by decide +kernel
theorem dX9_section_63 : decode cX9_section 63 = .ok (.getfield 16, 3) := by decide +kernel
theorem dX9_section_66 : decode cX9_section 66 = .ok (.invokevirtual 138, 3) := by decide +kernel
theorem dX9_section_69 : decode cX9_section 69 = .ok (.ireturn, 1) := by decide +kernel
theorem dX9_section_70 : decode cX9_section 70 = .ok (.aload_n 0, 1) := by decide +kernel
theorem dX9_section_71 : decode cX9_section 71 = .ok (.getfield 23, 3) := by decide +kernel
theorem dX9_section_74 : decode cX9_section 74 = .ok (.iload_n 1, 1) := by decide +kernel
theorem dX9_section_75 : decode cX9_section 75 = .ok (.aload_n 0, 1) := by decide +kernel
theorem dX9_section_76 : decode cX9_section 76 = .ok (.getfield 16, 3) := by decide +kernel
theorem dX9_section_79 : decode cX9_section 79 = .ok (.invokevirtual 142, 3) := by decide +kernel
theorem dX9_section_82 : decode cX9_section 82 = .ok (.ireturn, 1) := by decide +kernel
theorem dX9_section_83 : decode cX9_section 83 = .ok (.aload_n 0, 1) := by decide +kernel
theorem dX9_section_84 : decode cX9_section 84 = .ok (.getfield 30, 3) := by decide +kernel
theorem dX9_section_87 : decode cX9_section 87 = .ok (.getfield 80, 3) := by decide +kernel
theorem dX9_section_90 : decode cX9_section 90 = .ok (.iload_n 1, 1) := by decide +kernel
theorem dX9_section_91 : decode cX9_section 91 = .ok (.iaload, 1) := by decide +kernel
theorem dX9_section_92 : decode cX9_section 92 = .ok (.ireturn, 1) := by decide +kernel
theorem dX9_section_93 : decode cX9_section 93 = .ok (.aload_n 0, 1) := by decide +kernel
theorem dX9_section_94 : decode cX9_section 94 = .ok (.getfield 16, 3) := by decide +kernel
theorem dX9_section_97 : decode cX9_section 97 = .ok (.getfield 145, 3) := by decide +kernel
theorem dX9_section_100 : decode cX9_section 100 = .ok (.iload_n 1, 1) := by decide +kernel
theorem dX9_section_101 : decode cX9_section 101 = .ok (.baload, 1) := by decide +kernel
theorem dX9_section_102 : decode cX9_section 102 = .ok (.ifCond .eq 7, 3) := by decide +kernel
theorem dX9_section_105 : decode cX9_section 105 = .ok (.iconst 1, 1) := by decide +kernel
theorem dX9_section_106 : decode cX9_section 106 = .ok (.goto 4, 3) := by decide +kernel
theorem dX9_section_109 : decode cX9_section 109 = .ok (.iconst 0, 1) := by decide +kernel
theorem dX9_section_110 : decode cX9_section 110 = .ok (.ireturn, 1) := by decide +kernel
theorem dX9_section_111 : decode cX9_section 111 = .ok (.aload_n 0, 1) := by decide +kernel
theorem dX9_section_112 : decode cX9_section 112 = .ok (.getfield 23, 3) := by decide +kernel
theorem dX9_section_115 : decode cX9_section 115 = .ok (.getfield 149, 3) := by decide +kernel
theorem dX9_section_118 : decode cX9_section 118 = .ok (.iload_n 1, 1) := by decide +kernel
theorem dX9_section_119 : decode cX9_section 119 = .ok (.iaload, 1) := by decide +kernel
theorem dX9_section_120 : decode cX9_section 120 = .ok (.ireturn, 1) := by decide +kernel
theorem dX9_detector_0 : decode cX9_detector 0 = .ok (.iload_n 1, 1) := by decide +kernel
theorem dX9_detector_1 : decode cX9_detector 1 = .ok (.invokestatic 130, 3) := by decide +kernel
theorem dX9_detector_4 : decode cX9_detector 4 = .ok (.iload_n 2, 1) := by decide +kernel
theorem dX9_detector_5 : decode cX9_detector 5 = .ok (.iconst 0, 1) := by decide +kernel
theorem dX9_detector_6 : decode cX9_detector 6 = .ok (.iconst 2, 1) := by decide +kernel
theorem dX9_detector_7 : decode cX9_detector 7 = .ok (.invokestatic 89, 3) := by decide +kernel
theorem dX9_detector_10 : decode cX9_detector 10 = .ok (.invokestatic 93, 3) := by decide +kernel
theorem dX9_detector_13 : decode cX9_detector 13 = .ok (.iload_n 2, 1) := by decide +kernel
theorem dX9_detector_14 : decode cX9_detector 14 = .ok (.iconst 1, 1) := by decide +kernel
theorem dX9_detector_15 : decode cX9_detector 15 = .ok (.if_icmp .ne 13, 3) := by decide +kernel
theorem dX9_detector_18 : decode cX9_detector 18 = .ok (.iload_n 3, 1) := by decide +kernel
theorem dX9_detector_19 : decode cX9_detector 19 = .ok (.iconst 0, 1) := by decide +kernel
theorem dX9_detector_20 : decode cX9_detector 20 = .ok (.bipush 120, 2) := by decide +kernel
theorem dX9_detector_22 : decode cX9_detector 22 = .ok (.invokestatic 89, 3) := by decide +kernel
theorem dX9_detector_25 : decode cX9_detector 25 = .ok (.ifCond .eq 7, 3) := by decide +kernel
theorem dX9_detector_28 : decode cX9_detector 28 = .ok (.iconst 1, 1) := by decide +kernel
theorem dX9_detector_29 : decode cX9_detector 29 = .ok (.goto 4, 3) := by decide +kernel
theorem dX9_detector_32 : decode cX9_detector 32 = .ok (.iconst 0, 1) := by decide +kernel
theorem dX9_detector_33 : decode cX9_detector 33 = .ok (.invokestatic 93, 3) := by decide +kernel
theorem dX9_detector_36 : decode cX9_detector 36 = .ok (.aload_n 0, 1) := by decide +kernel
theorem dX9_detector_37 : decode cX9_detector 37 = .ok (.getfield 23, 3) := by decide +kernel
theorem dX9_detector_40 : decode cX9_detector 40 = .ok (.getfield 149, 3) := by decide +kernel
theorem dX9_detector_43 : decode cX9_detector 43 = .ok (.iload_n 1, 1) := by decide +kernel
theorem dX9_detector_44 : decode cX9_detector 44 = .ok (.iaload, 1) := by decide +kernel
theorem dX9_detector_45 : decode cX9_detector 45 = .ok (.istore 4, 2) := by decide +kernel
theorem dX9_detector_47 : decode cX9_detector 47 = .ok (.aload_n 0, 1) := by decide +kernel
theorem dX9_detector_48 : decode cX9_detector 48 = .ok (.getfield 23, 3) := by decide +kernel
theorem dX9_detector_51 : decode cX9_detector 51 = .ok (.getfield 149, 3) := by decide +kernel
theorem dX9_detector_54 : decode cX9_detector 54 = .ok (.iload_n 1, 1) := by decide +kernel
theorem dX9_detector_55 : decode cX9_detector 55 = .ok (.iload_n 2, 1) := by decide +kernel
theorem dX9_detector_56 : decode cX9_detector 56 = .ok (.iastore, 1) := by decide +kernel
theorem dX9_detector_57 : decode cX9_detector 57 = .ok (.aload_n 0, 1) := by decide +kernel
theorem dX9_detector_58 : decode cX9_detector 58 = .ok (.getfield 23, 3) := by decide +kernel
theorem dX9_detector_61 : decode cX9_detector 61 = .ok (.getfield 152, 3) := by decide +kernel
theorem dX9_detector_64 : decode cX9_detector 64 = .ok (.iload_n 1, 1) := by decide +kernel
theorem dX9_detector_65 : decode cX9_detector 65 = .ok (.iload_n 3, 1) := by decide +kernel
theorem dX9_detector_66 : decode cX9_detector 66 = .ok (.iastore, 1) := by decide +kernel
theorem dX9_detector_67 : decode cX9_detector 67 = .ok (.iload 4, 2) := by decide +kernel
theorem dX9_detector_69 : decode cX9_detector 69 = .ok (.ireturn, 1) := by decide +kernel
theorem dX9_weather_0 : decode cX9_weather 0 = .ok (.iload_n 1, 1) := by decide +kernel
theorem dX9_weather_1 : decode cX9_weather 1 = .ok (.iconst 0, 1) := by decide +kernel
theorem dX9_weather_2 : decode cX9_weather 2 = .ok (.iconst 3, 1) := by decide +kernel
theorem dX9_weather_3 : decode cX9_weather 3 = .ok (.invokestatic 89, 3) := by decide +kernel
theorem dX9_weather_6 : decode cX9_weather 6 = .ok (.invokestatic 93, 3) := by decide +kernel
theorem dX9_weather_9 : decode cX9_weather 9 = .ok (.aload_n 0, 1) := by decide +kernel
theorem dX9_weather_10 : decode cX9_weather 10 = .ok (.getfield 30, 3) := by decide +kernel
theorem dX9_weather_13 : decode cX9_weather 13 = .ok (.getfield 155, 3) := by decide +kernel
theorem dX9_weather_16 : decode cX9_weather 16 = .ok (.istore_n 2, 1) := by decide +kernel
theorem dX9_weather_17 : decode cX9_weather 17 = .ok (.aload_n 0, 1) := by decide +kernel
theorem dX9_weather_18 : decode cX9_weather 18 = .ok (.getfield 30, 3) := by decide +kernel
theorem dX9_weather_21 : decode cX9_weather 21 = .ok (.iload_n 1, 1) := by decide +kernel
theorem dX9_weather_22 : decode cX9_weather 22 = .ok (.putfield 155, 3) := by decide +kernel
theorem dX9_weather_25 : decode cX9_weather 25 = .ok (.iload_n 2, 1) := by decide +kernel
theorem dX9_weather_26 : decode cX9_weather 26 = .ok (.ireturn, 1) := by decide +kernel
theorem dX9_limit_0 : decode cX9_limit 0 = .ok (.iload_n 1, 1) := by decide +kernel
theorem dX9_limit_1 : decode cX9_limit 1 = .ok (.invokestatic 130, 3) := by decide +kernel
theorem dX9_limit_4 : decode cX9_limit 4 = .ok (.iload_n 2, 1) := by decide +kernel
theorem dX9_limit_5 : decode cX9_limit 5 = .ok (.iconst (-1), 1) := by decide +kernel
theorem dX9_limit_6 : decode cX9_limit 6 = .ok (.if_icmp .eq 10, 3) := by decide +kernel
theorem dX9_limit_9 : decode cX9_limit 9 = .ok (.iload_n 2, 1) := by decide +kernel
theorem dX9_limit_10 : decode cX9_limit 10 = .ok (.invokestatic 158, 3) := by decide +kernel
theorem dX9_limit_13 : decode cX9_limit 13 = .ok (.ifCond .eq 7, 3) := by decide +kernel
theorem dX9_limit_16 : decode cX9_limit 16 = .ok (.iconst 1, 1) := by decide +kernel
theorem dX9_limit_17 : decode cX9_limit 17 = .ok (.goto 4, 3) := by decide +kernel
theorem dX9_limit_20 : decode cX9_limit 20 = .ok (.iconst 0, 1) := by decide +kernel
theorem dX9_limit_21 : decode cX9_limit 21 = .ok (.invokestatic 93, 3) := by decide +kernel
theorem dX9_limit_24 : decode cX9_limit 24 = .ok (.aload_n 0, 1) := by decide +kernel
theorem dX9_limit_25 : decode cX9_limit 25 = .ok (.getfield 30, 3) := by decide +kernel
theorem dX9_limit_28 : decode cX9_limit 28 = .ok (.getfield 162, 3) := by decide +kernel
theorem dX9_limit_31 : decode cX9_limit 31 = .ok (.iload_n 1, 1) := by decide +kernel
theorem dX9_limit_32 : decode cX9_limit 32 = .ok (.iaload, 1) := by decide +kernel
theorem dX9_limit_33 : decode cX9_limit 33 = .ok (.istore_n 3, 1) := by decide +kernel
theorem dX9_limit_34 : decode cX9_limit 34 = .ok (.aload_n 0, 1) := by decide +kernel
theorem dX9_limit_35 : decode cX9_limit 35 = .ok (.getfield 30, 3) := by decide +kernel
theorem dX9_limit_38 : decode cX9_limit 38 = .ok (.getfield 162, 3) := by decide +kernel
theorem dX9_limit_41 : decode cX9_limit 41 = .ok (.iload_n 1, 1) := by decide +kernel
theorem dX9_limit_42 : decode cX9_limit 42 = .ok (.iload_n 2, 1) := by decide +kernel
theorem dX9_limit_43 : decode cX9_limit 43 = .ok (.iastore, 1) := by decide +kernel
theorem dX9_limit_44 : decode cX9_limit 44 = .ok (.iload_n 3, 1) := by decide +kernel
theorem dX9_limit_45 : decode cX9_limit 45 = .ok (.ireturn, 1) := by decide +kernel
theorem dX9_order_0 : decode cX9_order 0 = .ok (.iload_n 1, 1) := by decide +kernel
theorem dX9_order_1 : decode cX9_order 1 = .ok (.iload_n 2, 1) := by decide +kernel
theorem dX9_order_2 : decode cX9_order 2 = .ok (.invokestatic 106, 3) := by decide +kernel
theorem dX9_order_5 : decode cX9_order 5 = .ok (.iload_n 3, 1) := by decide +kernel
theorem dX9_order_6 : decode cX9_order 6 = .ok (.iconst (-1), 1) := by decide +kernel
theorem dX9_order_7 : decode cX9_order 7 = .ok (.if_icmp .eq 12, 3) := by decide +kernel
theorem dX9_order_10 : decode cX9_order 10 = .ok (.iload_n 3, 1) := by decide +kernel
theorem dX9_order_11 : decode cX9_order 11 = .ok (.iconst 0, 1) := by decide +kernel
theorem dX9_order_12 : decode cX9_order 12 = .ok (.iconst 2, 1) := by decide +kernel
theorem dX9_order_13 : decode cX9_order 13 = .ok (.invokestatic 89, 3) := by decide +kernel
theorem dX9_order_16 : decode cX9_order 16 = .ok (.ifCond .eq 7, 3) := by decide +kernel
theorem dX9_order_19 : decode cX9_order 19 = .ok (.iconst 1, 1) := by decide +kernel
theorem dX9_order_20 : decode cX9_order 20 = .ok (.goto 4, 3) := by decide +kernel
theorem dX9_order_23 : decode cX9_order 23 = .ok (.iconst 0, 1) := by decide +kernel
theorem dX9_order_24 : decode cX9_order 24 = .ok (.invokestatic 93, 3) := by decide +kernel
theorem dX9_order_27 : decode cX9_order 27 = .ok (.iload_n 3, 1) := by decide +kernel
theorem dX9_order_28 : decode cX9_order 28 = .ok (.iconst 2, 1) := by decide +kernel
theorem dX9_order_29 : decode cX9_order 29 = .ok (.if_icmp .ne 7, 3) := by decide +kernel
theorem dX9_order_32 : decode cX9_order 32 = .ok (.iload_n 1, 1) := by decide +kernel
theorem dX9_order_33 : decode cX9_order 33 = .ok (.ifCond .eq 7, 3) := by decide +kernel
theorem dX9_order_36 : decode cX9_order 36 = .ok (.iconst 1, 1) := by decide +kernel
theorem dX9_order_37 : decode cX9_order 37 = .ok (.goto 4, 3) := by decide +kernel
theorem dX9_order_40 : decode cX9_order 40 = .ok (.iconst 0, 1) := by decide +kernel
theorem dX9_order_41 : decode cX9_order 41 = .ok (.invokestatic 100, 3) := by decide +kernel
theorem dX9_order_44 : decode cX9_order 44 = .ok (.iload_n 1, 1) := by decide +kernel
theorem dX9_order_45 : decode cX9_order 45 = .ok (.iload_n 2, 1) := by decide +kernel
theorem dX9_order_46 : decode cX9_order 46 = .ok (.invokestatic 113, 3) := by decide +kernel
theorem dX9_order_49 : decode cX9_order 49 = .ok (.istore 4, 2) := by decide +kernel
theorem dX9_order_51 : decode cX9_order 51 = .ok (.aload_n 0, 1) := by decide +kernel
theorem dX9_order_52 : decode cX9_order 52 = .ok (.getfield 37, 3) := by decide +kernel
theorem dX9_order_55 : decode cX9_order 55 = .ok (.getfield 165, 3) := by decide +kernel
theorem dX9_order_58 : decode cX9_order 58 = .ok (.iload 4, 2) := by decide +kernel
theorem dX9_order_60 : decode cX9_order 60 = .ok (.iaload, 1) := by decide +kernel
theorem dX9_order_61 : decode cX9_order 61 = .ok (.istore 5, 2) := by decide +kernel
theorem dX9_order_63 : decode cX9_order 63 = .ok (.aload_n 0, 1) := by decide +kernel
theorem dX9_order_64 : decode cX9_order 64 = .ok (.getfield 37, 3) := by decide +kernel
theorem dX9_order_67 : decode cX9_order 67 = .ok (.getfield 165, 3) := by decide +kernel
theorem dX9_order_70 : decode cX9_order 70 = .ok (.iload 4, 2) := by decide +kernel
theorem dX9_order_72 : decode cX9_order 72 = .ok (.iload_n 3, 1) := by decide +kernel
theorem dX9_order_73 : decode cX9_order 73 = .ok (.iastore, 1) := by decide +kernel
theorem dX9_order_74 : decode cX9_order 74 = .ok (.iload 5, 2) := by decide +kernel
theorem dX9_order_76 : decode cX9_order 76 = .ok (.ireturn, 1) := by decide +kernel
theorem dX9_sign_0 : decode cX9_sign 0 = .ok (.iload_n 1, 1) := by decide +kernel
theorem dX9_sign_1 : decode cX9_sign 1 = .ok (.iload_n 2, 1) := by decide +kernel
theorem dX9_sign_2 : decode cX9_sign 2 = .ok (.invokestatic 106, 3) := by decide +kernel
theorem dX9_sign_5 : decode cX9_sign 5 = .ok (.aload_n 0, 1) := by decide +kernel
theorem dX9_sign_6 : decode cX9_sign 6 = .ok (.invokevirtual 168, 3) := by decide +kernel
theorem dX9_sign_9 : decode cX9_sign 9 = .ok (.aload_n 0, 1) := by decide +kernel
theorem dX9_sign_10 : decode cX9_sign 10 = .ok (.getfield 37, 3) := by decide +kernel
theorem dX9_sign_13 : decode cX9_sign 13 = .ok (.getfield 84, 3) := by decide +kernel
theorem dX9_sign_16 : decode cX9_sign 16 = .ok (.iload_n 1, 1) := by decide +kernel
theorem dX9_sign_17 : decode cX9_sign 17 = .ok (.iload_n 2, 1) := by decide +kernel
theorem dX9_sign_18 : decode cX9_sign 18 = .ok (.invokestatic 113, 3) := by decide +kernel
theorem dX9_sign_21 : decode cX9_sign 21 = .ok (.iaload, 1) := by decide +kernel
theorem dX9_sign_22 : decode cX9_sign 22 = .ok (.ireturn, 1) := by decide +kernel
theorem dX9_isLawful_0 : decode cX9_isLawful 0 = .ok (.aload_n 0, 1) := by decide +kernel
theorem dX9_isLawful_1 : decode cX9_isLawful 1 = .ok (.invokevirtual 168, 3) := by decide +kernel
theorem dX9_isLawful_4 : decode cX9_isLawful 4 = .ok (.aload_n 0, 1) := by decide +kernel
theorem dX9_isLawful_5 : decode cX9_isLawful 5 = .ok (.getfield 30, 3) := by decide +kernel
theorem dX9_isLawful_8 : decode cX9_isLawful 8 = .ok (.invokevirtual 171, 3) := by decide +kernel
theorem dX9_isLawful_11 : decode cX9_isLawful 11 = .ok (.ifCond .eq 17, 3) := by decide +kernel
theorem dX9_isLawful_14 : decode cX9_isLawful 14 = .ok (.aload_n 0, 1) := by decide +kernel
theorem dX9_isLawful_15 : decode cX9_isLawful 15 = .ok (.getfield 37, 3) := by decide +kernel
theorem dX9_isLawful_18 : decode cX9_isLawful 18 = .ok (.invokevirtual 175, 3) := by decide +kernel
theorem dX9_isLawful_21 : decode cX9_isLawful 21 = .ok (.ifCond .eq 7, 3) := by decide +kernel
theorem dX9_isLawful_24 : decode cX9_isLawful 24 = .ok (.iconst 1, 1) := by decide +kernel
theorem dX9_isLawful_25 : decode cX9_isLawful 25 = .ok (.goto 4, 3) := by decide +kernel
theorem dX9_isLawful_28 : decode cX9_isLawful 28 = .ok (.iconst 0, 1) := by decide +kernel
theorem dX9_isLawful_29 : decode cX9_isLawful 29 = .ok (.ireturn, 1) := by decide +kernel
theorem dX9_look_0 : decode cX9_look 0 = .ok (.iload_n 1, 1) := by decide +kernel
theorem dX9_look_1 : decode cX9_look 1 = .ok (.invokestatic 130, 3) := by decide +kernel
theorem dX9_look_4 : decode cX9_look 4 = .ok (.aload_n 0, 1) := by decide +kernel
theorem dX9_look_5 : decode cX9_look 5 = .ok (.getfield 16, 3) := by decide +kernel
theorem dX9_look_8 : decode cX9_look 8 = .ok (.iload_n 1, 1) := by decide +kernel
theorem dX9_look_9 : decode cX9_look 9 = .ok (.iconst 0, 1) := by decide +kernel
theorem dX9_look_10 : decode cX9_look 10 = .ok (.invokestatic 113, 3) := by decide +kernel
theorem dX9_look_13 : decode cX9_look 13 = .ok (.invokevirtual 176, 3) := by decide +kernel
theorem dX9_look_16 : decode cX9_look 16 = .ok (.istore_n 2, 1) := by decide +kernel
theorem dX9_look_17 : decode cX9_look 17 = .ok (.aload_n 0, 1) := by decide +kernel
theorem dX9_look_18 : decode cX9_look 18 = .ok (.getfield 44, 3) := by decide +kernel
theorem dX9_look_21 : decode cX9_look 21 = .ok (.getfield 179, 3) := by decide +kernel
theorem dX9_look_24 : decode cX9_look 24 = .ok (.iload_n 1, 1) := by decide +kernel
theorem dX9_look_25 : decode cX9_look 25 = .ok (.iload_n 2, 1) := by decide +kernel
theorem dX9_look_26 : decode cX9_look 26 = .ok (.ifCond .eq 10, 3) := by decide +kernel
theorem dX9_look_29 : decode cX9_look 29 = .ok (.aload_n 0, 1) := by decide +kernel
theorem dX9_look_30 : decode cX9_look 30 = .ok (.getfield 7, 3) := by decide +kernel
theorem dX9_look_33 : decode cX9_look 33 = .ok (.goto 6, 3) := by decide +kernel
theorem dX9_look_36 : decode cX9_look 36 = .ok (.sipush (-1000), 3) := by decide +kernel
theorem dX9_look_39 : decode cX9_look 39 = .ok (.iastore, 1) := by decide +kernel
theorem dX9_look_40 : decode cX9_look 40 = .ok (.iload_n 2, 1) := by decide +kernel
theorem dX9_look_41 : decode cX9_look 41 = .ok (.ireturn, 1) := by decide +kernel
theorem dX9_openShoulder_0 : decode cX9_openShoulder 0 = .ok (.iload_n 1, 1) := by decide +kernel
theorem dX9_openShoulder_1 : decode cX9_openShoulder 1 = .ok (.invokestatic 130, 3) := by decide +kernel
theorem dX9_openShoulder_4 : decode cX9_openShoulder 4 = .ok (.iload_n 2, 1) := by decide +kernel
theorem dX9_openShoulder_5 : decode cX9_openShoulder 5 = .ok (.invokestatic 130, 3) := by decide +kernel
theorem dX9_openShoulder_8 : decode cX9_openShoulder 8 = .ok (.iload_n 1, 1) := by decide +kernel
theorem dX9_openShoulder_9 : decode cX9_openShoulder 9 = .ok (.iload_n 2, 1) := by decide +kernel
theorem dX9_openShoulder_10 : decode cX9_openShoulder 10 = .ok (.if_icmp .gt 7, 3) := by decide +kernel
theorem dX9_openShoulder_13 : decode cX9_openShoulder 13 = .ok (.iconst 1, 1) := by decide +kernel
theorem dX9_openShoulder_14 : decode cX9_openShoulder 14 = .ok (.goto 4, 3) := by decide +kernel
theorem dX9_openShoulder_17 : decode cX9_openShoulder 17 = .ok (.iconst 0, 1) := by decide +kernel
theorem dX9_openShoulder_18 : decode cX9_openShoulder 18 = .ok (.invokestatic 93, 3) := by decide +kernel
theorem dX9_openShoulder_21 : decode cX9_openShoulder 21 = .ok (.aload_n 0, 1) := by decide +kernel
theorem dX9_openShoulder_22 : decode cX9_openShoulder 22 = .ok (.getfield 44, 3) := by decide +kernel
theorem dX9_openShoulder_25 : decode cX9_openShoulder 25 = .ok (.iload_n 1, 1) := by decide +kernel
theorem dX9_openShoulder_26 : decode cX9_openShoulder 26 = .ok (.iload_n 2, 1) := by decide +kernel
theorem dX9_openShoulder_27 : decode cX9_openShoulder 27 = .ok (.aload_n 0, 1) := by decide +kernel
theorem dX9_openShoulder_28 : decode cX9_openShoulder 28 = .ok (.getfield 7, 3) := by decide +kernel
theorem dX9_openShoulder_31 : decode cX9_openShoulder 31 = .ok (.invokevirtual 182, 3) := by decide +kernel
theorem dX9_openShoulder_34 : decode cX9_openShoulder 34 = .ok (.invokestatic 100, 3) := by decide +kernel
theorem dX9_openShoulder_37 : decode cX9_openShoulder 37 = .ok (.aload_n 0, 1) := by decide +kernel
theorem dX9_openShoulder_38 : decode cX9_openShoulder 38 = .ok (.getfield 44, 3) := by decide +kernel
theorem dX9_openShoulder_41 : decode cX9_openShoulder 41 = .ok (.iload_n 1, 1) := by decide +kernel
theorem dX9_openShoulder_42 : decode cX9_openShoulder 42 = .ok (.iload_n 2, 1) := by decide +kernel
theorem dX9_openShoulder_43 : decode cX9_openShoulder 43 = .ok (.invokevirtual 185, 3) := by decide +kernel
theorem dX9_openShoulder_46 : decode cX9_openShoulder 46 = .ok (.ireturn, 1) := by decide +kernel
theorem dX9_shutShoulder_0 : decode cX9_shutShoulder 0 = .ok (.aload_n 0, 1) := by decide +kernel
theorem dX9_shutShoulder_1 : decode cX9_shutShoulder 1 = .ok (.getfield 44, 3) := by decide +kernel
theorem dX9_shutShoulder_4 : decode cX9_shutShoulder 4 = .ok (.invokevirtual 188, 3) := by decide +kernel
theorem dX9_shutShoulder_7 : decode cX9_shutShoulder 7 = .ok (.ireturn, 1) := by decide +kernel
theorem dX9_stop_0 : decode cX9_stop 0 = .ok (.iload_n 1, 1) := by decide +kernel
theorem dX9_stop_1 : decode cX9_stop 1 = .ok (.iload_n 2, 1) := by decide +kernel
theorem dX9_stop_2 : decode cX9_stop 2 = .ok (.invokestatic 106, 3) := by decide +kernel
theorem dX9_stop_5 : decode cX9_stop 5 = .ok (.iload_n 1, 1) := by decide +kernel
theorem dX9_stop_6 : decode cX9_stop 6 = .ok (.iload_n 2, 1) := by decide +kernel
theorem dX9_stop_7 : decode cX9_stop 7 = .ok (.invokestatic 113, 3) := by decide +kernel
theorem dX9_stop_10 : decode cX9_stop 10 = .ok (.istore_n 3, 1) := by decide +kernel
theorem dX9_stop_11 : decode cX9_stop 11 = .ok (.aload_n 0, 1) := by decide +kernel
theorem dX9_stop_12 : decode cX9_stop 12 = .ok (.getfield 16, 3) := by decide +kernel
theorem dX9_stop_15 : decode cX9_stop 15 = .ok (.getfield 191, 3) := by decide +kernel
theorem dX9_stop_18 : decode cX9_stop 18 = .ok (.iload_n 3, 1) := by decide +kernel
theorem dX9_stop_19 : decode cX9_stop 19 = .ok (.baload, 1) := by decide +kernel
theorem dX9_stop_20 : decode cX9_stop 20 = .ok (.ifCond .ne 7, 3) := by decide +kernel
theorem dX9_stop_23 : decode cX9_stop 23 = .ok (.iconst 1, 1) := by decide +kernel
theorem dX9_stop_24 : decode cX9_stop 24 = .ok (.goto 4, 3) := by decide +kernel
theorem dX9_stop_27 : decode cX9_stop 27 = .ok (.iconst 0, 1) := by decide +kernel
theorem dX9_stop_28 : decode cX9_stop 28 = .ok (.invokestatic 100, 3) := by decide +kernel
theorem dX9_stop_31 : decode cX9_stop 31 = .ok (.aload_n 0, 1) := by decide +kernel
theorem dX9_stop_32 : decode cX9_stop 32 = .ok (.getfield 16, 3) := by decide +kernel
theorem dX9_stop_35 : decode cX9_stop 35 = .ok (.getfield 191, 3) := by decide +kernel
theorem dX9_stop_38 : decode cX9_stop 38 = .ok (.iload_n 3, 1) := by decide +kernel
theorem dX9_stop_39 : decode cX9_stop 39 = .ok (.iconst 1, 1) := by decide +kernel
theorem dX9_stop_40 : decode cX9_stop 40 = .ok (.bastore, 1) := by decide +kernel
theorem dX9_stop_41 : decode cX9_stop 41 = .ok (.iload_n 2, 1) := by decide +kernel
theorem dX9_stop_42 : decode cX9_stop 42 = .ok (.ifCond .ne 23, 3) := by decide +kernel
theorem dX9_stop_45 : decode cX9_stop 45 = .ok (.aload_n 0, 1) := by decide +kernel
theorem dX9_stop_46 : decode cX9_stop 46 = .ok (.getfield 44, 3) := by decide +kernel
theorem dX9_stop_49 : decode cX9_stop 49 = .ok (.getfield 179, 3) := by decide +kernel
theorem dX9_stop_52 : decode cX9_stop 52 = .ok (.iload_n 1, 1) := by decide +kernel
theorem dX9_stop_53 : decode cX9_stop 53 = .ok (.sipush (-1000), 3) := by decide +kernel
theorem dX9_stop_56 : decode cX9_stop 56 = .ok (.iastore, 1) := by decide +kernel
theorem dX9_stop_57 : decode cX9_stop 57 = .ok (.aload_n 0, 1) := by decide +kernel
theorem dX9_stop_58 : decode cX9_stop 58 = .ok (.getfield 44, 3) := by decide +kernel
theorem dX9_stop_61 : decode cX9_stop 61 = .ok (.invokevirtual 188, 3) := by decide +kernel
theorem dX9_stop_64 : decode cX9_stop 64 = .ok (.pop, 1) := by decide +kernel
theorem dX9_stop_65 : decode cX9_stop 65 = .ok (.return_, 1) := by decide +kernel
theorem dX9_report_0 : decode cX9_report 0 = .ok (.iload_n 1, 1) := by decide +kernel
theorem dX9_report_1 : decode cX9_report 1 = .ok (.iload_n 2, 1) := by decide +kernel
theorem dX9_report_2 : decode cX9_report 2 = .ok (.invokestatic 106, 3) := by decide +kernel
theorem dX9_report_5 : decode cX9_report 5 = .ok (.iload_n 1, 1) := by decide +kernel
theorem dX9_report_6 : decode cX9_report 6 = .ok (.iload_n 2, 1) := by decide +kernel
theorem dX9_report_7 : decode cX9_report 7 = .ok (.invokestatic 113, 3) := by decide +kernel
theorem dX9_report_10 : decode cX9_report 10 = .ok (.istore_n 3, 1) := by decide +kernel
theorem dX9_report_11 : decode cX9_report 11 = .ok (.iload_n 1, 1) := by decide +kernel
theorem dX9_report_12 : decode cX9_report 12 = .ok (.ifCond .ne 7, 3) := by decide +kernel
theorem dX9_report_15 : decode cX9_report 15 = .ok (.iload_n 2, 1) := by decide +kernel
theorem dX9_report_16 : decode cX9_report 16 = .ok (.ifCond .ne 7, 3) := by decide +kernel
theorem dX9_report_19 : decode cX9_report 19 = .ok (.iconst 1, 1) := by decide +kernel
theorem dX9_report_20 : decode cX9_report 20 = .ok (.goto 4, 3) := by decide +kernel
theorem dX9_report_23 : decode cX9_report 23 = .ok (.iconst 0, 1) := by decide +kernel
theorem dX9_report_24 : decode cX9_report 24 = .ok (.invokestatic 100, 3) := by decide +kernel
theorem dX9_report_27 : decode cX9_report 27 = .ok (.aload_n 0, 1) := by decide +kernel
theorem dX9_report_28 : decode cX9_report 28 = .ok (.getfield 51, 3) := by decide +kernel
theorem dX9_report_31 : decode cX9_report 31 = .ok (.iload_n 3, 1) := by decide +kernel
theorem dX9_report_32 : decode cX9_report 32 = .ok (.invokevirtual 194, 3) := by decide +kernel
theorem dX9_report_35 : decode cX9_report 35 = .ok (.invokestatic 100, 3) := by decide +kernel
theorem dX9_report_38 : decode cX9_report 38 = .ok (.aload_n 0, 1) := by decide +kernel
theorem dX9_report_39 : decode cX9_report 39 = .ok (.getfield 51, 3) := by decide +kernel
theorem dX9_report_42 : decode cX9_report 42 = .ok (.iload_n 3, 1) := by decide +kernel
theorem dX9_report_43 : decode cX9_report 43 = .ok (.invokevirtual 197, 3) := by decide +kernel
theorem dX9_report_46 : decode cX9_report 46 = .ok (.ireturn, 1) := by decide +kernel
theorem dX9_confirm_0 : decode cX9_confirm 0 = .ok (.aload_n 0, 1) := by decide +kernel
theorem dX9_confirm_1 : decode cX9_confirm 1 = .ok (.getfield 51, 3) := by decide +kernel
theorem dX9_confirm_4 : decode cX9_confirm 4 = .ok (.iload_n 1, 1) := by decide +kernel
theorem dX9_confirm_5 : decode cX9_confirm 5 = .ok (.invokevirtual 200, 3) := by decide +kernel
theorem dX9_confirm_8 : decode cX9_confirm 8 = .ok (.invokestatic 203, 3) := by decide +kernel
theorem dX9_confirm_11 : decode cX9_confirm 11 = .ok (.aload_n 0, 1) := by decide +kernel
theorem dX9_confirm_12 : decode cX9_confirm 12 = .ok (.getfield 51, 3) := by decide +kernel
theorem dX9_confirm_15 : decode cX9_confirm 15 = .ok (.getfield 206, 3) := by decide +kernel
theorem dX9_confirm_18 : decode cX9_confirm 18 = .ok (.iload_n 1, 1) := by decide +kernel
theorem dX9_confirm_19 : decode cX9_confirm 19 = .ok (.iaload, 1) := by decide +kernel
theorem dX9_confirm_20 : decode cX9_confirm 20 = .ok (.ifCond .ne 7, 3) := by decide +kernel
theorem dX9_confirm_23 : decode cX9_confirm 23 = .ok (.iconst 1, 1) := by decide +kernel
theorem dX9_confirm_24 : decode cX9_confirm 24 = .ok (.goto 4, 3) := by decide +kernel
theorem dX9_confirm_27 : decode cX9_confirm 27 = .ok (.iconst 0, 1) := by decide +kernel
theorem dX9_confirm_28 : decode cX9_confirm 28 = .ok (.invokestatic 100, 3) := by decide +kernel
theorem dX9_confirm_31 : decode cX9_confirm 31 = .ok (.aload_n 0, 1) := by decide +kernel
theorem dX9_confirm_32 : decode cX9_confirm 32 = .ok (.getfield 16, 3) := by decide +kernel
theorem dX9_confirm_35 : decode cX9_confirm 35 = .ok (.aload_n 0, 1) := by decide +kernel
theorem dX9_confirm_36 : decode cX9_confirm 36 = .ok (.getfield 51, 3) := by decide +kernel
theorem dX9_confirm_39 : decode cX9_confirm 39 = .ok (.getfield 209, 3) := by decide +kernel
theorem dX9_confirm_42 : decode cX9_confirm 42 = .ok (.iload_n 1, 1) := by decide +kernel
theorem dX9_confirm_43 : decode cX9_confirm 43 = .ok (.iaload, 1) := by decide +kernel
theorem dX9_confirm_44 : decode cX9_confirm 44 = .ok (.invokevirtual 212, 3) := by decide +kernel
theorem dX9_confirm_47 : decode cX9_confirm 47 = .ok (.istore_n 2, 1) := by decide +kernel
theorem dX9_confirm_48 : decode cX9_confirm 48 = .ok (.aload_n 0, 1) := by decide +kernel
theorem dX9_confirm_49 : decode cX9_confirm 49 = .ok (.getfield 51, 3) := by decide +kernel
theorem dX9_confirm_52 : decode cX9_confirm 52 = .ok (.getfield 206, 3) := by decide +kernel
theorem dX9_confirm_55 : decode cX9_confirm 55 = .ok (.iload_n 1, 1) := by decide +kernel
theorem dX9_confirm_56 : decode cX9_confirm 56 = .ok (.iload_n 2, 1) := by decide +kernel
theorem dX9_confirm_57 : decode cX9_confirm 57 = .ok (.ifCond .eq 7, 3) := by decide +kernel
theorem dX9_confirm_60 : decode cX9_confirm 60 = .ok (.iconst 1, 1) := by decide +kernel
theorem dX9_confirm_61 : decode cX9_confirm 61 = .ok (.goto 4, 3) := by decide +kernel
theorem dX9_confirm_64 : decode cX9_confirm 64 = .ok (.iconst 2, 1) := by decide +kernel
theorem dX9_confirm_65 : decode cX9_confirm 65 = .ok (.iastore, 1) := by decide +kernel
theorem dX9_confirm_66 : decode cX9_confirm 66 = .ok (.aload_n 0, 1) := by decide +kernel
theorem dX9_confirm_67 : decode cX9_confirm 67 = .ok (.getfield 51, 3) := by decide +kernel
theorem dX9_confirm_70 : decode cX9_confirm 70 = .ok (.getfield 206, 3) := by decide +kernel
theorem dX9_confirm_73 : decode cX9_confirm 73 = .ok (.iload_n 1, 1) := by decide +kernel
theorem dX9_confirm_74 : decode cX9_confirm 74 = .ok (.iaload, 1) := by decide +kernel
theorem dX9_confirm_75 : decode cX9_confirm 75 = .ok (.ireturn, 1) := by decide +kernel
theorem dX9_incident_0 : decode cX9_incident 0 = .ok (.aload_n 0, 1) := by decide +kernel
theorem dX9_incident_1 : decode cX9_incident 1 = .ok (.getfield 51, 3) := by decide +kernel
theorem dX9_incident_4 : decode cX9_incident 4 = .ok (.iload_n 1, 1) := by decide +kernel
theorem dX9_incident_5 : decode cX9_incident 5 = .ok (.invokevirtual 200, 3) := by decide +kernel
theorem dX9_incident_8 : decode cX9_incident 8 = .ok (.invokestatic 203, 3) := by decide +kernel
theorem dX9_incident_11 : decode cX9_incident 11 = .ok (.iload_n 2, 1) := by decide +kernel
theorem dX9_incident_12 : decode cX9_incident 12 = .ok (.iconst 0, 1) := by decide +kernel
theorem dX9_incident_13 : decode cX9_incident 13 = .ok (.iconst 3, 1) := by decide +kernel
theorem dX9_incident_14 : decode cX9_incident 14 = .ok (.invokestatic 89, 3) := by decide +kernel
theorem dX9_incident_17 : decode cX9_incident 17 = .ok (.invokestatic 93, 3) := by decide +kernel
theorem dX9_incident_20 : decode cX9_incident 20 = .ok (.iload_n 2, 1) := by decide +kernel
theorem dX9_incident_21 : decode cX9_incident 21 = .ok (.tableswitch 58 0 2 #[27, 36, 48], 27) := by decide +kernel
theorem dX9_incident_48 : decode cX9_incident 48 = .ok (.aload_n 0, 1) := by decide +kernel
theorem dX9_incident_49 : decode cX9_incident 49 = .ok (.getfield 51, 3) := by decide +kernel
theorem dX9_incident_52 : decode cX9_incident 52 = .ok (.iload_n 1, 1) := by decide +kernel
theorem dX9_incident_53 : decode cX9_incident 53 = .ok (.invokevirtual 215, 3) := by decide +kernel
theorem dX9_incident_56 : decode cX9_incident 56 = .ok (.ireturn, 1) := by decide +kernel
theorem dX9_incident_57 : decode cX9_incident 57 = .ok (.aload_n 0, 1) := by decide +kernel
theorem dX9_incident_58 : decode cX9_incident 58 = .ok (.getfield 51, 3) := by decide +kernel
theorem dX9_incident_61 : decode cX9_incident 61 = .ok (.getfield 209, 3) := by decide +kernel
theorem dX9_incident_64 : decode cX9_incident 64 = .ok (.iload_n 1, 1) := by decide +kernel
theorem dX9_incident_65 : decode cX9_incident 65 = .ok (.iaload, 1) := by decide +kernel
theorem dX9_incident_66 : decode cX9_incident 66 = .ok (.iconst 4, 1) := by decide +kernel
theorem dX9_incident_67 : decode cX9_incident 67 = .ok (.irem, 1) := by decide +kernel
theorem dX9_incident_68 : decode cX9_incident 68 = .ok (.ireturn, 1) := by decide +kernel
theorem dX9_incident_69 : decode cX9_incident 69 = .ok (.aload_n 0, 1) := by decide +kernel
theorem dX9_incident_70 : decode cX9_incident 70 = .ok (.getfield 51, 3) := by decide +kernel
theorem dX9_incident_73 : decode cX9_incident 73 = .ok (.getfield 206, 3) := by decide +kernel
theorem dX9_incident_76 : decode cX9_incident 76 = .ok (.iload_n 1, 1) := by decide +kernel
theorem dX9_incident_77 : decode cX9_incident 77 = .ok (.iaload, 1) := by decide +kernel
theorem dX9_incident_78 : decode cX9_incident 78 = .ok (.ireturn, 1) := by decide +kernel
theorem dX9_incident_79 : decode cX9_incident 79 = .ok (.aload_n 0, 1) := by decide +kernel
theorem dX9_incident_80 : decode cX9_incident 80 = .ok (.getfield 51, 3) := by decide +kernel
theorem dX9_incident_83 : decode cX9_incident 83 = .ok (.getfield 218, 3) := by decide +kernel
theorem dX9_incident_86 : decode cX9_incident 86 = .ok (.iload_n 1, 1) := by decide +kernel
theorem dX9_incident_87 : decode cX9_incident 87 = .ok (.iaload, 1) := by decide +kernel
theorem dX9_incident_88 : decode cX9_incident 88 = .ok (.ireturn, 1) := by decide +kernel
theorem dX9_pattern_0 : decode cX9_pattern 0 = .ok (.iconst 0, 1) := by decide +kernel
theorem dX9_pattern_1 : decode cX9_pattern 1 = .ok (.istore_n 1, 1) := by decide +kernel
theorem dX9_pattern_2 : decode cX9_pattern 2 = .ok (.iload_n 1, 1) := by decide +kernel
theorem dX9_pattern_3 : decode cX9_pattern 3 = .ok (.bipush 11, 2) := by decide +kernel
theorem dX9_pattern_5 : decode cX9_pattern 5 = .ok (.if_icmp .ge 54, 3) := by decide +kernel
theorem dX9_pattern_8 : decode cX9_pattern 8 = .ok (.aload_n 0, 1) := by decide +kernel
theorem dX9_pattern_9 : decode cX9_pattern 9 = .ok (.getfield 23, 3) := by decide +kernel
theorem dX9_pattern_12 : decode cX9_pattern 12 = .ok (.iload_n 1, 1) := by decide +kernel
theorem dX9_pattern_13 : decode cX9_pattern 13 = .ok (.aload_n 0, 1) := by decide +kernel
theorem dX9_pattern_14 : decode cX9_pattern 14 = .ok (.getfield 16, 3) := by decide +kernel
theorem dX9_pattern_17 : decode cX9_pattern 17 = .ok (.invokevirtual 138, 3) := by decide +kernel
theorem dX9_pattern_20 : decode cX9_pattern 20 = .ok (.istore_n 2, 1) := by decide +kernel
theorem dX9_pattern_21 : decode cX9_pattern 21 = .ok (.iload_n 2, 1) := by decide +kernel
theorem dX9_pattern_22 : decode cX9_pattern 22 = .ok (.iconst (-1), 1) := by decide +kernel
theorem dX9_pattern_23 : decode cX9_pattern 23 = .ok (.if_icmp .eq 30, 3) := by decide +kernel
theorem dX9_pattern_26 : decode cX9_pattern 26 = .ok (.iload_n 2, 1) := by decide +kernel
theorem dX9_pattern_27 : decode cX9_pattern 27 = .ok (.bipush 40, 2) := by decide +kernel
theorem dX9_pattern_29 : decode cX9_pattern 29 = .ok (.if_icmp .ge 24, 3) := by decide +kernel
theorem dX9_pattern_32 : decode cX9_pattern 32 = .ok (.aload_n 0, 1) := by decide +kernel
theorem dX9_pattern_33 : decode cX9_pattern 33 = .ok (.getfield 23, 3) := by decide +kernel
theorem dX9_pattern_36 : decode cX9_pattern 36 = .ok (.iload_n 1, 1) := by decide +kernel
theorem dX9_pattern_37 : decode cX9_pattern 37 = .ok (.iconst 1, 1) := by decide +kernel
theorem dX9_pattern_38 : decode cX9_pattern 38 = .ok (.iadd, 1) := by decide +kernel
theorem dX9_pattern_39 : decode cX9_pattern 39 = .ok (.aload_n 0, 1) := by decide +kernel
theorem dX9_pattern_40 : decode cX9_pattern 40 = .ok (.getfield 16, 3) := by decide +kernel
theorem dX9_pattern_43 : decode cX9_pattern 43 = .ok (.invokevirtual 138, 3) := by decide +kernel
theorem dX9_pattern_46 : decode cX9_pattern 46 = .ok (.bipush 80, 2) := by decide +kernel
theorem dX9_pattern_48 : decode cX9_pattern 48 = .ok (.if_icmp .lt 5, 3) := by decide +kernel
theorem dX9_pattern_51 : decode cX9_pattern 51 = .ok (.iload_n 1, 1) := by decide +kernel
theorem dX9_pattern_52 : decode cX9_pattern 52 = .ok (.ireturn, 1) := by decide +kernel
theorem dX9_pattern_53 : decode cX9_pattern 53 = .ok (.iinc 1 1, 3) := by decide +kernel
theorem dX9_pattern_56 : decode cX9_pattern 56 = .ok (.goto (-54), 3) := by decide +kernel
theorem dX9_pattern_59 : decode cX9_pattern 59 = .ok (.iconst (-1), 1) := by decide +kernel
theorem dX9_pattern_60 : decode cX9_pattern 60 = .ok (.ireturn, 1) := by decide +kernel
theorem dX9_way_0 : decode cX9_way 0 = .ok (.iload_n 1, 1) := by decide +kernel
theorem dX9_way_1 : decode cX9_way 1 = .ok (.invokestatic 220, 3) := by decide +kernel
theorem dX9_way_4 : decode cX9_way 4 = .ok (.iload_n 2, 1) := by decide +kernel
theorem dX9_way_5 : decode cX9_way 5 = .ok (.invokestatic 130, 3) := by decide +kernel
theorem dX9_way_8 : decode cX9_way 8 = .ok (.aload_n 0, 1) := by decide +kernel
theorem dX9_way_9 : decode cX9_way 9 = .ok (.aload_n 0, 1) := by decide +kernel
theorem dX9_way_10 : decode cX9_way 10 = .ok (.getfield 58, 3) := by decide +kernel
theorem dX9_way_13 : decode cX9_way 13 = .ok (.getfield 223, 3) := by decide +kernel
theorem dX9_way_16 : decode cX9_way 16 = .ok (.iload_n 1, 1) := by decide +kernel
theorem dX9_way_17 : decode cX9_way 17 = .ok (.iaload, 1) := by decide +kernel
theorem dX9_way_18 : decode cX9_way 18 = .ok (.iload_n 2, 1) := by decide +kernel
theorem dX9_way_19 : decode cX9_way 19 = .ok (.invokevirtual 226, 3) := by decide +kernel
theorem dX9_way_22 : decode cX9_way 22 = .ok (.ireturn, 1) := by decide +kernel
theorem dX9_send_0 : decode cX9_send 0 = .ok (.iload_n 1, 1) := by decide +kernel
theorem dX9_send_1 : decode cX9_send 1 = .ok (.invokestatic 220, 3) := by decide +kernel
theorem dX9_send_4 : decode cX9_send 4 = .ok (.aload_n 0, 1) := by decide +kernel
theorem dX9_send_5 : decode cX9_send 5 = .ok (.getfield 51, 3) := by decide +kernel
theorem dX9_send_8 : decode cX9_send 8 = .ok (.iload_n 2, 1) := by decide +kernel
theorem dX9_send_9 : decode cX9_send 9 = .ok (.invokevirtual 200, 3) := by decide +kernel
theorem dX9_send_12 : decode cX9_send 12 = .ok (.invokestatic 203, 3) := by decide +kernel
theorem dX9_send_15 : decode cX9_send 15 = .ok (.aload_n 0, 1) := by decide +kernel
theorem dX9_send_16 : decode cX9_send 16 = .ok (.getfield 58, 3) := by decide +kernel
theorem dX9_send_19 : decode cX9_send 19 = .ok (.getfield 229, 3) := by decide +kernel
theorem dX9_send_22 : decode cX9_send 22 = .ok (.iload_n 1, 1) := by decide +kernel
theorem dX9_send_23 : decode cX9_send 23 = .ok (.iaload, 1) := by decide +kernel
theorem dX9_send_24 : decode cX9_send 24 = .ok (.iconst (-1), 1) := by decide +kernel
theorem dX9_send_25 : decode cX9_send 25 = .ok (.if_icmp .ne 7, 3) := by decide +kernel
theorem dX9_send_28 : decode cX9_send 28 = .ok (.iconst 1, 1) := by decide +kernel
theorem dX9_send_29 : decode cX9_send 29 = .ok (.goto 4, 3) := by decide +kernel
theorem dX9_send_32 : decode cX9_send 32 = .ok (.iconst 0, 1) := by decide +kernel
theorem dX9_send_33 : decode cX9_send 33 = .ok (.invokestatic 100, 3) := by decide +kernel
theorem dX9_send_36 : decode cX9_send 36 = .ok (.aload_n 0, 1) := by decide +kernel
theorem dX9_send_37 : decode cX9_send 37 = .ok (.getfield 51, 3) := by decide +kernel
theorem dX9_send_40 : decode cX9_send 40 = .ok (.getfield 206, 3) := by decide +kernel
theorem dX9_send_43 : decode cX9_send 43 = .ok (.iload_n 2, 1) := by decide +kernel
theorem dX9_send_44 : decode cX9_send 44 = .ok (.iaload, 1) := by decide +kernel
theorem dX9_send_45 : decode cX9_send 45 = .ok (.iconst 1, 1) := by decide +kernel
theorem dX9_send_46 : decode cX9_send 46 = .ok (.if_icmp .ne 7, 3) := by decide +kernel
theorem dX9_send_49 : decode cX9_send 49 = .ok (.iconst 1, 1) := by decide +kernel
theorem dX9_send_50 : decode cX9_send 50 = .ok (.goto 4, 3) := by decide +kernel
theorem dX9_send_53 : decode cX9_send 53 = .ok (.iconst 0, 1) := by decide +kernel
theorem dX9_send_54 : decode cX9_send 54 = .ok (.invokestatic 100, 3) := by decide +kernel
theorem dX9_send_57 : decode cX9_send 57 = .ok (.aload_n 0, 1) := by decide +kernel
theorem dX9_send_58 : decode cX9_send 58 = .ok (.getfield 51, 3) := by decide +kernel
theorem dX9_send_61 : decode cX9_send 61 = .ok (.getfield 218, 3) := by decide +kernel
theorem dX9_send_64 : decode cX9_send 64 = .ok (.iload_n 2, 1) := by decide +kernel
theorem dX9_send_65 : decode cX9_send 65 = .ok (.iaload, 1) := by decide +kernel
theorem dX9_send_66 : decode cX9_send 66 = .ok (.iconst (-1), 1) := by decide +kernel
theorem dX9_send_67 : decode cX9_send 67 = .ok (.if_icmp .ne 7, 3) := by decide +kernel
theorem dX9_send_70 : decode cX9_send 70 = .ok (.iconst 1, 1) := by decide +kernel
theorem dX9_send_71 : decode cX9_send 71 = .ok (.goto 4, 3) := by decide +kernel
theorem dX9_send_74 : decode cX9_send 74 = .ok (.iconst 0, 1) := by decide +kernel
theorem dX9_send_75 : decode cX9_send 75 = .ok (.invokestatic 100, 3) := by decide +kernel
theorem dX9_send_78 : decode cX9_send 78 = .ok (.aload_n 0, 1) := by decide +kernel
theorem dX9_send_79 : decode cX9_send 79 = .ok (.aload_n 0, 1) := by decide +kernel
theorem dX9_send_80 : decode cX9_send 80 = .ok (.getfield 58, 3) := by decide +kernel
theorem dX9_send_83 : decode cX9_send 83 = .ok (.getfield 223, 3) := by decide +kernel
theorem dX9_send_86 : decode cX9_send 86 = .ok (.iload_n 1, 1) := by decide +kernel
theorem dX9_send_87 : decode cX9_send 87 = .ok (.iaload, 1) := by decide +kernel
theorem dX9_send_88 : decode cX9_send 88 = .ok (.aload_n 0, 1) := by decide +kernel
theorem dX9_send_89 : decode cX9_send 89 = .ok (.getfield 51, 3) := by decide +kernel
theorem dX9_send_92 : decode cX9_send 92 = .ok (.iload_n 2, 1) := by decide +kernel
theorem dX9_send_93 : decode cX9_send 93 = .ok (.invokevirtual 215, 3) := by decide +kernel
theorem dX9_send_96 : decode cX9_send 96 = .ok (.invokevirtual 226, 3) := by decide +kernel
theorem dX9_send_99 : decode cX9_send 99 = .ok (.istore_n 3, 1) := by decide +kernel
theorem dX9_send_100 : decode cX9_send 100 = .ok (.aload_n 0, 1) := by decide +kernel
theorem dX9_send_101 : decode cX9_send 101 = .ok (.getfield 51, 3) := by decide +kernel
theorem dX9_send_104 : decode cX9_send 104 = .ok (.getfield 218, 3) := by decide +kernel
theorem dX9_send_107 : decode cX9_send 107 = .ok (.iload_n 2, 1) := by decide +kernel
theorem dX9_send_108 : decode cX9_send 108 = .ok (.iload_n 1, 1) := by decide +kernel
theorem dX9_send_109 : decode cX9_send 109 = .ok (.iastore, 1) := by decide +kernel
theorem dX9_send_110 : decode cX9_send 110 = .ok (.aload_n 0, 1) := by decide +kernel
theorem dX9_send_111 : decode cX9_send 111 = .ok (.getfield 58, 3) := by decide +kernel
theorem dX9_send_114 : decode cX9_send 114 = .ok (.getfield 229, 3) := by decide +kernel
theorem dX9_send_117 : decode cX9_send 117 = .ok (.iload_n 1, 1) := by decide +kernel
theorem dX9_send_118 : decode cX9_send 118 = .ok (.iload_n 2, 1) := by decide +kernel
theorem dX9_send_119 : decode cX9_send 119 = .ok (.iastore, 1) := by decide +kernel
theorem dX9_send_120 : decode cX9_send 120 = .ok (.aload_n 0, 1) := by decide +kernel
theorem dX9_send_121 : decode cX9_send 121 = .ok (.getfield 58, 3) := by decide +kernel
theorem dX9_send_124 : decode cX9_send 124 = .ok (.getfield 231, 3) := by decide +kernel
theorem dX9_send_127 : decode cX9_send 127 = .ok (.iload_n 1, 1) := by decide +kernel
theorem dX9_send_128 : decode cX9_send 128 = .ok (.iload_n 3, 1) := by decide +kernel
theorem dX9_send_129 : decode cX9_send 129 = .ok (.iconst 5, 1) := by decide +kernel
theorem dX9_send_130 : decode cX9_send 130 = .ok (.iadd, 1) := by decide +kernel
theorem dX9_send_131 : decode cX9_send 131 = .ok (.iastore, 1) := by decide +kernel
theorem dX9_send_132 : decode cX9_send 132 = .ok (.aload_n 0, 1) := by decide +kernel
theorem dX9_send_133 : decode cX9_send 133 = .ok (.getfield 58, 3) := by decide +kernel
theorem dX9_send_136 : decode cX9_send 136 = .ok (.getfield 231, 3) := by decide +kernel
theorem dX9_send_139 : decode cX9_send 139 = .ok (.iload_n 1, 1) := by decide +kernel
theorem dX9_send_140 : decode cX9_send 140 = .ok (.iaload, 1) := by decide +kernel
theorem dX9_send_141 : decode cX9_send 141 = .ok (.ireturn, 1) := by decide +kernel
theorem dX9_patrol_0 : decode cX9_patrol 0 = .ok (.iload_n 1, 1) := by decide +kernel
theorem dX9_patrol_1 : decode cX9_patrol 1 = .ok (.invokestatic 220, 3) := by decide +kernel
theorem dX9_patrol_4 : decode cX9_patrol 4 = .ok (.iload_n 2, 1) := by decide +kernel
theorem dX9_patrol_5 : decode cX9_patrol 5 = .ok (.iconst 0, 1) := by decide +kernel
theorem dX9_patrol_6 : decode cX9_patrol 6 = .ok (.iconst 2, 1) := by decide +kernel
theorem dX9_patrol_7 : decode cX9_patrol 7 = .ok (.invokestatic 89, 3) := by decide +kernel
theorem dX9_patrol_10 : decode cX9_patrol 10 = .ok (.invokestatic 93, 3) := by decide +kernel
theorem dX9_patrol_13 : decode cX9_patrol 13 = .ok (.iload_n 2, 1) := by decide +kernel
theorem dX9_patrol_14 : decode cX9_patrol 14 = .ok (.lookupswitch 46 #[(0, 26), (1, 36)], 26) := by decide +kernel
theorem dX9_patrol_40 : decode cX9_patrol 40 = .ok (.aload_n 0, 1) := by decide +kernel
theorem dX9_patrol_41 : decode cX9_patrol 41 = .ok (.getfield 58, 3) := by decide +kernel
theorem dX9_patrol_44 : decode cX9_patrol 44 = .ok (.getfield 223, 3) := by decide +kernel
theorem dX9_patrol_47 : decode cX9_patrol 47 = .ok (.iload_n 1, 1) := by decide +kernel
theorem dX9_patrol_48 : decode cX9_patrol 48 = .ok (.iaload, 1) := by decide +kernel
theorem dX9_patrol_49 : decode cX9_patrol 49 = .ok (.ireturn, 1) := by decide +kernel
theorem dX9_patrol_50 : decode cX9_patrol 50 = .ok (.aload_n 0, 1) := by decide +kernel
theorem dX9_patrol_51 : decode cX9_patrol 51 = .ok (.getfield 58, 3) := by decide +kernel
theorem dX9_patrol_54 : decode cX9_patrol 54 = .ok (.getfield 229, 3) := by decide +kernel
theorem dX9_patrol_57 : decode cX9_patrol 57 = .ok (.iload_n 1, 1) := by decide +kernel
theorem dX9_patrol_58 : decode cX9_patrol 58 = .ok (.iaload, 1) := by decide +kernel
theorem dX9_patrol_59 : decode cX9_patrol 59 = .ok (.ireturn, 1) := by decide +kernel
theorem dX9_patrol_60 : decode cX9_patrol 60 = .ok (.aload_n 0, 1) := by decide +kernel
theorem dX9_patrol_61 : decode cX9_patrol 61 = .ok (.getfield 58, 3) := by decide +kernel
theorem dX9_patrol_64 : decode cX9_patrol 64 = .ok (.getfield 231, 3) := by decide +kernel
theorem dX9_patrol_67 : decode cX9_patrol 67 = .ok (.iload_n 1, 1) := by decide +kernel
theorem dX9_patrol_68 : decode cX9_patrol 68 = .ok (.iaload, 1) := by decide +kernel
theorem dX9_patrol_69 : decode cX9_patrol 69 = .ok (.ireturn, 1) := by decide +kernel
theorem dX9_works_0 : decode cX9_works 0 = .ok (.iload_n 1, 1) := by decide +kernel
theorem dX9_works_1 : decode cX9_works 1 = .ok (.iconst 1, 1) := by decide +kernel
theorem dX9_works_2 : decode cX9_works 2 = .ok (.iconst 3, 1) := by decide +kernel
theorem dX9_works_3 : decode cX9_works 3 = .ok (.invokestatic 89, 3) := by decide +kernel
theorem dX9_works_6 : decode cX9_works 6 = .ok (.invokestatic 203, 3) := by decide +kernel
theorem dX9_works_9 : decode cX9_works 9 = .ok (.iload_n 2, 1) := by decide +kernel
theorem dX9_works_10 : decode cX9_works 10 = .ok (.iconst 1, 1) := by decide +kernel
theorem dX9_works_11 : decode cX9_works 11 = .ok (.bipush 11, 2) := by decide +kernel
theorem dX9_works_13 : decode cX9_works 13 = .ok (.invokestatic 89, 3) := by decide +kernel
theorem dX9_works_16 : decode cX9_works 16 = .ok (.invokestatic 203, 3) := by decide +kernel
theorem dX9_works_19 : decode cX9_works 19 = .ok (.iload_n 3, 1) := by decide +kernel
theorem dX9_works_20 : decode cX9_works 20 = .ok (.iconst 1, 1) := by decide +kernel
theorem dX9_works_21 : decode cX9_works 21 = .ok (.bipush 11, 2) := by decide +kernel
theorem dX9_works_23 : decode cX9_works 23 = .ok (.invokestatic 89, 3) := by decide +kernel
theorem dX9_works_26 : decode cX9_works 26 = .ok (.invokestatic 203, 3) := by decide +kernel
theorem dX9_works_29 : decode cX9_works 29 = .ok (.iload_n 2, 1) := by decide +kernel
theorem dX9_works_30 : decode cX9_works 30 = .ok (.iload_n 3, 1) := by decide +kernel
theorem dX9_works_31 : decode cX9_works 31 = .ok (.if_icmp .gt 7, 3) := by decide +kernel
theorem dX9_works_34 : decode cX9_works 34 = .ok (.iconst 1, 1) := by decide +kernel
theorem dX9_works_35 : decode cX9_works 35 = .ok (.goto 4, 3) := by decide +kernel
theorem dX9_works_38 : decode cX9_works 38 = .ok (.iconst 0, 1) := by decide +kernel
theorem dX9_works_39 : decode cX9_works 39 = .ok (.invokestatic 93, 3) := by decide +kernel
theorem dX9_works_42 : decode cX9_works 42 = .ok (.iload 4, 2) := by decide +kernel
theorem dX9_works_44 : decode cX9_works 44 = .ok (.aload_n 0, 1) := by decide +kernel
theorem dX9_works_45 : decode cX9_works 45 = .ok (.getfield 7, 3) := by decide +kernel
theorem dX9_works_48 : decode cX9_works 48 = .ok (.sipush 599, 3) := by decide +kernel
theorem dX9_works_51 : decode cX9_works 51 = .ok (.invokestatic 89, 3) := by decide +kernel
theorem dX9_works_54 : decode cX9_works 54 = .ok (.invokestatic 93, 3) := by decide +kernel
theorem dX9_works_57 : decode cX9_works 57 = .ok (.iload 5, 2) := by decide +kernel
theorem dX9_works_59 : decode cX9_works 59 = .ok (.iload 4, 2) := by decide +kernel
theorem dX9_works_61 : decode cX9_works 61 = .ok (.if_icmp .le 15, 3) := by decide +kernel
theorem dX9_works_64 : decode cX9_works 64 = .ok (.iload 5, 2) := by decide +kernel
theorem dX9_works_66 : decode cX9_works 66 = .ok (.sipush 600, 3) := by decide +kernel
theorem dX9_works_69 : decode cX9_works 69 = .ok (.if_icmp .gt 7, 3) := by decide +kernel
theorem dX9_works_72 : decode cX9_works 72 = .ok (.iconst 1, 1) := by decide +kernel
theorem dX9_works_73 : decode cX9_works 73 = .ok (.goto 4, 3) := by decide +kernel
theorem dX9_works_76 : decode cX9_works 76 = .ok (.iconst 0, 1) := by decide +kernel
theorem dX9_works_77 : decode cX9_works 77 = .ok (.invokestatic 93, 3) := by decide +kernel
theorem dX9_works_80 : decode cX9_works 80 = .ok (.aload_n 0, 1) := by decide +kernel
theorem dX9_works_81 : decode cX9_works 81 = .ok (.getfield 65, 3) := by decide +kernel
theorem dX9_works_84 : decode cX9_works 84 = .ok (.getfield 234, 3) := by decide +kernel
theorem dX9_works_87 : decode cX9_works 87 = .ok (.bipush 8, 2) := by decide +kernel
theorem dX9_works_89 : decode cX9_works 89 = .ok (.if_icmp .ge 7, 3) := by decide +kernel
theorem dX9_works_92 : decode cX9_works 92 = .ok (.iconst 1, 1) := by decide +kernel
theorem dX9_works_93 : decode cX9_works 93 = .ok (.goto 4, 3) := by decide +kernel
theorem dX9_works_96 : decode cX9_works 96 = .ok (.iconst 0, 1) := by decide +kernel
theorem dX9_works_97 : decode cX9_works 97 = .ok (.invokestatic 100, 3) := by decide +kernel
theorem dX9_works_100 : decode cX9_works 100 = .ok (.aload_n 0, 1) := by decide +kernel
theorem dX9_works_101 : decode cX9_works 101 = .ok (.getfield 65, 3) := by decide +kernel
theorem dX9_works_104 : decode cX9_works 104 = .ok (.iload_n 1, 1) := by decide +kernel
theorem dX9_works_105 : decode cX9_works 105 = .ok (.iload_n 2, 1) := by decide +kernel
theorem dX9_works_106 : decode cX9_works 106 = .ok (.iload_n 3, 1) := by decide +kernel
theorem dX9_works_107 : decode cX9_works 107 = .ok (.iload 4, 2) := by decide +kernel
theorem dX9_works_109 : decode cX9_works 109 = .ok (.iload 5, 2) := by decide +kernel
theorem dX9_works_111 : decode cX9_works 111 = .ok (.invokevirtual 237, 3) := by decide +kernel
theorem dX9_works_114 : decode cX9_works 114 = .ok (.aload_n 0, 1) := by decide +kernel
theorem dX9_works_115 : decode cX9_works 115 = .ok (.getfield 65, 3) := by decide +kernel
theorem dX9_works_118 : decode cX9_works 118 = .ok (.invokevirtual 241, 3) := by decide +kernel
theorem dX9_works_121 : decode cX9_works 121 = .ok (.ifCond .ne 7, 3) := by decide +kernel
theorem dX9_works_124 : decode cX9_works 124 = .ok (.iconst 1, 1) := by decide +kernel
theorem dX9_works_125 : decode cX9_works 125 = .ok (.goto 4, 3) := by decide +kernel
theorem dX9_works_128 : decode cX9_works 128 = .ok (.iconst 0, 1) := by decide +kernel
theorem dX9_works_129 : decode cX9_works 129 = .ok (.invokestatic 100, 3) := by decide +kernel
theorem dX9_works_132 : decode cX9_works 132 = .ok (.aload_n 0, 1) := by decide +kernel
theorem dX9_works_133 : decode cX9_works 133 = .ok (.getfield 65, 3) := by decide +kernel
theorem dX9_works_136 : decode cX9_works 136 = .ok (.dup, 1) := by decide +kernel
theorem dX9_works_137 : decode cX9_works 137 = .ok (.getfield 234, 3) := by decide +kernel
theorem dX9_works_140 : decode cX9_works 140 = .ok (.iconst 1, 1) := by decide +kernel
theorem dX9_works_141 : decode cX9_works 141 = .ok (.iadd, 1) := by decide +kernel
theorem dX9_works_142 : decode cX9_works 142 = .ok (.putfield 234, 3) := by decide +kernel
theorem dX9_works_145 : decode cX9_works 145 = .ok (.aload_n 0, 1) := by decide +kernel
theorem dX9_works_146 : decode cX9_works 146 = .ok (.getfield 65, 3) := by decide +kernel
theorem dX9_works_149 : decode cX9_works 149 = .ok (.getfield 234, 3) := by decide +kernel
theorem dX9_works_152 : decode cX9_works 152 = .ok (.iconst 1, 1) := by decide +kernel
theorem dX9_works_153 : decode cX9_works 153 = .ok (.isub, 1) := by decide +kernel
theorem dX9_works_154 : decode cX9_works 154 = .ok (.ireturn, 1) := by decide +kernel
theorem dX9_isOn_0 : decode cX9_isOn 0 = .ok (.iload_n 1, 1) := by decide +kernel
theorem dX9_isOn_1 : decode cX9_isOn 1 = .ok (.iconst 0, 1) := by decide +kernel
theorem dX9_isOn_2 : decode cX9_isOn 2 = .ok (.aload_n 0, 1) := by decide +kernel
theorem dX9_isOn_3 : decode cX9_isOn 3 = .ok (.getfield 65, 3) := by decide +kernel
theorem dX9_isOn_6 : decode cX9_isOn 6 = .ok (.getfield 234, 3) := by decide +kernel
theorem dX9_isOn_9 : decode cX9_isOn 9 = .ok (.iconst 1, 1) := by decide +kernel
theorem dX9_isOn_10 : decode cX9_isOn 10 = .ok (.isub, 1) := by decide +kernel
theorem dX9_isOn_11 : decode cX9_isOn 11 = .ok (.invokestatic 89, 3) := by decide +kernel
theorem dX9_isOn_14 : decode cX9_isOn 14 = .ok (.invokestatic 203, 3) := by decide +kernel
theorem dX9_isOn_17 : decode cX9_isOn 17 = .ok (.aload_n 0, 1) := by decide +kernel
theorem dX9_isOn_18 : decode cX9_isOn 18 = .ok (.getfield 65, 3) := by decide +kernel
theorem dX9_isOn_21 : decode cX9_isOn 21 = .ok (.iload_n 1, 1) := by decide +kernel
theorem dX9_isOn_22 : decode cX9_isOn 22 = .ok (.aload_n 0, 1) := by decide +kernel
theorem dX9_isOn_23 : decode cX9_isOn 23 = .ok (.getfield 7, 3) := by decide +kernel
theorem dX9_isOn_26 : decode cX9_isOn 26 = .ok (.invokevirtual 244, 3) := by decide +kernel
theorem dX9_isOn_29 : decode cX9_isOn 29 = .ok (.ireturn, 1) := by decide +kernel
theorem dX9_proof_0 : decode cX9_proof 0 = .ok (.iload_n 2, 1) := by decide +kernel
theorem dX9_proof_1 : decode cX9_proof 1 = .ok (.invokestatic 130, 3) := by decide +kernel
theorem dX9_proof_4 : decode cX9_proof 4 = .ok (.iload_n 1, 1) := by decide +kernel
theorem dX9_proof_5 : decode cX9_proof 5 = .ok (.ifCond .lt 7, 3) := by decide +kernel
theorem dX9_proof_8 : decode cX9_proof 8 = .ok (.iconst 1, 1) := by decide +kernel
theorem dX9_proof_9 : decode cX9_proof 9 = .ok (.goto 4, 3) := by decide +kernel
theorem dX9_proof_12 : decode cX9_proof 12 = .ok (.iconst 0, 1) := by decide +kernel
theorem dX9_proof_13 : decode cX9_proof 13 = .ok (.invokestatic 93, 3) := by decide +kernel
theorem dX9_proof_16 : decode cX9_proof 16 = .ok (.iload_n 3, 1) := by decide +kernel
theorem dX9_proof_17 : decode cX9_proof 17 = .ok (.iconst 0, 1) := by decide +kernel
theorem dX9_proof_18 : decode cX9_proof 18 = .ok (.iconst 4, 1) := by decide +kernel
theorem dX9_proof_19 : decode cX9_proof 19 = .ok (.invokestatic 89, 3) := by decide +kernel
theorem dX9_proof_22 : decode cX9_proof 22 = .ok (.invokestatic 93, 3) := by decide +kernel
theorem dX9_proof_25 : decode cX9_proof 25 = .ok (.iload_n 1, 1) := by decide +kernel
theorem dX9_proof_26 : decode cX9_proof 26 = .ok (.aload_n 0, 1) := by decide +kernel
theorem dX9_proof_27 : decode cX9_proof 27 = .ok (.getfield 7, 3) := by decide +kernel
theorem dX9_proof_30 : decode cX9_proof 30 = .ok (.invokestatic 248, 3) := by decide +kernel
theorem dX9_proof_33 : decode cX9_proof 33 = .ok (.invokestatic 100, 3) := by decide +kernel
theorem dX9_proof_36 : decode cX9_proof 36 = .ok (.iload_n 3, 1) := by decide +kernel
theorem dX9_proof_37 : decode cX9_proof 37 = .ok (.ifCond .ne 13, 3) := by decide +kernel
theorem dX9_proof_40 : decode cX9_proof 40 = .ok (.aload_n 0, 1) := by decide +kernel
theorem dX9_proof_41 : decode cX9_proof 41 = .ok (.getfield 72, 3) := by decide +kernel
theorem dX9_proof_44 : decode cX9_proof 44 = .ok (.iload_n 1, 1) := by decide +kernel
theorem dX9_proof_45 : decode cX9_proof 45 = .ok (.iload_n 2, 1) := by decide +kernel
theorem dX9_proof_46 : decode cX9_proof 46 = .ok (.invokevirtual 251, 3) := by decide +kernel
theorem dX9_proof_49 : decode cX9_proof 49 = .ok (.ireturn, 1) := by decide +kernel
theorem dX9_proof_50 : decode cX9_proof 50 = .ok (.aload_n 0, 1) := by decide +kernel
theorem dX9_proof_51 : decode cX9_proof 51 = .ok (.getfield 72, 3) := by decide +kernel
theorem dX9_proof_54 : decode cX9_proof 54 = .ok (.iload_n 1, 1) := by decide +kernel
theorem dX9_proof_55 : decode cX9_proof 55 = .ok (.iload_n 2, 1) := by decide +kernel
theorem dX9_proof_56 : decode cX9_proof 56 = .ok (.iload_n 3, 1) := by decide +kernel
theorem dX9_proof_57 : decode cX9_proof 57 = .ok (.iconst 1, 1) := by decide +kernel
theorem dX9_proof_58 : decode cX9_proof 58 = .ok (.isub, 1) := by decide +kernel
theorem dX9_proof_59 : decode cX9_proof 59 = .ok (.invokevirtual 254, 3) := by decide +kernel
theorem dX9_proof_62 : decode cX9_proof 62 = .ok (.ireturn, 1) := by decide +kernel
theorem dX9_isFined_0 : decode cX9_isFined 0 = .ok (.iload_n 2, 1) := by decide +kernel
theorem dX9_isFined_1 : decode cX9_isFined 1 = .ok (.invokestatic 130, 3) := by decide +kernel
theorem dX9_isFined_4 : decode cX9_isFined 4 = .ok (.iload_n 1, 1) := by decide +kernel
theorem dX9_isFined_5 : decode cX9_isFined 5 = .ok (.ifCond .lt 7, 3) := by decide +kernel
theorem dX9_isFined_8 : decode cX9_isFined 8 = .ok (.iconst 1, 1) := by decide +kernel
theorem dX9_isFined_9 : decode cX9_isFined 9 = .ok (.goto 4, 3) := by decide +kernel
theorem dX9_isFined_12 : decode cX9_isFined 12 = .ok (.iconst 0, 1) := by decide +kernel
theorem dX9_isFined_13 : decode cX9_isFined 13 = .ok (.invokestatic 93, 3) := by decide +kernel
theorem dX9_isFined_16 : decode cX9_isFined 16 = .ok (.iload_n 3, 1) := by decide +kernel
theorem dX9_isFined_17 : decode cX9_isFined 17 = .ok (.iconst 0, 1) := by decide +kernel
theorem dX9_isFined_18 : decode cX9_isFined 18 = .ok (.sipush 250, 3) := by decide +kernel
theorem dX9_isFined_21 : decode cX9_isFined 21 = .ok (.invokestatic 89, 3) := by decide +kernel
theorem dX9_isFined_24 : decode cX9_isFined 24 = .ok (.invokestatic 93, 3) := by decide +kernel
theorem dX9_isFined_27 : decode cX9_isFined 27 = .ok (.iload_n 1, 1) := by decide +kernel
theorem dX9_isFined_28 : decode cX9_isFined 28 = .ok (.aload_n 0, 1) := by decide +kernel
theorem dX9_isFined_29 : decode cX9_isFined 29 = .ok (.getfield 7, 3) := by decide +kernel
theorem dX9_isFined_32 : decode cX9_isFined 32 = .ok (.invokestatic 248, 3) := by decide +kernel
theorem dX9_isFined_35 : decode cX9_isFined 35 = .ok (.invokestatic 100, 3) := by decide +kernel
theorem dX9_isFined_38 : decode cX9_isFined 38 = .ok (.iload_n 3, 1) := by decide +kernel
theorem dX9_isFined_39 : decode cX9_isFined 39 = .ok (.aload_n 0, 1) := by decide +kernel
theorem dX9_isFined_40 : decode cX9_isFined 40 = .ok (.getfield 72, 3) := by decide +kernel
theorem dX9_isFined_43 : decode cX9_isFined 43 = .ok (.iload_n 1, 1) := by decide +kernel
theorem dX9_isFined_44 : decode cX9_isFined 44 = .ok (.iload_n 2, 1) := by decide +kernel
theorem dX9_isFined_45 : decode cX9_isFined 45 = .ok (.invokevirtual 251, 3) := by decide +kernel
theorem dX9_isFined_48 : decode cX9_isFined 48 = .ok (.isub, 1) := by decide +kernel
theorem dX9_isFined_49 : decode cX9_isFined 49 = .ok (.bipush 10, 2) := by decide +kernel
theorem dX9_isFined_51 : decode cX9_isFined 51 = .ok (.if_icmp .lt 7, 3) := by decide +kernel
theorem dX9_isFined_54 : decode cX9_isFined 54 = .ok (.iconst 1, 1) := by decide +kernel
theorem dX9_isFined_55 : decode cX9_isFined 55 = .ok (.goto 4, 3) := by decide +kernel
theorem dX9_isFined_58 : decode cX9_isFined 58 = .ok (.iconst 0, 1) := by decide +kernel
theorem dX9_isFined_59 : decode cX9_isFined 59 = .ok (.ireturn, 1) := by decide +kernel
theorem dX9_isWithin_0 : decode cX9_isWithin 0 = .ok (.iload_n 0, 1) := by decide +kernel
theorem dX9_isWithin_1 : decode cX9_isWithin 1 = .ok (.iload_n 1, 1) := by decide +kernel
theorem dX9_isWithin_2 : decode cX9_isWithin 2 = .ok (.if_icmp .lt 12, 3) := by decide +kernel
theorem dX9_isWithin_5 : decode cX9_isWithin 5 = .ok (.iload_n 0, 1) := by decide +kernel
theorem dX9_isWithin_6 : decode cX9_isWithin 6 = .ok (.iload_n 2, 1) := by decide +kernel
theorem dX9_isWithin_7 : decode cX9_isWithin 7 = .ok (.if_icmp .gt 7, 3) := by decide +kernel
theorem dX9_isWithin_10 : decode cX9_isWithin 10 = .ok (.iconst 1, 1) := by decide +kernel
theorem dX9_isWithin_11 : decode cX9_isWithin 11 = .ok (.goto 4, 3) := by decide +kernel
theorem dX9_isWithin_14 : decode cX9_isWithin 14 = .ok (.iconst 0, 1) := by decide +kernel
theorem dX9_isWithin_15 : decode cX9_isWithin 15 = .ok (.ireturn, 1) := by decide +kernel
theorem dX9_isSpeedSign_0 : decode cX9_isSpeedSign 0 = .ok (.iload_n 0, 1) := by decide +kernel
theorem dX9_isSpeedSign_1 : decode cX9_isSpeedSign 1 = .ok (.bipush 40, 2) := by decide +kernel
theorem dX9_isSpeedSign_3 : decode cX9_isSpeedSign 3 = .ok (.bipush 120, 2) := by decide +kernel
theorem dX9_isSpeedSign_5 : decode cX9_isSpeedSign 5 = .ok (.invokestatic 89, 3) := by decide +kernel
theorem dX9_isSpeedSign_8 : decode cX9_isSpeedSign 8 = .ok (.ifCond .eq 14, 3) := by decide +kernel
theorem dX9_isSpeedSign_11 : decode cX9_isSpeedSign 11 = .ok (.iload_n 0, 1) := by decide +kernel
theorem dX9_isSpeedSign_12 : decode cX9_isSpeedSign 12 = .ok (.bipush 20, 2) := by decide +kernel
theorem dX9_isSpeedSign_14 : decode cX9_isSpeedSign 14 = .ok (.irem, 1) := by decide +kernel
theorem dX9_isSpeedSign_15 : decode cX9_isSpeedSign 15 = .ok (.ifCond .ne 7, 3) := by decide +kernel
theorem dX9_isSpeedSign_18 : decode cX9_isSpeedSign 18 = .ok (.iconst 1, 1) := by decide +kernel
theorem dX9_isSpeedSign_19 : decode cX9_isSpeedSign 19 = .ok (.goto 4, 3) := by decide +kernel
theorem dX9_isSpeedSign_22 : decode cX9_isSpeedSign 22 = .ok (.iconst 0, 1) := by decide +kernel
theorem dX9_isSpeedSign_23 : decode cX9_isSpeedSign 23 = .ok (.ireturn, 1) := by decide +kernel
theorem dX9_placeOf_0 : decode cX9_placeOf 0 = .ok (.iload_n 0, 1) := by decide +kernel
theorem dX9_placeOf_1 : decode cX9_placeOf 1 = .ok (.iconst 4, 1) := by decide +kernel
theorem dX9_placeOf_2 : decode cX9_placeOf 2 = .ok (.imul, 1) := by decide +kernel
theorem dX9_placeOf_3 : decode cX9_placeOf 3 = .ok (.iload_n 1, 1) := by decide +kernel
theorem dX9_placeOf_4 : decode cX9_placeOf 4 = .ok (.iadd, 1) := by decide +kernel
theorem dX9_placeOf_5 : decode cX9_placeOf 5 = .ok (.ireturn, 1) := by decide +kernel
theorem dX9_needIndex_0 : decode cX9_needIndex 0 = .ok (.iload_n 0, 1) := by decide +kernel
theorem dX9_needIndex_1 : decode cX9_needIndex 1 = .ok (.ifCond .ne 14, 3) := by decide +kernel
theorem dX9_needIndex_4 : decode cX9_needIndex 4 = .ok (.new 258, 3) := by decide +kernel
theorem dX9_needIndex_7 : decode cX9_needIndex 7 = .ok (.dup, 1) := by decide +kernel
theorem dX9_needIndex_8 : decode cX9_needIndex 8 = .ok (.ldc_w 260, 3) := by decide +kernel
theorem dX9_needIndex_11 : decode cX9_needIndex 11 = .ok (.invokespecial 262, 3) := by decide +kernel
theorem dX9_needIndex_14 : decode cX9_needIndex 14 = .ok (.athrow, 1) := by decide +kernel
theorem dX9_needIndex_15 : decode cX9_needIndex 15 = .ok (.return_, 1) := by decide +kernel
theorem dX9_needArgument_0 : decode cX9_needArgument 0 = .ok (.iload_n 0, 1) := by decide +kernel
theorem dX9_needArgument_1 : decode cX9_needArgument 1 = .ok (.ifCond .ne 14, 3) := by decide +kernel
theorem dX9_needArgument_4 : decode cX9_needArgument 4 = .ok (.new 265, 3) := by decide +kernel
theorem dX9_needArgument_7 : decode cX9_needArgument 7 = .ok (.dup, 1) := by decide +kernel
theorem dX9_needArgument_8 : decode cX9_needArgument 8 = .ok (.ldc_w 267, 3) := by decide +kernel
theorem dX9_needArgument_11 : decode cX9_needArgument 11 = .ok (.invokespecial 269, 3) := by decide +kernel
theorem dX9_needArgument_14 : decode cX9_needArgument 14 = .ok (.athrow, 1) := by decide +kernel
theorem dX9_needArgument_15 : decode cX9_needArgument 15 = .ok (.return_, 1) := by decide +kernel
theorem dX9_needState_0 : decode cX9_needState 0 = .ok (.iload_n 0, 1) := by decide +kernel
theorem dX9_needState_1 : decode cX9_needState 1 = .ok (.ifCond .ne 14, 3) := by decide +kernel
theorem dX9_needState_4 : decode cX9_needState 4 = .ok (.new 270, 3) := by decide +kernel
theorem dX9_needState_7 : decode cX9_needState 7 = .ok (.dup, 1) := by decide +kernel
theorem dX9_needState_8 : decode cX9_needState 8 = .ok (.ldc_w 272, 3) := by decide +kernel
theorem dX9_needState_11 : decode cX9_needState 11 = .ok (.invokespecial 274, 3) := by decide +kernel
theorem dX9_needState_14 : decode cX9_needState 14 = .ok (.athrow, 1) := by decide +kernel
theorem dX9_needState_15 : decode cX9_needState 15 = .ok (.return_, 1) := by decide +kernel
theorem dX9_needSection_0 : decode cX9_needSection 0 = .ok (.iload_n 0, 1) := by decide +kernel
theorem dX9_needSection_1 : decode cX9_needSection 1 = .ok (.iconst 0, 1) := by decide +kernel
theorem dX9_needSection_2 : decode cX9_needSection 2 = .ok (.bipush 11, 2) := by decide +kernel
theorem dX9_needSection_4 : decode cX9_needSection 4 = .ok (.invokestatic 89, 3) := by decide +kernel
theorem dX9_needSection_7 : decode cX9_needSection 7 = .ok (.invokestatic 203, 3) := by decide +kernel
theorem dX9_needSection_10 : decode cX9_needSection 10 = .ok (.return_, 1) := by decide +kernel
theorem dX9_needPlace_0 : decode cX9_needPlace 0 = .ok (.iload_n 0, 1) := by decide +kernel
theorem dX9_needPlace_1 : decode cX9_needPlace 1 = .ok (.invokestatic 130, 3) := by decide +kernel
theorem dX9_needPlace_4 : decode cX9_needPlace 4 = .ok (.iload_n 1, 1) := by decide +kernel
theorem dX9_needPlace_5 : decode cX9_needPlace 5 = .ok (.iconst 0, 1) := by decide +kernel
theorem dX9_needPlace_6 : decode cX9_needPlace 6 = .ok (.iconst 3, 1) := by decide +kernel
theorem dX9_needPlace_7 : decode cX9_needPlace 7 = .ok (.invokestatic 89, 3) := by decide +kernel
theorem dX9_needPlace_10 : decode cX9_needPlace 10 = .ok (.invokestatic 203, 3) := by decide +kernel
theorem dX9_needPlace_13 : decode cX9_needPlace 13 = .ok (.return_, 1) := by decide +kernel
theorem dX9_needPatrol_0 : decode cX9_needPatrol 0 = .ok (.iload_n 0, 1) := by decide +kernel
theorem dX9_needPatrol_1 : decode cX9_needPatrol 1 = .ok (.iconst 0, 1) := by decide +kernel
theorem dX9_needPatrol_2 : decode cX9_needPatrol 2 = .ok (.iconst 2, 1) := by decide +kernel
theorem dX9_needPatrol_3 : decode cX9_needPatrol 3 = .ok (.invokestatic 89, 3) := by decide +kernel
theorem dX9_needPatrol_6 : decode cX9_needPatrol 6 = .ok (.invokestatic 203, 3) := by decide +kernel
theorem dX9_needPatrol_9 : decode cX9_needPatrol 9 = .ok (.return_, 1) := by decide +kernel
theorem dX9_comeToNextMinute_0 : decode cX9_comeToNextMinute 0 = .ok (.aload_n 0, 1) := by decide +kernel
theorem dX9_comeToNextMinute_1 : decode cX9_comeToNextMinute 1 = .ok (.dup, 1) := by decide +kernel
theorem dX9_comeToNextMinute_2 : decode cX9_comeToNextMinute 2 = .ok (.getfield 7, 3) := by decide +kernel
theorem dX9_comeToNextMinute_5 : decode cX9_comeToNextMinute 5 = .ok (.iconst 1, 1) := by decide +kernel
theorem dX9_comeToNextMinute_6 : decode cX9_comeToNextMinute 6 = .ok (.iadd, 1) := by decide +kernel
theorem dX9_comeToNextMinute_7 : decode cX9_comeToNextMinute 7 = .ok (.putfield 7, 3) := by decide +kernel
theorem dX9_comeToNextMinute_10 : decode cX9_comeToNextMinute 10 = .ok (.aload_n 0, 1) := by decide +kernel
theorem dX9_comeToNextMinute_11 : decode cX9_comeToNextMinute 11 = .ok (.invokevirtual 275, 3) := by decide +kernel
theorem dX9_comeToNextMinute_14 : decode cX9_comeToNextMinute 14 = .ok (.aload_n 0, 1) := by decide +kernel
theorem dX9_comeToNextMinute_15 : decode cX9_comeToNextMinute 15 = .ok (.invokevirtual 168, 3) := by decide +kernel
theorem dX9_comeToNextMinute_18 : decode cX9_comeToNextMinute 18 = .ok (.aload_n 0, 1) := by decide +kernel
theorem dX9_comeToNextMinute_19 : decode cX9_comeToNextMinute 19 = .ok (.getfield 16, 3) := by decide +kernel
theorem dX9_comeToNextMinute_22 : decode cX9_comeToNextMinute 22 = .ok (.aload_n 0, 1) := by decide +kernel
theorem dX9_comeToNextMinute_23 : decode cX9_comeToNextMinute 23 = .ok (.getfield 37, 3) := by decide +kernel
theorem dX9_comeToNextMinute_26 : decode cX9_comeToNextMinute 26 = .ok (.getfield 84, 3) := by decide +kernel
theorem dX9_comeToNextMinute_29 : decode cX9_comeToNextMinute 29 = .ok (.invokevirtual 278, 3) := by decide +kernel
theorem dX9_comeToNextMinute_32 : decode cX9_comeToNextMinute 32 = .ok (.aload_n 0, 1) := by decide +kernel
theorem dX9_comeToNextMinute_33 : decode cX9_comeToNextMinute 33 = .ok (.getfield 16, 3) := by decide +kernel
theorem dX9_comeToNextMinute_36 : decode cX9_comeToNextMinute 36 = .ok (.aload_n 0, 1) := by decide +kernel
theorem dX9_comeToNextMinute_37 : decode cX9_comeToNextMinute 37 = .ok (.getfield 37, 3) := by decide +kernel
theorem dX9_comeToNextMinute_40 : decode cX9_comeToNextMinute 40 = .ok (.getfield 84, 3) := by decide +kernel
theorem dX9_comeToNextMinute_43 : decode cX9_comeToNextMinute 43 = .ok (.invokevirtual 282, 3) := by decide +kernel
theorem dX9_comeToNextMinute_46 : decode cX9_comeToNextMinute 46 = .ok (.aload_n 0, 1) := by decide +kernel
theorem dX9_comeToNextMinute_47 : decode cX9_comeToNextMinute 47 = .ok (.getfield 16, 3) := by decide +kernel
theorem dX9_comeToNextMinute_50 : decode cX9_comeToNextMinute 50 = .ok (.invokevirtual 285, 3) := by decide +kernel
theorem dX9_comeToNextMinute_53 : decode cX9_comeToNextMinute 53 = .ok (.aload_n 0, 1) := by decide +kernel
theorem dX9_comeToNextMinute_54 : decode cX9_comeToNextMinute 54 = .ok (.getfield 30, 3) := by decide +kernel
theorem dX9_comeToNextMinute_57 : decode cX9_comeToNextMinute 57 = .ok (.aload_n 0, 1) := by decide +kernel
theorem dX9_comeToNextMinute_58 : decode cX9_comeToNextMinute 58 = .ok (.getfield 7, 3) := by decide +kernel
theorem dX9_comeToNextMinute_61 : decode cX9_comeToNextMinute 61 = .ok (.aload_n 0, 1) := by decide +kernel
theorem dX9_comeToNextMinute_62 : decode cX9_comeToNextMinute 62 = .ok (.getfield 23, 3) := by decide +kernel
theorem dX9_comeToNextMinute_65 : decode cX9_comeToNextMinute 65 = .ok (.aload_n 0, 1) := by decide +kernel
theorem dX9_comeToNextMinute_66 : decode cX9_comeToNextMinute 66 = .ok (.getfield 16, 3) := by decide +kernel
theorem dX9_comeToNextMinute_69 : decode cX9_comeToNextMinute 69 = .ok (.invokevirtual 288, 3) := by decide +kernel
theorem dX9_comeToNextMinute_72 : decode cX9_comeToNextMinute 72 = .ok (.aload_n 0, 1) := by decide +kernel
theorem dX9_comeToNextMinute_73 : decode cX9_comeToNextMinute 73 = .ok (.getfield 72, 3) := by decide +kernel
theorem dX9_comeToNextMinute_76 : decode cX9_comeToNextMinute 76 = .ok (.aload_n 0, 1) := by decide +kernel
theorem dX9_comeToNextMinute_77 : decode cX9_comeToNextMinute 77 = .ok (.getfield 7, 3) := by decide +kernel
theorem dX9_comeToNextMinute_80 : decode cX9_comeToNextMinute 80 = .ok (.aload_n 0, 1) := by decide +kernel
theorem dX9_comeToNextMinute_81 : decode cX9_comeToNextMinute 81 = .ok (.getfield 30, 3) := by decide +kernel
theorem dX9_comeToNextMinute_84 : decode cX9_comeToNextMinute 84 = .ok (.getfield 80, 3) := by decide +kernel
theorem dX9_comeToNextMinute_87 : decode cX9_comeToNextMinute 87 = .ok (.aload_n 0, 1) := by decide +kernel
theorem dX9_comeToNextMinute_88 : decode cX9_comeToNextMinute 88 = .ok (.getfield 37, 3) := by decide +kernel
theorem dX9_comeToNextMinute_91 : decode cX9_comeToNextMinute 91 = .ok (.getfield 84, 3) := by decide +kernel
theorem dX9_comeToNextMinute_94 : decode cX9_comeToNextMinute 94 = .ok (.invokevirtual 85, 3) := by decide +kernel
theorem dX9_comeToNextMinute_97 : decode cX9_comeToNextMinute 97 = .ok (.return_, 1) := by decide +kernel
theorem dX9_setLaneSigns_0 : decode cX9_setLaneSigns 0 = .ok (.aload_n 0, 1) := by decide +kernel
theorem dX9_setLaneSigns_1 : decode cX9_setLaneSigns 1 = .ok (.getfield 37, 3) := by decide +kernel
theorem dX9_setLaneSigns_4 : decode cX9_setLaneSigns 4 = .ok (.aload_n 0, 1) := by decide +kernel
theorem dX9_setLaneSigns_5 : decode cX9_setLaneSigns 5 = .ok (.getfield 7, 3) := by decide +kernel
theorem dX9_setLaneSigns_8 : decode cX9_setLaneSigns 8 = .ok (.aload_n 0, 1) := by decide +kernel
theorem dX9_setLaneSigns_9 : decode cX9_setLaneSigns 9 = .ok (.getfield 44, 3) := by decide +kernel
theorem dX9_setLaneSigns_12 : decode cX9_setLaneSigns 12 = .ok (.aload_n 0, 1) := by decide +kernel
theorem dX9_setLaneSigns_13 : decode cX9_setLaneSigns 13 = .ok (.getfield 51, 3) := by decide +kernel
theorem dX9_setLaneSigns_16 : decode cX9_setLaneSigns 16 = .ok (.aload_n 0, 1) := by decide +kernel
theorem dX9_setLaneSigns_17 : decode cX9_setLaneSigns 17 = .ok (.getfield 65, 3) := by decide +kernel
theorem dX9_setLaneSigns_20 : decode cX9_setLaneSigns 20 = .ok (.invokevirtual 76, 3) := by decide +kernel
theorem dX9_setLaneSigns_23 : decode cX9_setLaneSigns 23 = .ok (.return_, 1) := by decide +kernel
theorem dX9_movePatrols_0 : decode cX9_movePatrols 0 = .ok (.iconst 0, 1) := by decide +kernel
theorem dX9_movePatrols_1 : decode cX9_movePatrols 1 = .ok (.istore_n 1, 1) := by decide +kernel
theorem dX9_movePatrols_2 : decode cX9_movePatrols 2 = .ok (.iload_n 1, 1) := by decide +kernel
theorem dX9_movePatrols_3 : decode cX9_movePatrols 3 = .ok (.iconst 3, 1) := by decide +kernel
theorem dX9_movePatrols_4 : decode cX9_movePatrols 4 = .ok (.if_icmp .ge 52, 3) := by decide +kernel
theorem dX9_movePatrols_7 : decode cX9_movePatrols 7 = .ok (.aload_n 0, 1) := by decide +kernel
theorem dX9_movePatrols_8 : decode cX9_movePatrols 8 = .ok (.getfield 58, 3) := by decide +kernel
theorem dX9_movePatrols_11 : decode cX9_movePatrols 11 = .ok (.getfield 229, 3) := by decide +kernel
theorem dX9_movePatrols_14 : decode cX9_movePatrols 14 = .ok (.iload_n 1, 1) := by decide +kernel
theorem dX9_movePatrols_15 : decode cX9_movePatrols 15 = .ok (.iaload, 1) := by decide +kernel
theorem dX9_movePatrols_16 : decode cX9_movePatrols 16 = .ok (.iconst (-1), 1) := by decide +kernel
theorem dX9_movePatrols_17 : decode cX9_movePatrols 17 = .ok (.if_icmp .eq 33, 3) := by decide +kernel
theorem dX9_movePatrols_20 : decode cX9_movePatrols 20 = .ok (.aload_n 0, 1) := by decide +kernel
theorem dX9_movePatrols_21 : decode cX9_movePatrols 21 = .ok (.getfield 58, 3) := by decide +kernel
theorem dX9_movePatrols_24 : decode cX9_movePatrols 24 = .ok (.getfield 231, 3) := by decide +kernel
theorem dX9_movePatrols_27 : decode cX9_movePatrols 27 = .ok (.iload_n 1, 1) := by decide +kernel
theorem dX9_movePatrols_28 : decode cX9_movePatrols 28 = .ok (.dup2, 1) := by decide +kernel
theorem dX9_movePatrols_29 : decode cX9_movePatrols 29 = .ok (.iaload, 1) := by decide +kernel
theorem dX9_movePatrols_30 : decode cX9_movePatrols 30 = .ok (.iconst 1, 1) := by decide +kernel
theorem dX9_movePatrols_31 : decode cX9_movePatrols 31 = .ok (.isub, 1) := by decide +kernel
theorem dX9_movePatrols_32 : decode cX9_movePatrols 32 = .ok (.iastore, 1) := by decide +kernel
theorem dX9_movePatrols_33 : decode cX9_movePatrols 33 = .ok (.aload_n 0, 1) := by decide +kernel
theorem dX9_movePatrols_34 : decode cX9_movePatrols 34 = .ok (.getfield 58, 3) := by decide +kernel
theorem dX9_movePatrols_37 : decode cX9_movePatrols 37 = .ok (.getfield 231, 3) := by decide +kernel
theorem dX9_movePatrols_40 : decode cX9_movePatrols 40 = .ok (.iload_n 1, 1) := by decide +kernel
theorem dX9_movePatrols_41 : decode cX9_movePatrols 41 = .ok (.iaload, 1) := by decide +kernel
theorem dX9_movePatrols_42 : decode cX9_movePatrols 42 = .ok (.ifCond .gt 8, 3) := by decide +kernel
theorem dX9_movePatrols_45 : decode cX9_movePatrols 45 = .ok (.aload_n 0, 1) := by decide +kernel
theorem dX9_movePatrols_46 : decode cX9_movePatrols 46 = .ok (.iload_n 1, 1) := by decide +kernel
theorem dX9_movePatrols_47 : decode cX9_movePatrols 47 = .ok (.invokevirtual 291, 3) := by decide +kernel
theorem dX9_movePatrols_50 : decode cX9_movePatrols 50 = .ok (.iinc 1 1, 3) := by decide +kernel
theorem dX9_movePatrols_53 : decode cX9_movePatrols 53 = .ok (.goto (-51), 3) := by decide +kernel
theorem dX9_movePatrols_56 : decode cX9_movePatrols 56 = .ok (.return_, 1) := by decide +kernel
theorem dX9_endWorkOf_0 : decode cX9_endWorkOf 0 = .ok (.aload_n 0, 1) := by decide +kernel
theorem dX9_endWorkOf_1 : decode cX9_endWorkOf 1 = .ok (.getfield 58, 3) := by decide +kernel
theorem dX9_endWorkOf_4 : decode cX9_endWorkOf 4 = .ok (.getfield 229, 3) := by decide +kernel
theorem dX9_endWorkOf_7 : decode cX9_endWorkOf 7 = .ok (.iload_n 1, 1) := by decide +kernel
theorem dX9_endWorkOf_8 : decode cX9_endWorkOf 8 = .ok (.iaload, 1) := by decide +kernel
theorem dX9_endWorkOf_9 : decode cX9_endWorkOf 9 = .ok (.istore_n 2, 1) := by decide +kernel
theorem dX9_endWorkOf_10 : decode cX9_endWorkOf 10 = .ok (.aload_n 0, 1) := by decide +kernel
theorem dX9_endWorkOf_11 : decode cX9_endWorkOf 11 = .ok (.getfield 51, 3) := by decide +kernel
theorem dX9_endWorkOf_14 : decode cX9_endWorkOf 14 = .ok (.iload_n 2, 1) := by decide +kernel
theorem dX9_endWorkOf_15 : decode cX9_endWorkOf 15 = .ok (.invokevirtual 200, 3) := by decide +kernel
theorem dX9_endWorkOf_18 : decode cX9_endWorkOf 18 = .ok (.ifCond .eq 56, 3) := by decide +kernel
theorem dX9_endWorkOf_21 : decode cX9_endWorkOf 21 = .ok (.aload_n 0, 1) := by decide +kernel
theorem dX9_endWorkOf_22 : decode cX9_endWorkOf 22 = .ok (.getfield 16, 3) := by decide +kernel
theorem dX9_endWorkOf_25 : decode cX9_endWorkOf 25 = .ok (.aload_n 0, 1) := by decide +kernel
theorem dX9_endWorkOf_26 : decode cX9_endWorkOf 26 = .ok (.getfield 51, 3) := by decide +kernel
theorem dX9_endWorkOf_29 : decode cX9_endWorkOf 29 = .ok (.getfield 209, 3) := by decide +kernel
theorem dX9_endWorkOf_32 : decode cX9_endWorkOf 32 = .ok (.iload_n 2, 1) := by decide +kernel
theorem dX9_endWorkOf_33 : decode cX9_endWorkOf 33 = .ok (.iaload, 1) := by decide +kernel
theorem dX9_endWorkOf_34 : decode cX9_endWorkOf 34 = .ok (.invokevirtual 294, 3) := by decide +kernel
theorem dX9_endWorkOf_37 : decode cX9_endWorkOf 37 = .ok (.aload_n 0, 1) := by decide +kernel
theorem dX9_endWorkOf_38 : decode cX9_endWorkOf 38 = .ok (.getfield 51, 3) := by decide +kernel
theorem dX9_endWorkOf_41 : decode cX9_endWorkOf 41 = .ok (.getfield 206, 3) := by decide +kernel
theorem dX9_endWorkOf_44 : decode cX9_endWorkOf 44 = .ok (.iload_n 2, 1) := by decide +kernel
theorem dX9_endWorkOf_45 : decode cX9_endWorkOf 45 = .ok (.iconst 2, 1) := by decide +kernel
theorem dX9_endWorkOf_46 : decode cX9_endWorkOf 46 = .ok (.iastore, 1) := by decide +kernel
theorem dX9_endWorkOf_47 : decode cX9_endWorkOf 47 = .ok (.aload_n 0, 1) := by decide +kernel
theorem dX9_endWorkOf_48 : decode cX9_endWorkOf 48 = .ok (.getfield 51, 3) := by decide +kernel
theorem dX9_endWorkOf_51 : decode cX9_endWorkOf 51 = .ok (.getfield 218, 3) := by decide +kernel
theorem dX9_endWorkOf_54 : decode cX9_endWorkOf 54 = .ok (.iload_n 2, 1) := by decide +kernel
theorem dX9_endWorkOf_55 : decode cX9_endWorkOf 55 = .ok (.iconst (-1), 1) := by decide +kernel
theorem dX9_endWorkOf_56 : decode cX9_endWorkOf 56 = .ok (.iastore, 1) := by decide +kernel
theorem dX9_endWorkOf_57 : decode cX9_endWorkOf 57 = .ok (.aload_n 0, 1) := by decide +kernel
theorem dX9_endWorkOf_58 : decode cX9_endWorkOf 58 = .ok (.getfield 58, 3) := by decide +kernel
theorem dX9_endWorkOf_61 : decode cX9_endWorkOf 61 = .ok (.getfield 223, 3) := by decide +kernel
theorem dX9_endWorkOf_64 : decode cX9_endWorkOf 64 = .ok (.iload_n 1, 1) := by decide +kernel
theorem dX9_endWorkOf_65 : decode cX9_endWorkOf 65 = .ok (.aload_n 0, 1) := by decide +kernel
theorem dX9_endWorkOf_66 : decode cX9_endWorkOf 66 = .ok (.getfield 51, 3) := by decide +kernel
theorem dX9_endWorkOf_69 : decode cX9_endWorkOf 69 = .ok (.iload_n 2, 1) := by decide +kernel
theorem dX9_endWorkOf_70 : decode cX9_endWorkOf 70 = .ok (.invokevirtual 215, 3) := by decide +kernel
theorem dX9_endWorkOf_73 : decode cX9_endWorkOf 73 = .ok (.iastore, 1) := by decide +kernel
theorem dX9_endWorkOf_74 : decode cX9_endWorkOf 74 = .ok (.aload_n 0, 1) := by decide +kernel
theorem dX9_endWorkOf_75 : decode cX9_endWorkOf 75 = .ok (.getfield 58, 3) := by decide +kernel
theorem dX9_endWorkOf_78 : decode cX9_endWorkOf 78 = .ok (.getfield 229, 3) := by decide +kernel
theorem dX9_endWorkOf_81 : decode cX9_endWorkOf 81 = .ok (.iload_n 1, 1) := by decide +kernel
theorem dX9_endWorkOf_82 : decode cX9_endWorkOf 82 = .ok (.iconst (-1), 1) := by decide +kernel
theorem dX9_endWorkOf_83 : decode cX9_endWorkOf 83 = .ok (.iastore, 1) := by decide +kernel
theorem dX9_endWorkOf_84 : decode cX9_endWorkOf 84 = .ok (.return_, 1) := by decide +kernel
theorem dX9_wayBetween_0 : decode cX9_wayBetween 0 = .ok (.iload_n 2, 1) := by decide +kernel
theorem dX9_wayBetween_1 : decode cX9_wayBetween 1 = .ok (.iload_n 1, 1) := by decide +kernel
theorem dX9_wayBetween_2 : decode cX9_wayBetween 2 = .ok (.if_icmp .gt 9, 3) := by decide +kernel
theorem dX9_wayBetween_5 : decode cX9_wayBetween 5 = .ok (.iconst 3, 1) := by decide +kernel
theorem dX9_wayBetween_6 : decode cX9_wayBetween 6 = .ok (.iload_n 1, 1) := by decide +kernel
theorem dX9_wayBetween_7 : decode cX9_wayBetween 7 = .ok (.iload_n 2, 1) := by decide +kernel
theorem dX9_wayBetween_8 : decode cX9_wayBetween 8 = .ok (.isub, 1) := by decide +kernel
theorem dX9_wayBetween_9 : decode cX9_wayBetween 9 = .ok (.imul, 1) := by decide +kernel
theorem dX9_wayBetween_10 : decode cX9_wayBetween 10 = .ok (.ireturn, 1) := by decide +kernel
theorem dX9_wayBetween_11 : decode cX9_wayBetween 11 = .ok (.iconst 0, 1) := by decide +kernel
theorem dX9_wayBetween_12 : decode cX9_wayBetween 12 = .ok (.istore_n 3, 1) := by decide +kernel
theorem dX9_wayBetween_13 : decode cX9_wayBetween 13 = .ok (.iload_n 1, 1) := by decide +kernel
theorem dX9_wayBetween_14 : decode cX9_wayBetween 14 = .ok (.iconst 1, 1) := by decide +kernel
theorem dX9_wayBetween_15 : decode cX9_wayBetween 15 = .ok (.iadd, 1) := by decide +kernel
theorem dX9_wayBetween_16 : decode cX9_wayBetween 16 = .ok (.istore 4, 2) := by decide +kernel
theorem dX9_wayBetween_18 : decode cX9_wayBetween 18 = .ok (.iload 4, 2) := by decide +kernel
theorem dX9_wayBetween_20 : decode cX9_wayBetween 20 = .ok (.iload_n 2, 1) := by decide +kernel
theorem dX9_wayBetween_21 : decode cX9_wayBetween 21 = .ok (.if_icmp .gt 18, 3) := by decide +kernel
theorem dX9_wayBetween_24 : decode cX9_wayBetween 24 = .ok (.iload_n 3, 1) := by decide +kernel
theorem dX9_wayBetween_25 : decode cX9_wayBetween 25 = .ok (.aload_n 0, 1) := by decide +kernel
theorem dX9_wayBetween_26 : decode cX9_wayBetween 26 = .ok (.iload 4, 2) := by decide +kernel
theorem dX9_wayBetween_28 : decode cX9_wayBetween 28 = .ok (.invokevirtual 297, 3) := by decide +kernel
theorem dX9_wayBetween_31 : decode cX9_wayBetween 31 = .ok (.iadd, 1) := by decide +kernel
theorem dX9_wayBetween_32 : decode cX9_wayBetween 32 = .ok (.istore_n 3, 1) := by decide +kernel
theorem dX9_wayBetween_33 : decode cX9_wayBetween 33 = .ok (.iinc 4 1, 3) := by decide +kernel
theorem dX9_wayBetween_36 : decode cX9_wayBetween 36 = .ok (.goto (-18), 3) := by decide +kernel
theorem dX9_wayBetween_39 : decode cX9_wayBetween 39 = .ok (.iload_n 3, 1) := by decide +kernel
theorem dX9_wayBetween_40 : decode cX9_wayBetween 40 = .ok (.ireturn, 1) := by decide +kernel
theorem dX9_minutesThrough_0 : decode cX9_minutesThrough 0 = .ok (.aload_n 0, 1) := by decide +kernel
theorem dX9_minutesThrough_1 : decode cX9_minutesThrough 1 = .ok (.getfield 44, 3) := by decide +kernel
theorem dX9_minutesThrough_4 : decode cX9_minutesThrough 4 = .ok (.iload_n 1, 1) := by decide +kernel
theorem dX9_minutesThrough_5 : decode cX9_minutesThrough 5 = .ok (.invokevirtual 300, 3) := by decide +kernel
theorem dX9_minutesThrough_8 : decode cX9_minutesThrough 8 = .ok (.ifCond .eq 18, 3) := by decide +kernel
theorem dX9_minutesThrough_11 : decode cX9_minutesThrough 11 = .ok (.iconst 1, 1) := by decide +kernel
theorem dX9_minutesThrough_12 : decode cX9_minutesThrough 12 = .ok (.aload_n 0, 1) := by decide +kernel
theorem dX9_minutesThrough_13 : decode cX9_minutesThrough 13 = .ok (.getfield 16, 3) := by decide +kernel
theorem dX9_minutesThrough_16 : decode cX9_minutesThrough 16 = .ok (.iload_n 1, 1) := by decide +kernel
theorem dX9_minutesThrough_17 : decode cX9_minutesThrough 17 = .ok (.invokevirtual 303, 3) := by decide +kernel
theorem dX9_minutesThrough_20 : decode cX9_minutesThrough 20 = .ok (.iconst 5, 1) := by decide +kernel
theorem dX9_minutesThrough_21 : decode cX9_minutesThrough 21 = .ok (.idiv, 1) := by decide +kernel
theorem dX9_minutesThrough_22 : decode cX9_minutesThrough 22 = .ok (.iadd, 1) := by decide +kernel
theorem dX9_minutesThrough_23 : decode cX9_minutesThrough 23 = .ok (.goto 4, 3) := by decide +kernel
theorem dX9_minutesThrough_26 : decode cX9_minutesThrough 26 = .ok (.iconst 1, 1) := by decide +kernel
theorem dX9_minutesThrough_27 : decode cX9_minutesThrough 27 = .ok (.ireturn, 1) := by decide +kernel
