theorem dX0_init_0 : decode cX0_init 0 = .ok (.aload_n 0, 1) := by decide +kernel
theorem dX0_init_1 : decode cX0_init 1 = .ok (.invokespecial 3, 3) := by decide +kernel
theorem dX0_init_4 : decode cX0_init 4 = .ok (.aload_n 0, 1) := by decide +kernel
theorem dX0_init_5 : decode cX0_init 5 = .ok (.bipush 8, 2) := by decide +kernel
theorem dX0_init_7 : decode cX0_init 7 = .ok (.newarray .int, 2) := by decide +kernel
theorem dX0_init_9 : decode cX0_init 9 = .ok (.putfield 11, 3) := by decide +kernel
theorem dX0_init_12 : decode cX0_init 12 = .ok (.aload_n 0, 1) := by decide +kernel
theorem dX0_init_13 : decode cX0_init 13 = .ok (.bipush 8, 2) := by decide +kernel
theorem dX0_init_15 : decode cX0_init 15 = .ok (.newarray .int, 2) := by decide +kernel
theorem dX0_init_17 : decode cX0_init 17 = .ok (.putfield 15, 3) := by decide +kernel
theorem dX0_init_20 : decode cX0_init 20 = .ok (.aload_n 0, 1) := by decide +kernel
theorem dX0_init_21 : decode cX0_init 21 = .ok (.bipush 8, 2) := by decide +kernel
theorem dX0_init_23 : decode cX0_init 23 = .ok (.newarray .int, 2) := by decide +kernel
theorem dX0_init_25 : decode cX0_init 25 = .ok (.putfield 18, 3) := by decide +kernel
theorem dX0_init_28 : decode cX0_init 28 = .ok (.aload_n 0, 1) := by decide +kernel
theorem dX0_init_29 : decode cX0_init 29 = .ok (.bipush 8, 2) := by decide +kernel
theorem dX0_init_31 : decode cX0_init 31 = .ok (.newarray .int, 2) := by decide +kernel
theorem dX0_init_33 : decode cX0_init 33 = .ok (.putfield 21, 3) := by decide +kernel
theorem dX0_init_36 : decode cX0_init 36 = .ok (.aload_n 0, 1) := by decide +kernel
theorem dX0_init_37 : decode cX0_init 37 = .ok (.bipush 8, 2) := by decide +kernel
theorem dX0_init_39 : decode cX0_init 39 = .ok (.newarray .int, 2) := by decide +kernel
theorem dX0_init_41 : decode cX0_init 41 = .ok (.putfield 24, 3) := by decide +kernel
theorem dX0_init_44 : decode cX0_init 44 = .ok (.aload_n 0, 1) := by decide +kernel
theorem dX0_init_45 : decode cX0_init 45 = .ok (.iconst 0, 1) := by decide +kernel
theorem dX0_init_46 : decode cX0_init 46 = .ok (.putfield 27, 3) := by decide +kernel
theorem dX0_init_49 : decode cX0_init 49 = .ok (.return_, 1) := by decide +kernel
theorem dX0_isRunning_0 : decode cX0_isRunning 0 = .ok (.iload_n 1, 1) := by decide +kernel
theorem dX0_isRunning_1 : decode cX0_isRunning 1 = .ok (.iconst 0, 1) := by decide +kernel
theorem dX0_isRunning_2 : decode cX0_isRunning 2 = .ok (.bipush 7, 2) := by decide +kernel
theorem dX0_isRunning_4 : decode cX0_isRunning 4 = .ok (.invokestatic 31, 3) := by decide +kernel
theorem dX0_isRunning_7 : decode cX0_isRunning 7 = .ok (.ifCond .eq 27, 3) := by decide +kernel
theorem dX0_isRunning_10 : decode cX0_isRunning 10 = .ok (.aload_n 0, 1) := by decide +kernel
theorem dX0_isRunning_11 : decode cX0_isRunning 11 = .ok (.getfield 21, 3) := by decide +kernel
theorem dX0_isRunning_14 : decode cX0_isRunning 14 = .ok (.iload_n 1, 1) := by decide +kernel
theorem dX0_isRunning_15 : decode cX0_isRunning 15 = .ok (.iaload, 1) := by decide +kernel
theorem dX0_isRunning_16 : decode cX0_isRunning 16 = .ok (.iload_n 2, 1) := by decide +kernel
theorem dX0_isRunning_17 : decode cX0_isRunning 17 = .ok (.if_icmp .gt 17, 3) := by decide +kernel
theorem dX0_isRunning_20 : decode cX0_isRunning 20 = .ok (.iload_n 2, 1) := by decide +kernel
theorem dX0_isRunning_21 : decode cX0_isRunning 21 = .ok (.aload_n 0, 1) := by decide +kernel
theorem dX0_isRunning_22 : decode cX0_isRunning 22 = .ok (.getfield 24, 3) := by decide +kernel
theorem dX0_isRunning_25 : decode cX0_isRunning 25 = .ok (.iload_n 1, 1) := by decide +kernel
theorem dX0_isRunning_26 : decode cX0_isRunning 26 = .ok (.iaload, 1) := by decide +kernel
theorem dX0_isRunning_27 : decode cX0_isRunning 27 = .ok (.if_icmp .ge 7, 3) := by decide +kernel
theorem dX0_isRunning_30 : decode cX0_isRunning 30 = .ok (.iconst 1, 1) := by decide +kernel
theorem dX0_isRunning_31 : decode cX0_isRunning 31 = .ok (.goto 4, 3) := by decide +kernel
theorem dX0_isRunning_34 : decode cX0_isRunning 34 = .ok (.iconst 0, 1) := by decide +kernel
theorem dX0_isRunning_35 : decode cX0_isRunning 35 = .ok (.ireturn, 1) := by decide +kernel
theorem dX0_tellCrosses_0 : decode cX0_tellCrosses 0 = .ok (.iconst 0, 1) := by decide +kernel
theorem dX0_tellCrosses_1 : decode cX0_tellCrosses 1 = .ok (.istore_n 3, 1) := by decide +kernel
theorem dX0_tellCrosses_2 : decode cX0_tellCrosses 2 = .ok (.iload_n 3, 1) := by decide +kernel
theorem dX0_tellCrosses_3 : decode cX0_tellCrosses 3 = .ok (.bipush 8, 2) := by decide +kernel
theorem dX0_tellCrosses_5 : decode cX0_tellCrosses 5 = .ok (.if_icmp .ge 32, 3) := by decide +kernel
theorem dX0_tellCrosses_8 : decode cX0_tellCrosses 8 = .ok (.iload_n 3, 1) := by decide +kernel
theorem dX0_tellCrosses_9 : decode cX0_tellCrosses 9 = .ok (.aload_n 0, 1) := by decide +kernel
theorem dX0_tellCrosses_10 : decode cX0_tellCrosses 10 = .ok (.getfield 27, 3) := by decide +kernel
theorem dX0_tellCrosses_13 : decode cX0_tellCrosses 13 = .ok (.if_icmp .ge 18, 3) := by decide +kernel
theorem dX0_tellCrosses_16 : decode cX0_tellCrosses 16 = .ok (.aload_n 0, 1) := by decide +kernel
theorem dX0_tellCrosses_17 : decode cX0_tellCrosses 17 = .ok (.iload_n 3, 1) := by decide +kernel
theorem dX0_tellCrosses_18 : decode cX0_tellCrosses 18 = .ok (.iload_n 2, 1) := by decide +kernel
theorem dX0_tellCrosses_19 : decode cX0_tellCrosses 19 = .ok (.invokevirtual 41, 3) := by decide +kernel
theorem dX0_tellCrosses_22 : decode cX0_tellCrosses 22 = .ok (.ifCond .eq 9, 3) := by decide +kernel
theorem dX0_tellCrosses_25 : decode cX0_tellCrosses 25 = .ok (.aload_n 0, 1) := by decide +kernel
theorem dX0_tellCrosses_26 : decode cX0_tellCrosses 26 = .ok (.iload_n 3, 1) := by decide +kernel
theorem dX0_tellCrosses_27 : decode cX0_tellCrosses 27 = .ok (.aload_n 1, 1) := by decide +kernel
theorem dX0_tellCrosses_28 : decode cX0_tellCrosses 28 = .ok (.invokevirtual 45, 3) := by decide +kernel
theorem dX0_tellCrosses_31 : decode cX0_tellCrosses 31 = .ok (.iinc 3 1, 3) := by decide +kernel
theorem dX0_tellCrosses_34 : decode cX0_tellCrosses 34 = .ok (.goto (-32), 3) := by decide +kernel
theorem dX0_tellCrosses_37 : decode cX0_tellCrosses 37 = .ok (.return_, 1) := by decide +kernel
theorem dX0_tellCrossesOf_0 : decode cX0_tellCrossesOf 0 = .ok (.iconst 0, 1) := by decide +kernel
theorem dX0_tellCrossesOf_1 : decode cX0_tellCrossesOf 1 = .ok (.istore_n 3, 1) := by decide +kernel
theorem dX0_tellCrossesOf_2 : decode cX0_tellCrossesOf 2 = .ok (.iload_n 3, 1) := by decide +kernel
theorem dX0_tellCrossesOf_3 : decode cX0_tellCrossesOf 3 = .ok (.bipush 12, 2) := by decide +kernel
theorem dX0_tellCrossesOf_5 : decode cX0_tellCrossesOf 5 = .ok (.if_icmp .ge 56, 3) := by decide +kernel
theorem dX0_tellCrossesOf_8 : decode cX0_tellCrossesOf 8 = .ok (.iload_n 3, 1) := by decide +kernel
theorem dX0_tellCrossesOf_9 : decode cX0_tellCrossesOf 9 = .ok (.aload_n 0, 1) := by decide +kernel
theorem dX0_tellCrossesOf_10 : decode cX0_tellCrossesOf 10 = .ok (.getfield 11, 3) := by decide +kernel
theorem dX0_tellCrossesOf_13 : decode cX0_tellCrossesOf 13 = .ok (.iload_n 1, 1) := by decide +kernel
theorem dX0_tellCrossesOf_14 : decode cX0_tellCrossesOf 14 = .ok (.iaload, 1) := by decide +kernel
theorem dX0_tellCrossesOf_15 : decode cX0_tellCrossesOf 15 = .ok (.invokestatic 49, 3) := by decide +kernel
theorem dX0_tellCrossesOf_18 : decode cX0_tellCrossesOf 18 = .ok (.istore 4, 2) := by decide +kernel
theorem dX0_tellCrossesOf_20 : decode cX0_tellCrossesOf 20 = .ok (.iload_n 3, 1) := by decide +kernel
theorem dX0_tellCrossesOf_21 : decode cX0_tellCrossesOf 21 = .ok (.aload_n 0, 1) := by decide +kernel
theorem dX0_tellCrossesOf_22 : decode cX0_tellCrossesOf 22 = .ok (.getfield 15, 3) := by decide +kernel
theorem dX0_tellCrossesOf_25 : decode cX0_tellCrossesOf 25 = .ok (.iload_n 1, 1) := by decide +kernel
theorem dX0_tellCrossesOf_26 : decode cX0_tellCrossesOf 26 = .ok (.iaload, 1) := by decide +kernel
theorem dX0_tellCrossesOf_27 : decode cX0_tellCrossesOf 27 = .ok (.aload_n 0, 1) := by decide +kernel
theorem dX0_tellCrossesOf_28 : decode cX0_tellCrossesOf 28 = .ok (.getfield 18, 3) := by decide +kernel
theorem dX0_tellCrossesOf_31 : decode cX0_tellCrossesOf 31 = .ok (.iload_n 1, 1) := by decide +kernel
theorem dX0_tellCrossesOf_32 : decode cX0_tellCrossesOf 32 = .ok (.iaload, 1) := by decide +kernel
theorem dX0_tellCrossesOf_33 : decode cX0_tellCrossesOf 33 = .ok (.invokestatic 31, 3) := by decide +kernel
theorem dX0_tellCrossesOf_36 : decode cX0_tellCrossesOf 36 = .ok (.ifCond .eq 19, 3) := by decide +kernel
theorem dX0_tellCrossesOf_39 : decode cX0_tellCrossesOf 39 = .ok (.iload 4, 2) := by decide +kernel
theorem dX0_tellCrossesOf_41 : decode cX0_tellCrossesOf 41 = .ok (.iconst 0, 1) := by decide +kernel
theorem dX0_tellCrossesOf_42 : decode cX0_tellCrossesOf 42 = .ok (.bipush 47, 2) := by decide +kernel
theorem dX0_tellCrossesOf_44 : decode cX0_tellCrossesOf 44 = .ok (.invokestatic 31, 3) := by decide +kernel
theorem dX0_tellCrossesOf_47 : decode cX0_tellCrossesOf 47 = .ok (.ifCond .eq 8, 3) := by decide +kernel
theorem dX0_tellCrossesOf_50 : decode cX0_tellCrossesOf 50 = .ok (.aload_n 2, 1) := by decide +kernel
theorem dX0_tellCrossesOf_51 : decode cX0_tellCrossesOf 51 = .ok (.iload 4, 2) := by decide +kernel
theorem dX0_tellCrossesOf_53 : decode cX0_tellCrossesOf 53 = .ok (.iconst 2, 1) := by decide +kernel
theorem dX0_tellCrossesOf_54 : decode cX0_tellCrossesOf 54 = .ok (.iastore, 1) := by decide +kernel
theorem dX0_tellCrossesOf_55 : decode cX0_tellCrossesOf 55 = .ok (.iinc 3 1, 3) := by decide +kernel
theorem dX0_tellCrossesOf_58 : decode cX0_tellCrossesOf 58 = .ok (.goto (-56), 3) := by decide +kernel
theorem dX0_tellCrossesOf_61 : decode cX0_tellCrossesOf 61 = .ok (.return_, 1) := by decide +kernel
theorem dX1_init_0 : decode cX1_init 0 = .ok (.aload_n 0, 1) := by decide +kernel
theorem dX1_init_1 : decode cX1_init 1 = .ok (.invokespecial 3, 3) := by decide +kernel
theorem dX1_init_4 : decode cX1_init 4 = .ok (.aload_n 0, 1) := by decide +kernel
theorem dX1_init_5 : decode cX1_init 5 = .ok (.bipush 12, 2) := by decide +kernel
theorem dX1_init_7 : decode cX1_init 7 = .ok (.newarray .int, 2) := by decide +kernel
theorem dX1_init_9 : decode cX1_init 9 = .ok (.putfield 9, 3) := by decide +kernel
theorem dX1_init_12 : decode cX1_init 12 = .ok (.aload_n 0, 1) := by decide +kernel
theorem dX1_init_13 : decode cX1_init 13 = .ok (.bipush 12, 2) := by decide +kernel
theorem dX1_init_15 : decode cX1_init 15 = .ok (.newarray .int, 2) := by decide +kernel
theorem dX1_init_17 : decode cX1_init 17 = .ok (.putfield 15, 3) := by decide +kernel
theorem dX1_init_20 : decode cX1_init 20 = .ok (.return_, 1) := by decide +kernel
theorem dX1_guessAt_0 : decode cX1_guessAt 0 = .ok (.iconst 0, 1) := by decide +kernel
theorem dX1_guessAt_1 : decode cX1_guessAt 1 = .ok (.istore_n 3, 1) := by decide +kernel
theorem dX1_guessAt_2 : decode cX1_guessAt 2 = .ok (.iconst 0, 1) := by decide +kernel
theorem dX1_guessAt_3 : decode cX1_guessAt 3 = .ok (.istore 4, 2) := by decide +kernel
theorem dX1_guessAt_5 : decode cX1_guessAt 5 = .ok (.iconst 0, 1) := by decide +kernel
theorem dX1_guessAt_6 : decode cX1_guessAt 6 = .ok (.istore 5, 2) := by decide +kernel
theorem dX1_guessAt_8 : decode cX1_guessAt 8 = .ok (.iload 5, 2) := by decide +kernel
theorem dX1_guessAt_10 : decode cX1_guessAt 10 = .ok (.bipush 12, 2) := by decide +kernel
theorem dX1_guessAt_12 : decode cX1_guessAt 12 = .ok (.if_icmp .ge 47, 3) := by decide +kernel
theorem dX1_guessAt_15 : decode cX1_guessAt 15 = .ok (.iload 5, 2) := by decide +kernel
theorem dX1_guessAt_17 : decode cX1_guessAt 17 = .ok (.iload_n 1, 1) := by decide +kernel
theorem dX1_guessAt_18 : decode cX1_guessAt 18 = .ok (.iconst 1, 1) := by decide +kernel
theorem dX1_guessAt_19 : decode cX1_guessAt 19 = .ok (.isub, 1) := by decide +kernel
theorem dX1_guessAt_20 : decode cX1_guessAt 20 = .ok (.if_icmp .eq 11, 3) := by decide +kernel
theorem dX1_guessAt_23 : decode cX1_guessAt 23 = .ok (.iload 5, 2) := by decide +kernel
theorem dX1_guessAt_25 : decode cX1_guessAt 25 = .ok (.iload_n 1, 1) := by decide +kernel
theorem dX1_guessAt_26 : decode cX1_guessAt 26 = .ok (.iconst 1, 1) := by decide +kernel
theorem dX1_guessAt_27 : decode cX1_guessAt 27 = .ok (.iadd, 1) := by decide +kernel
theorem dX1_guessAt_28 : decode cX1_guessAt 28 = .ok (.if_icmp .ne 25, 3) := by decide +kernel
theorem dX1_guessAt_31 : decode cX1_guessAt 31 = .ok (.aload_n 0, 1) := by decide +kernel
theorem dX1_guessAt_32 : decode cX1_guessAt 32 = .ok (.getfield 9, 3) := by decide +kernel
theorem dX1_guessAt_35 : decode cX1_guessAt 35 = .ok (.iload 5, 2) := by decide +kernel
theorem dX1_guessAt_37 : decode cX1_guessAt 37 = .ok (.iaload, 1) := by decide +kernel
theorem dX1_guessAt_38 : decode cX1_guessAt 38 = .ok (.ifCond .ne 15, 3) := by decide +kernel
theorem dX1_guessAt_41 : decode cX1_guessAt 41 = .ok (.iload_n 3, 1) := by decide +kernel
theorem dX1_guessAt_42 : decode cX1_guessAt 42 = .ok (.aload_n 2, 1) := by decide +kernel
theorem dX1_guessAt_43 : decode cX1_guessAt 43 = .ok (.iload 5, 2) := by decide +kernel
theorem dX1_guessAt_45 : decode cX1_guessAt 45 = .ok (.invokevirtual 18, 3) := by decide +kernel
theorem dX1_guessAt_48 : decode cX1_guessAt 48 = .ok (.iadd, 1) := by decide +kernel
theorem dX1_guessAt_49 : decode cX1_guessAt 49 = .ok (.istore_n 3, 1) := by decide +kernel
theorem dX1_guessAt_50 : decode cX1_guessAt 50 = .ok (.iinc 4 1, 3) := by decide +kernel
theorem dX1_guessAt_53 : decode cX1_guessAt 53 = .ok (.iinc 5 1, 3) := by decide +kernel
theorem dX1_guessAt_56 : decode cX1_guessAt 56 = .ok (.goto (-48), 3) := by decide +kernel
theorem dX1_guessAt_59 : decode cX1_guessAt 59 = .ok (.iload 4, 2) := by decide +kernel
theorem dX1_guessAt_61 : decode cX1_guessAt 61 = .ok (.ifCond .ne 7, 3) := by decide +kernel
theorem dX1_guessAt_64 : decode cX1_guessAt 64 = .ok (.iconst (-1), 1) := by decide +kernel
theorem dX1_guessAt_65 : decode cX1_guessAt 65 = .ok (.goto 7, 3) := by decide +kernel
theorem dX1_guessAt_68 : decode cX1_guessAt 68 = .ok (.iload_n 3, 1) := by decide +kernel
theorem dX1_guessAt_69 : decode cX1_guessAt 69 = .ok (.iload 4, 2) := by decide +kernel
theorem dX1_guessAt_71 : decode cX1_guessAt 71 = .ok (.idiv, 1) := by decide +kernel
theorem dX1_guessAt_72 : decode cX1_guessAt 72 = .ok (.ireturn, 1) := by decide +kernel
theorem dX1_beliefAt_0 : decode cX1_beliefAt 0 = .ok (.iload_n 1, 1) := by decide +kernel
theorem dX1_beliefAt_1 : decode cX1_beliefAt 1 = .ok (.iconst 0, 1) := by decide +kernel
theorem dX1_beliefAt_2 : decode cX1_beliefAt 2 = .ok (.bipush 11, 2) := by decide +kernel
theorem dX1_beliefAt_4 : decode cX1_beliefAt 4 = .ok (.invokestatic 24, 3) := by decide +kernel
theorem dX1_beliefAt_7 : decode cX1_beliefAt 7 = .ok (.ifCond .ne 5, 3) := by decide +kernel
theorem dX1_beliefAt_10 : decode cX1_beliefAt 10 = .ok (.iconst (-1), 1) := by decide +kernel
theorem dX1_beliefAt_11 : decode cX1_beliefAt 11 = .ok (.ireturn, 1) := by decide +kernel
theorem dX1_beliefAt_12 : decode cX1_beliefAt 12 = .ok (.aload_n 0, 1) := by decide +kernel
theorem dX1_beliefAt_13 : decode cX1_beliefAt 13 = .ok (.getfield 9, 3) := by decide +kernel
theorem dX1_beliefAt_16 : decode cX1_beliefAt 16 = .ok (.iload_n 1, 1) := by decide +kernel
theorem dX1_beliefAt_17 : decode cX1_beliefAt 17 = .ok (.iaload, 1) := by decide +kernel
theorem dX1_beliefAt_18 : decode cX1_beliefAt 18 = .ok (.ifCond .ne 9, 3) := by decide +kernel
theorem dX1_beliefAt_21 : decode cX1_beliefAt 21 = .ok (.aload_n 2, 1) := by decide +kernel
theorem dX1_beliefAt_22 : decode cX1_beliefAt 22 = .ok (.iload_n 1, 1) := by decide +kernel
theorem dX1_beliefAt_23 : decode cX1_beliefAt 23 = .ok (.invokevirtual 18, 3) := by decide +kernel
theorem dX1_beliefAt_26 : decode cX1_beliefAt 26 = .ok (.ireturn, 1) := by decide +kernel
theorem dX1_beliefAt_27 : decode cX1_beliefAt 27 = .ok (.aload_n 0, 1) := by decide +kernel
theorem dX1_beliefAt_28 : decode cX1_beliefAt 28 = .ok (.iload_n 1, 1) := by decide +kernel
theorem dX1_beliefAt_29 : decode cX1_beliefAt 29 = .ok (.aload_n 2, 1) := by decide +kernel
theorem dX1_beliefAt_30 : decode cX1_beliefAt 30 = .ok (.invokevirtual 28, 3) := by decide +kernel
theorem dX1_beliefAt_33 : decode cX1_beliefAt 33 = .ok (.istore_n 3, 1) := by decide +kernel
theorem dX1_beliefAt_34 : decode cX1_beliefAt 34 = .ok (.aload_n 0, 1) := by decide +kernel
theorem dX1_beliefAt_35 : decode cX1_beliefAt 35 = .ok (.getfield 9, 3) := by decide +kernel
theorem dX1_beliefAt_38 : decode cX1_beliefAt 38 = .ok (.iload_n 1, 1) := by decide +kernel
theorem dX1_beliefAt_39 : decode cX1_beliefAt 39 = .ok (.iaload, 1) := by decide +kernel
theorem dX1_beliefAt_40 : decode cX1_beliefAt 40 = .ok (.iconst 2, 1) := by decide +kernel
theorem dX1_beliefAt_41 : decode cX1_beliefAt 41 = .ok (.if_icmp .ne 5, 3) := by decide +kernel
theorem dX1_beliefAt_44 : decode cX1_beliefAt 44 = .ok (.iload_n 3, 1) := by decide +kernel
theorem dX1_beliefAt_45 : decode cX1_beliefAt 45 = .ok (.ireturn, 1) := by decide +kernel
theorem dX1_beliefAt_46 : decode cX1_beliefAt 46 = .ok (.aload_n 0, 1) := by decide +kernel
theorem dX1_beliefAt_47 : decode cX1_beliefAt 47 = .ok (.getfield 15, 3) := by decide +kernel
theorem dX1_beliefAt_50 : decode cX1_beliefAt 50 = .ok (.iload_n 1, 1) := by decide +kernel
theorem dX1_beliefAt_51 : decode cX1_beliefAt 51 = .ok (.iaload, 1) := by decide +kernel
theorem dX1_beliefAt_52 : decode cX1_beliefAt 52 = .ok (.istore 4, 2) := by decide +kernel
theorem dX1_beliefAt_54 : decode cX1_beliefAt 54 = .ok (.iload_n 3, 1) := by decide +kernel
theorem dX1_beliefAt_55 : decode cX1_beliefAt 55 = .ok (.iconst (-1), 1) := by decide +kernel
theorem dX1_beliefAt_56 : decode cX1_beliefAt 56 = .ok (.if_icmp .eq 19, 3) := by decide +kernel
theorem dX1_beliefAt_59 : decode cX1_beliefAt 59 = .ok (.iload_n 3, 1) := by decide +kernel
theorem dX1_beliefAt_60 : decode cX1_beliefAt 60 = .ok (.iload 4, 2) := by decide +kernel
theorem dX1_beliefAt_62 : decode cX1_beliefAt 62 = .ok (.isub, 1) := by decide +kernel
theorem dX1_beliefAt_63 : decode cX1_beliefAt 63 = .ok (.invokestatic 32, 3) := by decide +kernel
theorem dX1_beliefAt_66 : decode cX1_beliefAt 66 = .ok (.bipush 30, 2) := by decide +kernel
theorem dX1_beliefAt_68 : decode cX1_beliefAt 68 = .ok (.if_icmp .le 7, 3) := by decide +kernel
theorem dX1_beliefAt_71 : decode cX1_beliefAt 71 = .ok (.iload_n 3, 1) := by decide +kernel
theorem dX1_beliefAt_72 : decode cX1_beliefAt 72 = .ok (.goto 5, 3) := by decide +kernel
theorem dX1_beliefAt_75 : decode cX1_beliefAt 75 = .ok (.iload 4, 2) := by decide +kernel
theorem dX1_beliefAt_77 : decode cX1_beliefAt 77 = .ok (.ireturn, 1) := by decide +kernel
theorem dX2_init_0 : decode cX2_init 0 = .ok (.aload_n 0, 1) := by decide +kernel
theorem dX2_init_1 : decode cX2_init 1 = .ok (.invokespecial 3, 3) := by decide +kernel
theorem dX2_init_4 : decode cX2_init 4 = .ok (.aload_n 0, 1) := by decide +kernel
theorem dX2_init_5 : decode cX2_init 5 = .ok (.bipush 12, 2) := by decide +kernel
theorem dX2_init_7 : decode cX2_init 7 = .ok (.newarray .int, 2) := by decide +kernel
theorem dX2_init_9 : decode cX2_init 9 = .ok (.putfield 11, 3) := by decide +kernel
theorem dX2_init_12 : decode cX2_init 12 = .ok (.aload_n 0, 1) := by decide +kernel
theorem dX2_init_13 : decode cX2_init 13 = .ok (.bipush 12, 2) := by decide +kernel
theorem dX2_init_15 : decode cX2_init 15 = .ok (.newarray .int, 2) := by decide +kernel
theorem dX2_init_17 : decode cX2_init 17 = .ok (.putfield 15, 3) := by decide +kernel
theorem dX2_init_20 : decode cX2_init 20 = .ok (.aload_n 0, 1) := by decide +kernel
theorem dX2_init_21 : decode cX2_init 21 = .ok (.bipush 12, 2) := by decide +kernel
theorem dX2_init_23 : decode cX2_init 23 = .ok (.newarray .int, 2) := by decide +kernel
theorem dX2_init_25 : decode cX2_init 25 = .ok (.putfield 18, 3) := by decide +kernel
theorem dX2_init_28 : decode cX2_init 28 = .ok (.aload_n 0, 1) := by decide +kernel
theorem dX2_init_29 : decode cX2_init 29 = .ok (.iconst 0, 1) := by decide +kernel
theorem dX2_init_30 : decode cX2_init 30 = .ok (.putfield 21, 3) := by decide +kernel
theorem dX2_init_33 : decode cX2_init 33 = .ok (.return_, 1) := by decide +kernel
theorem dX2_tellCrosses_0 : decode cX2_tellCrosses 0 = .ok (.iconst 0, 1) := by decide +kernel
theorem dX2_tellCrosses_1 : decode cX2_tellCrosses 1 = .ok (.istore_n 2, 1) := by decide +kernel
theorem dX2_tellCrosses_2 : decode cX2_tellCrosses 2 = .ok (.iload_n 2, 1) := by decide +kernel
theorem dX2_tellCrosses_3 : decode cX2_tellCrosses 3 = .ok (.bipush 12, 2) := by decide +kernel
theorem dX2_tellCrosses_5 : decode cX2_tellCrosses 5 = .ok (.if_icmp .ge 51, 3) := by decide +kernel
theorem dX2_tellCrosses_8 : decode cX2_tellCrosses 8 = .ok (.iload_n 2, 1) := by decide +kernel
theorem dX2_tellCrosses_9 : decode cX2_tellCrosses 9 = .ok (.aload_n 0, 1) := by decide +kernel
theorem dX2_tellCrosses_10 : decode cX2_tellCrosses 10 = .ok (.getfield 21, 3) := by decide +kernel
theorem dX2_tellCrosses_13 : decode cX2_tellCrosses 13 = .ok (.if_icmp .ge 37, 3) := by decide +kernel
theorem dX2_tellCrosses_16 : decode cX2_tellCrosses 16 = .ok (.aload_n 0, 1) := by decide +kernel
theorem dX2_tellCrosses_17 : decode cX2_tellCrosses 17 = .ok (.getfield 15, 3) := by decide +kernel
theorem dX2_tellCrosses_20 : decode cX2_tellCrosses 20 = .ok (.iload_n 2, 1) := by decide +kernel
theorem dX2_tellCrosses_21 : decode cX2_tellCrosses 21 = .ok (.iaload, 1) := by decide +kernel
theorem dX2_tellCrosses_22 : decode cX2_tellCrosses 22 = .ok (.iconst 1, 1) := by decide +kernel
theorem dX2_tellCrosses_23 : decode cX2_tellCrosses 23 = .ok (.if_icmp .ne 27, 3) := by decide +kernel
theorem dX2_tellCrosses_26 : decode cX2_tellCrosses 26 = .ok (.aload_n 0, 1) := by decide +kernel
theorem dX2_tellCrosses_27 : decode cX2_tellCrosses 27 = .ok (.getfield 11, 3) := by decide +kernel
theorem dX2_tellCrosses_30 : decode cX2_tellCrosses 30 = .ok (.iload_n 2, 1) := by decide +kernel
theorem dX2_tellCrosses_31 : decode cX2_tellCrosses 31 = .ok (.iaload, 1) := by decide +kernel
theorem dX2_tellCrosses_32 : decode cX2_tellCrosses 32 = .ok (.iconst 0, 1) := by decide +kernel
theorem dX2_tellCrosses_33 : decode cX2_tellCrosses 33 = .ok (.bipush 47, 2) := by decide +kernel
theorem dX2_tellCrosses_35 : decode cX2_tellCrosses 35 = .ok (.invokestatic 25, 3) := by decide +kernel
theorem dX2_tellCrosses_38 : decode cX2_tellCrosses 38 = .ok (.ifCond .eq 12, 3) := by decide +kernel
theorem dX2_tellCrosses_41 : decode cX2_tellCrosses 41 = .ok (.aload_n 1, 1) := by decide +kernel
theorem dX2_tellCrosses_42 : decode cX2_tellCrosses 42 = .ok (.aload_n 0, 1) := by decide +kernel
theorem dX2_tellCrosses_43 : decode cX2_tellCrosses 43 = .ok (.getfield 11, 3) := by decide +kernel
theorem dX2_tellCrosses_46 : decode cX2_tellCrosses 46 = .ok (.iload_n 2, 1) := by decide +kernel
theorem dX2_tellCrosses_47 : decode cX2_tellCrosses 47 = .ok (.iaload, 1) := by decide +kernel
theorem dX2_tellCrosses_48 : decode cX2_tellCrosses 48 = .ok (.iconst 2, 1) := by decide +kernel
theorem dX2_tellCrosses_49 : decode cX2_tellCrosses 49 = .ok (.iastore, 1) := by decide +kernel
theorem dX2_tellCrosses_50 : decode cX2_tellCrosses 50 = .ok (.iinc 2 1, 3) := by decide +kernel
theorem dX2_tellCrosses_53 : decode cX2_tellCrosses 53 = .ok (.goto (-51), 3) := by decide +kernel
theorem dX2_tellCrosses_56 : decode cX2_tellCrosses 56 = .ok (.return_, 1) := by decide +kernel
theorem dX3_init_0 : decode cX3_init 0 = .ok (.aload_n 0, 1) := by decide +kernel
theorem dX3_init_1 : decode cX3_init 1 = .ok (.invokespecial 3, 3) := by decide +kernel
theorem dX3_init_4 : decode cX3_init 4 = .ok (.aload_n 0, 1) := by decide +kernel
theorem dX3_init_5 : decode cX3_init 5 = .ok (.bipush 48, 2) := by decide +kernel
theorem dX3_init_7 : decode cX3_init 7 = .ok (.newarray .int, 2) := by decide +kernel
theorem dX3_init_9 : decode cX3_init 9 = .ok (.putfield 9, 3) := by decide +kernel
theorem dX3_init_12 : decode cX3_init 12 = .ok (.aload_n 0, 1) := by decide +kernel
theorem dX3_init_13 : decode cX3_init 13 = .ok (.bipush 48, 2) := by decide +kernel
theorem dX3_init_15 : decode cX3_init 15 = .ok (.newarray .int, 2) := by decide +kernel
theorem dX3_init_17 : decode cX3_init 17 = .ok (.putfield 15, 3) := by decide +kernel
theorem dX3_init_20 : decode cX3_init 20 = .ok (.aload_n 0, 1) := by decide +kernel
theorem dX3_init_21 : decode cX3_init 21 = .ok (.bipush 48, 2) := by decide +kernel
theorem dX3_init_23 : decode cX3_init 23 = .ok (.newarray .int, 2) := by decide +kernel
theorem dX3_init_25 : decode cX3_init 25 = .ok (.putfield 18, 3) := by decide +kernel
theorem dX3_init_28 : decode cX3_init 28 = .ok (.iconst 0, 1) := by decide +kernel
theorem dX3_init_29 : decode cX3_init 29 = .ok (.istore_n 1, 1) := by decide +kernel
theorem dX3_init_30 : decode cX3_init 30 = .ok (.iload_n 1, 1) := by decide +kernel
theorem dX3_init_31 : decode cX3_init 31 = .ok (.bipush 48, 2) := by decide +kernel
theorem dX3_init_33 : decode cX3_init 33 = .ok (.if_icmp .ge 16, 3) := by decide +kernel
theorem dX3_init_36 : decode cX3_init 36 = .ok (.aload_n 0, 1) := by decide +kernel
theorem dX3_init_37 : decode cX3_init 37 = .ok (.getfield 9, 3) := by decide +kernel
theorem dX3_init_40 : decode cX3_init 40 = .ok (.iload_n 1, 1) := by decide +kernel
theorem dX3_init_41 : decode cX3_init 41 = .ok (.iconst (-1), 1) := by decide +kernel
theorem dX3_init_42 : decode cX3_init 42 = .ok (.iastore, 1) := by decide +kernel
theorem dX3_init_43 : decode cX3_init 43 = .ok (.iinc 1 1, 3) := by decide +kernel
theorem dX3_init_46 : decode cX3_init 46 = .ok (.goto (-16), 3) := by decide +kernel
theorem dX3_init_49 : decode cX3_init 49 = .ok (.return_, 1) := by decide +kernel
theorem dX3_setAnew_0 : decode cX3_setAnew 0 = .ok (.iconst 0, 1) := by decide +kernel
theorem dX3_setAnew_1 : decode cX3_setAnew 1 = .ok (.istore 5, 2) := by decide +kernel
theorem dX3_setAnew_3 : decode cX3_setAnew 3 = .ok (.iload 5, 2) := by decide +kernel
theorem dX3_setAnew_5 : decode cX3_setAnew 5 = .ok (.bipush 48, 2) := by decide +kernel
theorem dX3_setAnew_7 : decode cX3_setAnew 7 = .ok (.if_icmp .ge 17, 3) := by decide +kernel
theorem dX3_setAnew_10 : decode cX3_setAnew 10 = .ok (.aload_n 0, 1) := by decide +kernel
theorem dX3_setAnew_11 : decode cX3_setAnew 11 = .ok (.getfield 15, 3) := by decide +kernel
theorem dX3_setAnew_14 : decode cX3_setAnew 14 = .ok (.iload 5, 2) := by decide +kernel
theorem dX3_setAnew_16 : decode cX3_setAnew 16 = .ok (.iconst 0, 1) := by decide +kernel
theorem dX3_setAnew_17 : decode cX3_setAnew 17 = .ok (.iastore, 1) := by decide +kernel
theorem dX3_setAnew_18 : decode cX3_setAnew 18 = .ok (.iinc 5 1, 3) := by decide +kernel
theorem dX3_setAnew_21 : decode cX3_setAnew 21 = .ok (.goto (-18), 3) := by decide +kernel
theorem dX3_setAnew_24 : decode cX3_setAnew 24 = .ok (.aload_n 2, 1) := by decide +kernel
theorem dX3_setAnew_25 : decode cX3_setAnew 25 = .ok (.aload_n 0, 1) := by decide +kernel
theorem dX3_setAnew_26 : decode cX3_setAnew 26 = .ok (.getfield 15, 3) := by decide +kernel
theorem dX3_setAnew_29 : decode cX3_setAnew 29 = .ok (.invokevirtual 21, 3) := by decide +kernel
theorem dX3_setAnew_32 : decode cX3_setAnew 32 = .ok (.aload_n 3, 1) := by decide +kernel
theorem dX3_setAnew_33 : decode cX3_setAnew 33 = .ok (.aload_n 0, 1) := by decide +kernel
theorem dX3_setAnew_34 : decode cX3_setAnew 34 = .ok (.getfield 15, 3) := by decide +kernel
theorem dX3_setAnew_37 : decode cX3_setAnew 37 = .ok (.invokevirtual 27, 3) := by decide +kernel
theorem dX3_setAnew_40 : decode cX3_setAnew 40 = .ok (.aload 4, 2) := by decide +kernel
theorem dX3_setAnew_42 : decode cX3_setAnew 42 = .ok (.aload_n 0, 1) := by decide +kernel
theorem dX3_setAnew_43 : decode cX3_setAnew 43 = .ok (.getfield 15, 3) := by decide +kernel
theorem dX3_setAnew_46 : decode cX3_setAnew 46 = .ok (.iload_n 1, 1) := by decide +kernel
theorem dX3_setAnew_47 : decode cX3_setAnew 47 = .ok (.invokevirtual 30, 3) := by decide +kernel
theorem dX3_setAnew_50 : decode cX3_setAnew 50 = .ok (.iconst 0, 1) := by decide +kernel
theorem dX3_setAnew_51 : decode cX3_setAnew 51 = .ok (.istore 5, 2) := by decide +kernel
theorem dX3_setAnew_53 : decode cX3_setAnew 53 = .ok (.iload 5, 2) := by decide +kernel
theorem dX3_setAnew_55 : decode cX3_setAnew 55 = .ok (.bipush 48, 2) := by decide +kernel
theorem dX3_setAnew_57 : decode cX3_setAnew 57 = .ok (.if_icmp .ge 34, 3) := by decide +kernel
theorem dX3_setAnew_60 : decode cX3_setAnew 60 = .ok (.aload_n 0, 1) := by decide +kernel
theorem dX3_setAnew_61 : decode cX3_setAnew 61 = .ok (.getfield 9, 3) := by decide +kernel
theorem dX3_setAnew_64 : decode cX3_setAnew 64 = .ok (.iload 5, 2) := by decide +kernel
theorem dX3_setAnew_66 : decode cX3_setAnew 66 = .ok (.iaload, 1) := by decide +kernel
theorem dX3_setAnew_67 : decode cX3_setAnew 67 = .ok (.iconst (-1), 1) := by decide +kernel
theorem dX3_setAnew_68 : decode cX3_setAnew 68 = .ok (.if_icmp .eq 17, 3) := by decide +kernel
theorem dX3_setAnew_71 : decode cX3_setAnew 71 = .ok (.aload_n 0, 1) := by decide +kernel
theorem dX3_setAnew_72 : decode cX3_setAnew 72 = .ok (.getfield 15, 3) := by decide +kernel
theorem dX3_setAnew_75 : decode cX3_setAnew 75 = .ok (.iload 5, 2) := by decide +kernel
theorem dX3_setAnew_77 : decode cX3_setAnew 77 = .ok (.aload_n 0, 1) := by decide +kernel
theorem dX3_setAnew_78 : decode cX3_setAnew 78 = .ok (.getfield 9, 3) := by decide +kernel
theorem dX3_setAnew_81 : decode cX3_setAnew 81 = .ok (.iload 5, 2) := by decide +kernel
theorem dX3_setAnew_83 : decode cX3_setAnew 83 = .ok (.iaload, 1) := by decide +kernel
theorem dX3_setAnew_84 : decode cX3_setAnew 84 = .ok (.iastore, 1) := by decide +kernel
theorem dX3_setAnew_85 : decode cX3_setAnew 85 = .ok (.iinc 5 1, 3) := by decide +kernel
theorem dX3_setAnew_88 : decode cX3_setAnew 88 = .ok (.goto (-35), 3) := by decide +kernel
theorem dX3_setAnew_91 : decode cX3_setAnew 91 = .ok (.iconst 0, 1) := by decide +kernel
theorem dX3_setAnew_92 : decode cX3_setAnew 92 = .ok (.istore 5, 2) := by decide +kernel
theorem dX3_setAnew_94 : decode cX3_setAnew 94 = .ok (.iload 5, 2) := by decide +kernel
theorem dX3_setAnew_96 : decode cX3_setAnew 96 = .ok (.bipush 48, 2) := by decide +kernel
theorem dX3_setAnew_98 : decode cX3_setAnew 98 = .ok (.if_icmp .ge 49, 3) := by decide +kernel
theorem dX3_setAnew_101 : decode cX3_setAnew 101 = .ok (.aload_n 0, 1) := by decide +kernel
theorem dX3_setAnew_102 : decode cX3_setAnew 102 = .ok (.getfield 18, 3) := by decide +kernel
theorem dX3_setAnew_105 : decode cX3_setAnew 105 = .ok (.iload 5, 2) := by decide +kernel
theorem dX3_setAnew_107 : decode cX3_setAnew 107 = .ok (.aload_n 0, 1) := by decide +kernel
theorem dX3_setAnew_108 : decode cX3_setAnew 108 = .ok (.getfield 15, 3) := by decide +kernel
theorem dX3_setAnew_111 : decode cX3_setAnew 111 = .ok (.iload 5, 2) := by decide +kernel
theorem dX3_setAnew_113 : decode cX3_setAnew 113 = .ok (.iaload, 1) := by decide +kernel
theorem dX3_setAnew_114 : decode cX3_setAnew 114 = .ok (.ifCond .ne 19, 3) := by decide +kernel
theorem dX3_setAnew_117 : decode cX3_setAnew 117 = .ok (.iload 5, 2) := by decide +kernel
theorem dX3_setAnew_119 : decode cX3_setAnew 119 = .ok (.aload_n 0, 1) := by decide +kernel
theorem dX3_setAnew_120 : decode cX3_setAnew 120 = .ok (.getfield 15, 3) := by decide +kernel
theorem dX3_setAnew_123 : decode cX3_setAnew 123 = .ok (.invokestatic 35, 3) := by decide +kernel
theorem dX3_setAnew_126 : decode cX3_setAnew 126 = .ok (.ifCond .eq 7, 3) := by decide +kernel
theorem dX3_setAnew_129 : decode cX3_setAnew 129 = .ok (.iconst 1, 1) := by decide +kernel
theorem dX3_setAnew_130 : decode cX3_setAnew 130 = .ok (.goto 10, 3) := by decide +kernel
theorem dX3_setAnew_133 : decode cX3_setAnew 133 = .ok (.aload_n 0, 1) := by decide +kernel
theorem dX3_setAnew_134 : decode cX3_setAnew 134 = .ok (.getfield 15, 3) := by decide +kernel
theorem dX3_setAnew_137 : decode cX3_setAnew 137 = .ok (.iload 5, 2) := by decide +kernel
theorem dX3_setAnew_139 : decode cX3_setAnew 139 = .ok (.iaload, 1) := by decide +kernel
theorem dX3_setAnew_140 : decode cX3_setAnew 140 = .ok (.iastore, 1) := by decide +kernel
theorem dX3_setAnew_141 : decode cX3_setAnew 141 = .ok (.iinc 5 1, 3) := by decide +kernel
theorem dX3_setAnew_144 : decode cX3_setAnew 144 = .ok (.goto (-50), 3) := by decide +kernel
theorem dX3_setAnew_147 : decode cX3_setAnew 147 = .ok (.return_, 1) := by decide +kernel
theorem dX3_areLawful_0 : decode cX3_areLawful 0 = .ok (.iconst 0, 1) := by decide +kernel
theorem dX3_areLawful_1 : decode cX3_areLawful 1 = .ok (.istore_n 1, 1) := by decide +kernel
theorem dX3_areLawful_2 : decode cX3_areLawful 2 = .ok (.iload_n 1, 1) := by decide +kernel
theorem dX3_areLawful_3 : decode cX3_areLawful 3 = .ok (.bipush 48, 2) := by decide +kernel
theorem dX3_areLawful_5 : decode cX3_areLawful 5 = .ok (.if_icmp .ge 31, 3) := by decide +kernel
theorem dX3_areLawful_8 : decode cX3_areLawful 8 = .ok (.aload_n 0, 1) := by decide +kernel
theorem dX3_areLawful_9 : decode cX3_areLawful 9 = .ok (.getfield 18, 3) := by decide +kernel
theorem dX3_areLawful_12 : decode cX3_areLawful 12 = .ok (.iload_n 1, 1) := by decide +kernel
theorem dX3_areLawful_13 : decode cX3_areLawful 13 = .ok (.iaload, 1) := by decide +kernel
theorem dX3_areLawful_14 : decode cX3_areLawful 14 = .ok (.ifCond .ne 16, 3) := by decide +kernel
theorem dX3_areLawful_17 : decode cX3_areLawful 17 = .ok (.iload_n 1, 1) := by decide +kernel
theorem dX3_areLawful_18 : decode cX3_areLawful 18 = .ok (.aload_n 0, 1) := by decide +kernel
theorem dX3_areLawful_19 : decode cX3_areLawful 19 = .ok (.getfield 18, 3) := by decide +kernel
theorem dX3_areLawful_22 : decode cX3_areLawful 22 = .ok (.invokestatic 35, 3) := by decide +kernel
theorem dX3_areLawful_25 : decode cX3_areLawful 25 = .ok (.ifCond .eq 5, 3) := by decide +kernel
theorem dX3_areLawful_28 : decode cX3_areLawful 28 = .ok (.iconst 0, 1) := by decide +kernel
theorem dX3_areLawful_29 : decode cX3_areLawful 29 = .ok (.ireturn, 1) := by decide +kernel
theorem dX3_areLawful_30 : decode cX3_areLawful 30 = .ok (.iinc 1 1, 3) := by decide +kernel
theorem dX3_areLawful_33 : decode cX3_areLawful 33 = .ok (.goto (-31), 3) := by decide +kernel
theorem dX3_areLawful_36 : decode cX3_areLawful 36 = .ok (.iconst 1, 1) := by decide +kernel
theorem dX3_areLawful_37 : decode cX3_areLawful 37 = .ok (.ireturn, 1) := by decide +kernel
theorem dX3_isAheadOfCross_0 : decode cX3_isAheadOfCross 0 = .ok (.iload_n 0, 1) := by decide +kernel
theorem dX3_isAheadOfCross_1 : decode cX3_isAheadOfCross 1 = .ok (.iconst 4, 1) := by decide +kernel
theorem dX3_isAheadOfCross_2 : decode cX3_isAheadOfCross 2 = .ok (.iadd, 1) := by decide +kernel
theorem dX3_isAheadOfCross_3 : decode cX3_isAheadOfCross 3 = .ok (.istore_n 2, 1) := by decide +kernel
theorem dX3_isAheadOfCross_4 : decode cX3_isAheadOfCross 4 = .ok (.iload_n 2, 1) := by decide +kernel
theorem dX3_isAheadOfCross_5 : decode cX3_isAheadOfCross 5 = .ok (.iconst 0, 1) := by decide +kernel
theorem dX3_isAheadOfCross_6 : decode cX3_isAheadOfCross 6 = .ok (.bipush 47, 2) := by decide +kernel
theorem dX3_isAheadOfCross_8 : decode cX3_isAheadOfCross 8 = .ok (.invokestatic 39, 3) := by decide +kernel
theorem dX3_isAheadOfCross_11 : decode cX3_isAheadOfCross 11 = .ok (.ifCond .eq 14, 3) := by decide +kernel
theorem dX3_isAheadOfCross_14 : decode cX3_isAheadOfCross 14 = .ok (.aload_n 1, 1) := by decide +kernel
theorem dX3_isAheadOfCross_15 : decode cX3_isAheadOfCross 15 = .ok (.iload_n 2, 1) := by decide +kernel
theorem dX3_isAheadOfCross_16 : decode cX3_isAheadOfCross 16 = .ok (.iaload, 1) := by decide +kernel
theorem dX3_isAheadOfCross_17 : decode cX3_isAheadOfCross 17 = .ok (.iconst 2, 1) := by decide +kernel
theorem dX3_isAheadOfCross_18 : decode cX3_isAheadOfCross 18 = .ok (.if_icmp .ne 7, 3) := by decide +kernel
theorem dX3_isAheadOfCross_21 : decode cX3_isAheadOfCross 21 = .ok (.iconst 1, 1) := by decide +kernel
theorem dX3_isAheadOfCross_22 : decode cX3_isAheadOfCross 22 = .ok (.goto 4, 3) := by decide +kernel
theorem dX3_isAheadOfCross_25 : decode cX3_isAheadOfCross 25 = .ok (.iconst 0, 1) := by decide +kernel
theorem dX3_isAheadOfCross_26 : decode cX3_isAheadOfCross 26 = .ok (.ireturn, 1) := by decide +kernel
theorem dX4_init_0 : decode cX4_init 0 = .ok (.aload_n 0, 1) := by decide +kernel
theorem dX4_init_1 : decode cX4_init 1 = .ok (.invokespecial 3, 3) := by decide +kernel
theorem dX4_init_4 : decode cX4_init 4 = .ok (.aload_n 0, 1) := by decide +kernel
theorem dX4_init_5 : decode cX4_init 5 = .ok (.iconst 3, 1) := by decide +kernel
theorem dX4_init_6 : decode cX4_init 6 = .ok (.newarray .int, 2) := by decide +kernel
theorem dX4_init_8 : decode cX4_init 8 = .ok (.putfield 11, 3) := by decide +kernel
theorem dX4_init_11 : decode cX4_init 11 = .ok (.aload_n 0, 1) := by decide +kernel
theorem dX4_init_12 : decode cX4_init 12 = .ok (.iconst 3, 1) := by decide +kernel
theorem dX4_init_13 : decode cX4_init 13 = .ok (.newarray .int, 2) := by decide +kernel
theorem dX4_init_15 : decode cX4_init 15 = .ok (.dup, 1) := by decide +kernel
theorem dX4_init_16 : decode cX4_init 16 = .ok (.iconst 0, 1) := by decide +kernel
theorem dX4_init_17 : decode cX4_init 17 = .ok (.iconst (-1), 1) := by decide +kernel
theorem dX4_init_18 : decode cX4_init 18 = .ok (.iastore, 1) := by decide +kernel
theorem dX4_init_19 : decode cX4_init 19 = .ok (.dup, 1) := by decide +kernel
theorem dX4_init_20 : decode cX4_init 20 = .ok (.iconst 1, 1) := by decide +kernel
theorem dX4_init_21 : decode cX4_init 21 = .ok (.iconst (-1), 1) := by decide +kernel
theorem dX4_init_22 : decode cX4_init 22 = .ok (.iastore, 1) := by decide +kernel
theorem dX4_init_23 : decode cX4_init 23 = .ok (.dup, 1) := by decide +kernel
theorem dX4_init_24 : decode cX4_init 24 = .ok (.iconst 2, 1) := by decide +kernel
theorem dX4_init_25 : decode cX4_init 25 = .ok (.iconst (-1), 1) := by decide +kernel
theorem dX4_init_26 : decode cX4_init 26 = .ok (.iastore, 1) := by decide +kernel
theorem dX4_init_27 : decode cX4_init 27 = .ok (.putfield 15, 3) := by decide +kernel
theorem dX4_init_30 : decode cX4_init 30 = .ok (.aload_n 0, 1) := by decide +kernel
theorem dX4_init_31 : decode cX4_init 31 = .ok (.iconst 3, 1) := by decide +kernel
theorem dX4_init_32 : decode cX4_init 32 = .ok (.newarray .int, 2) := by decide +kernel
theorem dX4_init_34 : decode cX4_init 34 = .ok (.putfield 18, 3) := by decide +kernel
theorem dX4_init_37 : decode cX4_init 37 = .ok (.return_, 1) := by decide +kernel
theorem dX5_init_0 : decode cX5_init 0 = .ok (.aload_n 0, 1) := by decide +kernel
theorem dX5_init_1 : decode cX5_init 1 = .ok (.invokespecial 3, 3) := by decide +kernel
theorem dX5_init_4 : decode cX5_init 4 = .ok (.aload_n 0, 1) := by decide +kernel
theorem dX5_init_5 : decode cX5_init 5 = .ok (.sipush 720, 3) := by decide +kernel
theorem dX5_init_8 : decode cX5_init 8 = .ok (.newarray .int, 2) := by decide +kernel
theorem dX5_init_10 : decode cX5_init 10 = .ok (.putfield 11, 3) := by decide +kernel
theorem dX5_init_13 : decode cX5_init 13 = .ok (.return_, 1) := by decide +kernel
theorem dX5_isKept_0 : decode cX5_isKept 0 = .ok (.iload_n 0, 1) := by decide +kernel
theorem dX5_isKept_1 : decode cX5_isKept 1 = .ok (.iload_n 1, 1) := by decide +kernel
theorem dX5_isKept_2 : decode cX5_isKept 2 = .ok (.bipush 60, 2) := by decide +kernel
theorem dX5_isKept_4 : decode cX5_isKept 4 = .ok (.isub, 1) := by decide +kernel
theorem dX5_isKept_5 : decode cX5_isKept 5 = .ok (.iconst 1, 1) := by decide +kernel
theorem dX5_isKept_6 : decode cX5_isKept 6 = .ok (.iadd, 1) := by decide +kernel
theorem dX5_isKept_7 : decode cX5_isKept 7 = .ok (.iload_n 1, 1) := by decide +kernel
theorem dX5_isKept_8 : decode cX5_isKept 8 = .ok (.invokestatic 15, 3) := by decide +kernel
theorem dX5_isKept_11 : decode cX5_isKept 11 = .ok (.ireturn, 1) := by decide +kernel
theorem dX5_keep_0 : decode cX5_keep 0 = .ok (.iconst 0, 1) := by decide +kernel
theorem dX5_keep_1 : decode cX5_keep 1 = .ok (.istore 4, 2) := by decide +kernel
theorem dX5_keep_3 : decode cX5_keep 3 = .ok (.iload 4, 2) := by decide +kernel
theorem dX5_keep_5 : decode cX5_keep 5 = .ok (.bipush 12, 2) := by decide +kernel
theorem dX5_keep_7 : decode cX5_keep 7 = .ok (.if_icmp .ge 58, 3) := by decide +kernel
theorem dX5_keep_10 : decode cX5_keep 10 = .ok (.aload_n 2, 1) := by decide +kernel
theorem dX5_keep_11 : decode cX5_keep 11 = .ok (.iload 4, 2) := by decide +kernel
theorem dX5_keep_13 : decode cX5_keep 13 = .ok (.iaload, 1) := by decide +kernel
theorem dX5_keep_14 : decode cX5_keep 14 = .ok (.istore 5, 2) := by decide +kernel
theorem dX5_keep_16 : decode cX5_keep 16 = .ok (.iconst 3, 1) := by decide +kernel
theorem dX5_keep_17 : decode cX5_keep 17 = .ok (.istore 6, 2) := by decide +kernel
theorem dX5_keep_19 : decode cX5_keep 19 = .ok (.iload 6, 2) := by decide +kernel
theorem dX5_keep_21 : decode cX5_keep 21 = .ok (.ifCond .lt 25, 3) := by decide +kernel
theorem dX5_keep_24 : decode cX5_keep 24 = .ok (.iload 5, 2) := by decide +kernel
theorem dX5_keep_26 : decode cX5_keep 26 = .ok (.iconst 4, 1) := by decide +kernel
theorem dX5_keep_27 : decode cX5_keep 27 = .ok (.imul, 1) := by decide +kernel
theorem dX5_keep_28 : decode cX5_keep 28 = .ok (.aload_n 3, 1) := by decide +kernel
theorem dX5_keep_29 : decode cX5_keep 29 = .ok (.iload 4, 2) := by decide +kernel
theorem dX5_keep_31 : decode cX5_keep 31 = .ok (.iload 6, 2) := by decide +kernel
theorem dX5_keep_33 : decode cX5_keep 33 = .ok (.invokestatic 19, 3) := by decide +kernel
theorem dX5_keep_36 : decode cX5_keep 36 = .ok (.iaload, 1) := by decide +kernel
theorem dX5_keep_37 : decode cX5_keep 37 = .ok (.iadd, 1) := by decide +kernel
theorem dX5_keep_38 : decode cX5_keep 38 = .ok (.istore 5, 2) := by decide +kernel
theorem dX5_keep_40 : decode cX5_keep 40 = .ok (.iinc 6 (-1), 3) := by decide +kernel
theorem dX5_keep_43 : decode cX5_keep 43 = .ok (.goto (-24), 3) := by decide +kernel
theorem dX5_keep_46 : decode cX5_keep 46 = .ok (.aload_n 0, 1) := by decide +kernel
theorem dX5_keep_47 : decode cX5_keep 47 = .ok (.getfield 11, 3) := by decide +kernel
theorem dX5_keep_50 : decode cX5_keep 50 = .ok (.iload_n 1, 1) := by decide +kernel
theorem dX5_keep_51 : decode cX5_keep 51 = .ok (.iload 4, 2) := by decide +kernel
theorem dX5_keep_53 : decode cX5_keep 53 = .ok (.invokestatic 23, 3) := by decide +kernel
theorem dX5_keep_56 : decode cX5_keep 56 = .ok (.iload 5, 2) := by decide +kernel
theorem dX5_keep_58 : decode cX5_keep 58 = .ok (.iastore, 1) := by decide +kernel
theorem dX5_keep_59 : decode cX5_keep 59 = .ok (.iinc 4 1, 3) := by decide +kernel
theorem dX5_keep_62 : decode cX5_keep 62 = .ok (.goto (-59), 3) := by decide +kernel
theorem dX5_keep_65 : decode cX5_keep 65 = .ok (.return_, 1) := by decide +kernel
theorem dX5_speedSign_0 : decode cX5_speedSign 0 = .ok (.aload_n 0, 1) := by decide +kernel
theorem dX5_speedSign_1 : decode cX5_speedSign 1 = .ok (.getfield 11, 3) := by decide +kernel
theorem dX5_speedSign_4 : decode cX5_speedSign 4 = .ok (.iload_n 1, 1) := by decide +kernel
theorem dX5_speedSign_5 : decode cX5_speedSign 5 = .ok (.iload_n 2, 1) := by decide +kernel
theorem dX5_speedSign_6 : decode cX5_speedSign 6 = .ok (.invokestatic 23, 3) := by decide +kernel
theorem dX5_speedSign_9 : decode cX5_speedSign 9 = .ok (.iaload, 1) := by decide +kernel
theorem dX5_speedSign_10 : decode cX5_speedSign 10 = .ok (.bipush 8, 2) := by decide +kernel
theorem dX5_speedSign_12 : decode cX5_speedSign 12 = .ok (.ishr, 1) := by decide +kernel
theorem dX5_speedSign_13 : decode cX5_speedSign 13 = .ok (.ireturn, 1) := by decide +kernel
theorem dX5_laneSign_0 : decode cX5_laneSign 0 = .ok (.aload_n 0, 1) := by decide +kernel
theorem dX5_laneSign_1 : decode cX5_laneSign 1 = .ok (.getfield 11, 3) := by decide +kernel
theorem dX5_laneSign_4 : decode cX5_laneSign 4 = .ok (.iload_n 1, 1) := by decide +kernel
theorem dX5_laneSign_5 : decode cX5_laneSign 5 = .ok (.iload_n 2, 1) := by decide +kernel
theorem dX5_laneSign_6 : decode cX5_laneSign 6 = .ok (.invokestatic 23, 3) := by decide +kernel
theorem dX5_laneSign_9 : decode cX5_laneSign 9 = .ok (.iaload, 1) := by decide +kernel
theorem dX5_laneSign_10 : decode cX5_laneSign 10 = .ok (.iconst 2, 1) := by decide +kernel
theorem dX5_laneSign_11 : decode cX5_laneSign 11 = .ok (.iload_n 3, 1) := by decide +kernel
theorem dX5_laneSign_12 : decode cX5_laneSign 12 = .ok (.imul, 1) := by decide +kernel
theorem dX5_laneSign_13 : decode cX5_laneSign 13 = .ok (.ishr, 1) := by decide +kernel
theorem dX5_laneSign_14 : decode cX5_laneSign 14 = .ok (.iconst 3, 1) := by decide +kernel
theorem dX5_laneSign_15 : decode cX5_laneSign 15 = .ok (.iand, 1) := by decide +kernel
theorem dX5_laneSign_16 : decode cX5_laneSign 16 = .ok (.ireturn, 1) := by decide +kernel
theorem dX5_slotOf_0 : decode cX5_slotOf 0 = .ok (.iload_n 0, 1) := by decide +kernel
theorem dX5_slotOf_1 : decode cX5_slotOf 1 = .ok (.bipush 60, 2) := by decide +kernel
theorem dX5_slotOf_3 : decode cX5_slotOf 3 = .ok (.invokestatic 26, 3) := by decide +kernel
theorem dX5_slotOf_6 : decode cX5_slotOf 6 = .ok (.bipush 12, 2) := by decide +kernel
theorem dX5_slotOf_8 : decode cX5_slotOf 8 = .ok (.imul, 1) := by decide +kernel
theorem dX5_slotOf_9 : decode cX5_slotOf 9 = .ok (.iload_n 1, 1) := by decide +kernel
theorem dX5_slotOf_10 : decode cX5_slotOf 10 = .ok (.iadd, 1) := by decide +kernel
theorem dX5_slotOf_11 : decode cX5_slotOf 11 = .ok (.ireturn, 1) := by decide +kernel
theorem dX6_init_0 : decode cX6_init 0 = .ok (.aload_n 0, 1) := by decide +kernel
theorem dX6_init_1 : decode cX6_init 1 = .ok (.invokespecial 3, 3) := by decide +kernel
theorem dX6_init_4 : decode cX6_init 4 = .ok (.aload_n 0, 1) := by decide +kernel
theorem dX6_init_5 : decode cX6_init 5 = .ok (.bipush 12, 2) := by decide +kernel
theorem dX6_init_7 : decode cX6_init 7 = .ok (.newarray .boolean, 2) := by decide +kernel
theorem dX6_init_9 : decode cX6_init 9 = .ok (.putfield 9, 3) := by decide +kernel
theorem dX6_init_12 : decode cX6_init 12 = .ok (.aload_n 0, 1) := by decide +kernel
theorem dX6_init_13 : decode cX6_init 13 = .ok (.bipush 12, 2) := by decide +kernel
theorem dX6_init_15 : decode cX6_init 15 = .ok (.newarray .int, 2) := by decide +kernel
theorem dX6_init_17 : decode cX6_init 17 = .ok (.putfield 15, 3) := by decide +kernel
theorem dX6_init_20 : decode cX6_init 20 = .ok (.iconst 0, 1) := by decide +kernel
theorem dX6_init_21 : decode cX6_init 21 = .ok (.istore_n 1, 1) := by decide +kernel
theorem dX6_init_22 : decode cX6_init 22 = .ok (.iload_n 1, 1) := by decide +kernel
theorem dX6_init_23 : decode cX6_init 23 = .ok (.bipush 12, 2) := by decide +kernel
theorem dX6_init_25 : decode cX6_init 25 = .ok (.if_icmp .ge 18, 3) := by decide +kernel
theorem dX6_init_28 : decode cX6_init 28 = .ok (.aload_n 0, 1) := by decide +kernel
theorem dX6_init_29 : decode cX6_init 29 = .ok (.getfield 15, 3) := by decide +kernel
theorem dX6_init_32 : decode cX6_init 32 = .ok (.iload_n 1, 1) := by decide +kernel
theorem dX6_init_33 : decode cX6_init 33 = .ok (.sipush (-1000), 3) := by decide +kernel
theorem dX6_init_36 : decode cX6_init 36 = .ok (.iastore, 1) := by decide +kernel
theorem dX6_init_37 : decode cX6_init 37 = .ok (.iinc 1 1, 3) := by decide +kernel
theorem dX6_init_40 : decode cX6_init 40 = .ok (.goto (-18), 3) := by decide +kernel
theorem dX6_init_43 : decode cX6_init 43 = .ok (.return_, 1) := by decide +kernel
theorem dX6_shutAll_0 : decode cX6_shutAll 0 = .ok (.iconst 0, 1) := by decide +kernel
theorem dX6_shutAll_1 : decode cX6_shutAll 1 = .ok (.istore_n 1, 1) := by decide +kernel
theorem dX6_shutAll_2 : decode cX6_shutAll 2 = .ok (.iconst 0, 1) := by decide +kernel
theorem dX6_shutAll_3 : decode cX6_shutAll 3 = .ok (.istore_n 2, 1) := by decide +kernel
theorem dX6_shutAll_4 : decode cX6_shutAll 4 = .ok (.iload_n 2, 1) := by decide +kernel
theorem dX6_shutAll_5 : decode cX6_shutAll 5 = .ok (.bipush 12, 2) := by decide +kernel
theorem dX6_shutAll_7 : decode cX6_shutAll 7 = .ok (.if_icmp .ge 28, 3) := by decide +kernel
theorem dX6_shutAll_10 : decode cX6_shutAll 10 = .ok (.aload_n 0, 1) := by decide +kernel
theorem dX6_shutAll_11 : decode cX6_shutAll 11 = .ok (.getfield 9, 3) := by decide +kernel
theorem dX6_shutAll_14 : decode cX6_shutAll 14 = .ok (.iload_n 2, 1) := by decide +kernel
theorem dX6_shutAll_15 : decode cX6_shutAll 15 = .ok (.baload, 1) := by decide +kernel
theorem dX6_shutAll_16 : decode cX6_shutAll 16 = .ok (.ifCond .eq 13, 3) := by decide +kernel
theorem dX6_shutAll_19 : decode cX6_shutAll 19 = .ok (.aload_n 0, 1) := by decide +kernel
theorem dX6_shutAll_20 : decode cX6_shutAll 20 = .ok (.getfield 9, 3) := by decide +kernel
theorem dX6_shutAll_23 : decode cX6_shutAll 23 = .ok (.iload_n 2, 1) := by decide +kernel
theorem dX6_shutAll_24 : decode cX6_shutAll 24 = .ok (.iconst 0, 1) := by decide +kernel
theorem dX6_shutAll_25 : decode cX6_shutAll 25 = .ok (.bastore, 1) := by decide +kernel
theorem dX6_shutAll_26 : decode cX6_shutAll 26 = .ok (.iinc 1 1, 3) := by decide +kernel
theorem dX6_shutAll_29 : decode cX6_shutAll 29 = .ok (.iinc 2 1, 3) := by decide +kernel
theorem dX6_shutAll_32 : decode cX6_shutAll 32 = .ok (.goto (-28), 3) := by decide +kernel
theorem dX6_shutAll_35 : decode cX6_shutAll 35 = .ok (.iload_n 1, 1) := by decide +kernel
theorem dX6_shutAll_36 : decode cX6_shutAll 36 = .ok (.ireturn, 1) := by decide +kernel
theorem dX6_tellCrosses_0 : decode cX6_tellCrosses 0 = .ok (.iconst 0, 1) := by decide +kernel
theorem dX6_tellCrosses_1 : decode cX6_tellCrosses 1 = .ok (.istore_n 2, 1) := by decide +kernel
theorem dX6_tellCrosses_2 : decode cX6_tellCrosses 2 = .ok (.iload_n 2, 1) := by decide +kernel
theorem dX6_tellCrosses_3 : decode cX6_tellCrosses 3 = .ok (.bipush 12, 2) := by decide +kernel
theorem dX6_tellCrosses_5 : decode cX6_tellCrosses 5 = .ok (.if_icmp .ge 26, 3) := by decide +kernel
theorem dX6_tellCrosses_8 : decode cX6_tellCrosses 8 = .ok (.aload_n 0, 1) := by decide +kernel
theorem dX6_tellCrosses_9 : decode cX6_tellCrosses 9 = .ok (.getfield 9, 3) := by decide +kernel
theorem dX6_tellCrosses_12 : decode cX6_tellCrosses 12 = .ok (.iload_n 2, 1) := by decide +kernel
theorem dX6_tellCrosses_13 : decode cX6_tellCrosses 13 = .ok (.baload, 1) := by decide +kernel
theorem dX6_tellCrosses_14 : decode cX6_tellCrosses 14 = .ok (.ifCond .ne 11, 3) := by decide +kernel
theorem dX6_tellCrosses_17 : decode cX6_tellCrosses 17 = .ok (.aload_n 1, 1) := by decide +kernel
theorem dX6_tellCrosses_18 : decode cX6_tellCrosses 18 = .ok (.iload_n 2, 1) := by decide +kernel
theorem dX6_tellCrosses_19 : decode cX6_tellCrosses 19 = .ok (.iconst 0, 1) := by decide +kernel
theorem dX6_tellCrosses_20 : decode cX6_tellCrosses 20 = .ok (.invokestatic 23, 3) := by decide +kernel
theorem dX6_tellCrosses_23 : decode cX6_tellCrosses 23 = .ok (.iconst 2, 1) := by decide +kernel
theorem dX6_tellCrosses_24 : decode cX6_tellCrosses 24 = .ok (.iastore, 1) := by decide +kernel
theorem dX6_tellCrosses_25 : decode cX6_tellCrosses 25 = .ok (.iinc 2 1, 3) := by decide +kernel
theorem dX6_tellCrosses_28 : decode cX6_tellCrosses 28 = .ok (.goto (-26), 3) := by decide +kernel
theorem dX6_tellCrosses_31 : decode cX6_tellCrosses 31 = .ok (.return_, 1) := by decide +kernel
theorem dX7_init_0 : decode cX7_init 0 = .ok (.aload_n 0, 1) := by decide +kernel
theorem dX7_init_1 : decode cX7_init 1 = .ok (.invokespecial 3, 3) := by decide +kernel
theorem dX7_init_4 : decode cX7_init 4 = .ok (.aload_n 0, 1) := by decide +kernel
theorem dX7_init_5 : decode cX7_init 5 = .ok (.bipush 12, 2) := by decide +kernel
theorem dX7_init_7 : decode cX7_init 7 = .ok (.newarray .int, 2) := by decide +kernel
theorem dX7_init_9 : decode cX7_init 9 = .ok (.putfield 9, 3) := by decide +kernel
theorem dX7_init_12 : decode cX7_init 12 = .ok (.aload_n 0, 1) := by decide +kernel
theorem dX7_init_13 : decode cX7_init 13 = .ok (.bipush 12, 2) := by decide +kernel
theorem dX7_init_15 : decode cX7_init 15 = .ok (.newarray .int, 2) := by decide +kernel
theorem dX7_init_17 : decode cX7_init 17 = .ok (.putfield 15, 3) := by decide +kernel
theorem dX7_init_20 : decode cX7_init 20 = .ok (.aload_n 0, 1) := by decide +kernel
theorem dX7_init_21 : decode cX7_init 21 = .ok (.bipush 12, 2) := by decide +kernel
theorem dX7_init_23 : decode cX7_init 23 = .ok (.newarray .int, 2) := by decide +kernel
theorem dX7_init_25 : decode cX7_init 25 = .ok (.putfield 18, 3) := by decide +kernel
theorem dX7_init_28 : decode cX7_init 28 = .ok (.aload_n 0, 1) := by decide +kernel
theorem dX7_init_29 : decode cX7_init 29 = .ok (.iconst 0, 1) := by decide +kernel
theorem dX7_init_30 : decode cX7_init 30 = .ok (.putfield 21, 3) := by decide +kernel
theorem dX7_init_33 : decode cX7_init 33 = .ok (.iconst 0, 1) := by decide +kernel
theorem dX7_init_34 : decode cX7_init 34 = .ok (.istore_n 1, 1) := by decide +kernel
theorem dX7_init_35 : decode cX7_init 35 = .ok (.iload_n 1, 1) := by decide +kernel
theorem dX7_init_36 : decode cX7_init 36 = .ok (.bipush 12, 2) := by decide +kernel
theorem dX7_init_38 : decode cX7_init 38 = .ok (.if_icmp .ge 33, 3) := by decide +kernel
theorem dX7_init_41 : decode cX7_init 41 = .ok (.aload_n 0, 1) := by decide +kernel
theorem dX7_init_42 : decode cX7_init 42 = .ok (.getfield 9, 3) := by decide +kernel
theorem dX7_init_45 : decode cX7_init 45 = .ok (.iload_n 1, 1) := by decide +kernel
theorem dX7_init_46 : decode cX7_init 46 = .ok (.iconst (-1), 1) := by decide +kernel
theorem dX7_init_47 : decode cX7_init 47 = .ok (.iastore, 1) := by decide +kernel
theorem dX7_init_48 : decode cX7_init 48 = .ok (.aload_n 0, 1) := by decide +kernel
theorem dX7_init_49 : decode cX7_init 49 = .ok (.getfield 15, 3) := by decide +kernel
theorem dX7_init_52 : decode cX7_init 52 = .ok (.iload_n 1, 1) := by decide +kernel
theorem dX7_init_53 : decode cX7_init 53 = .ok (.bipush 120, 2) := by decide +kernel
theorem dX7_init_55 : decode cX7_init 55 = .ok (.iastore, 1) := by decide +kernel
theorem dX7_init_56 : decode cX7_init 56 = .ok (.aload_n 0, 1) := by decide +kernel
theorem dX7_init_57 : decode cX7_init 57 = .ok (.getfield 18, 3) := by decide +kernel
theorem dX7_init_60 : decode cX7_init 60 = .ok (.iload_n 1, 1) := by decide +kernel
theorem dX7_init_61 : decode cX7_init 61 = .ok (.sipush (-1000), 3) := by decide +kernel
theorem dX7_init_64 : decode cX7_init 64 = .ok (.iastore, 1) := by decide +kernel
theorem dX7_init_65 : decode cX7_init 65 = .ok (.iinc 1 1, 3) := by decide +kernel
theorem dX7_init_68 : decode cX7_init 68 = .ok (.goto (-33), 3) := by decide +kernel
theorem dX7_init_71 : decode cX7_init 71 = .ok (.return_, 1) := by decide +kernel
theorem dX7_setAnew_0 : decode cX7_setAnew 0 = .ok (.bipush 11, 2) := by decide +kernel
theorem dX7_setAnew_2 : decode cX7_setAnew 2 = .ok (.istore 4, 2) := by decide +kernel
theorem dX7_setAnew_4 : decode cX7_setAnew 4 = .ok (.iload 4, 2) := by decide +kernel
theorem dX7_setAnew_6 : decode cX7_setAnew 6 = .ok (.ifCond .lt 107, 3) := by decide +kernel
theorem dX7_setAnew_9 : decode cX7_setAnew 9 = .ok (.aload_n 0, 1) := by decide +kernel
theorem dX7_setAnew_10 : decode cX7_setAnew 10 = .ok (.iload 4, 2) := by decide +kernel
theorem dX7_setAnew_12 : decode cX7_setAnew 12 = .ok (.aload_n 2, 1) := by decide +kernel
theorem dX7_setAnew_13 : decode cX7_setAnew 13 = .ok (.iload 4, 2) := by decide +kernel
theorem dX7_setAnew_15 : decode cX7_setAnew 15 = .ok (.aload_n 3, 1) := by decide +kernel
theorem dX7_setAnew_16 : decode cX7_setAnew 16 = .ok (.invokevirtual 25, 3) := by decide +kernel
theorem dX7_setAnew_19 : decode cX7_setAnew 19 = .ok (.invokevirtual 31, 3) := by decide +kernel
theorem dX7_setAnew_22 : decode cX7_setAnew 22 = .ok (.istore 5, 2) := by decide +kernel
theorem dX7_setAnew_24 : decode cX7_setAnew 24 = .ok (.aload_n 0, 1) := by decide +kernel
theorem dX7_setAnew_25 : decode cX7_setAnew 25 = .ok (.iload 5, 2) := by decide +kernel
theorem dX7_setAnew_27 : decode cX7_setAnew 27 = .ok (.iload 4, 2) := by decide +kernel
theorem dX7_setAnew_29 : decode cX7_setAnew 29 = .ok (.iload_n 1, 1) := by decide +kernel
theorem dX7_setAnew_30 : decode cX7_setAnew 30 = .ok (.invokevirtual 35, 3) := by decide +kernel
theorem dX7_setAnew_33 : decode cX7_setAnew 33 = .ok (.ifCond .eq 13, 3) := by decide +kernel
theorem dX7_setAnew_36 : decode cX7_setAnew 36 = .ok (.aload_n 0, 1) := by decide +kernel
theorem dX7_setAnew_37 : decode cX7_setAnew 37 = .ok (.getfield 15, 3) := by decide +kernel
theorem dX7_setAnew_40 : decode cX7_setAnew 40 = .ok (.iload 4, 2) := by decide +kernel
theorem dX7_setAnew_42 : decode cX7_setAnew 42 = .ok (.iaload, 1) := by decide +kernel
theorem dX7_setAnew_43 : decode cX7_setAnew 43 = .ok (.goto 5, 3) := by decide +kernel
theorem dX7_setAnew_46 : decode cX7_setAnew 46 = .ok (.iload 5, 2) := by decide +kernel
theorem dX7_setAnew_48 : decode cX7_setAnew 48 = .ok (.istore 6, 2) := by decide +kernel
theorem dX7_setAnew_50 : decode cX7_setAnew 50 = .ok (.iload 4, 2) := by decide +kernel
theorem dX7_setAnew_52 : decode cX7_setAnew 52 = .ok (.iconst 1, 1) := by decide +kernel
theorem dX7_setAnew_53 : decode cX7_setAnew 53 = .ok (.iadd, 1) := by decide +kernel
theorem dX7_setAnew_54 : decode cX7_setAnew 54 = .ok (.bipush 12, 2) := by decide +kernel
theorem dX7_setAnew_56 : decode cX7_setAnew 56 = .ok (.if_icmp .ge 22, 3) := by decide +kernel
theorem dX7_setAnew_59 : decode cX7_setAnew 59 = .ok (.iload 6, 2) := by decide +kernel
theorem dX7_setAnew_61 : decode cX7_setAnew 61 = .ok (.aload_n 0, 1) := by decide +kernel
theorem dX7_setAnew_62 : decode cX7_setAnew 62 = .ok (.getfield 15, 3) := by decide +kernel
theorem dX7_setAnew_65 : decode cX7_setAnew 65 = .ok (.iload 4, 2) := by decide +kernel
theorem dX7_setAnew_67 : decode cX7_setAnew 67 = .ok (.iconst 1, 1) := by decide +kernel
theorem dX7_setAnew_68 : decode cX7_setAnew 68 = .ok (.iadd, 1) := by decide +kernel
theorem dX7_setAnew_69 : decode cX7_setAnew 69 = .ok (.iaload, 1) := by decide +kernel
theorem dX7_setAnew_70 : decode cX7_setAnew 70 = .ok (.bipush 20, 2) := by decide +kernel
theorem dX7_setAnew_72 : decode cX7_setAnew 72 = .ok (.iadd, 1) := by decide +kernel
theorem dX7_setAnew_73 : decode cX7_setAnew 73 = .ok (.invokestatic 39, 3) := by decide +kernel
theorem dX7_setAnew_76 : decode cX7_setAnew 76 = .ok (.istore 6, 2) := by decide +kernel
theorem dX7_setAnew_78 : decode cX7_setAnew 78 = .ok (.iload 6, 2) := by decide +kernel
theorem dX7_setAnew_80 : decode cX7_setAnew 80 = .ok (.aload_n 0, 1) := by decide +kernel
theorem dX7_setAnew_81 : decode cX7_setAnew 81 = .ok (.getfield 15, 3) := by decide +kernel
theorem dX7_setAnew_84 : decode cX7_setAnew 84 = .ok (.iload 4, 2) := by decide +kernel
theorem dX7_setAnew_86 : decode cX7_setAnew 86 = .ok (.iaload, 1) := by decide +kernel
theorem dX7_setAnew_87 : decode cX7_setAnew 87 = .ok (.if_icmp .ge 11, 3) := by decide +kernel
theorem dX7_setAnew_90 : decode cX7_setAnew 90 = .ok (.aload_n 0, 1) := by decide +kernel
theorem dX7_setAnew_91 : decode cX7_setAnew 91 = .ok (.getfield 18, 3) := by decide +kernel
theorem dX7_setAnew_94 : decode cX7_setAnew 94 = .ok (.iload 4, 2) := by decide +kernel
theorem dX7_setAnew_96 : decode cX7_setAnew 96 = .ok (.iload_n 1, 1) := by decide +kernel
theorem dX7_setAnew_97 : decode cX7_setAnew 97 = .ok (.iastore, 1) := by decide +kernel
theorem dX7_setAnew_98 : decode cX7_setAnew 98 = .ok (.aload_n 0, 1) := by decide +kernel
theorem dX7_setAnew_99 : decode cX7_setAnew 99 = .ok (.getfield 15, 3) := by decide +kernel
theorem dX7_setAnew_102 : decode cX7_setAnew 102 = .ok (.iload 4, 2) := by decide +kernel
theorem dX7_setAnew_104 : decode cX7_setAnew 104 = .ok (.iload 6, 2) := by decide +kernel
theorem dX7_setAnew_106 : decode cX7_setAnew 106 = .ok (.iastore, 1) := by decide +kernel
theorem dX7_setAnew_107 : decode cX7_setAnew 107 = .ok (.iinc 4 (-1), 3) := by decide +kernel
theorem dX7_setAnew_110 : decode cX7_setAnew 110 = .ok (.goto (-106), 3) := by decide +kernel
theorem dX7_setAnew_113 : decode cX7_setAnew 113 = .ok (.return_, 1) := by decide +kernel
theorem dX7_areLawful_0 : decode cX7_areLawful 0 = .ok (.iconst 0, 1) := by decide +kernel
theorem dX7_areLawful_1 : decode cX7_areLawful 1 = .ok (.istore_n 1, 1) := by decide +kernel
theorem dX7_areLawful_2 : decode cX7_areLawful 2 = .ok (.iload_n 1, 1) := by decide +kernel
theorem dX7_areLawful_3 : decode cX7_areLawful 3 = .ok (.iconst 1, 1) := by decide +kernel
theorem dX7_areLawful_4 : decode cX7_areLawful 4 = .ok (.iadd, 1) := by decide +kernel
theorem dX7_areLawful_5 : decode cX7_areLawful 5 = .ok (.bipush 12, 2) := by decide +kernel
theorem dX7_areLawful_7 : decode cX7_areLawful 7 = .ok (.if_icmp .ge 31, 3) := by decide +kernel
theorem dX7_areLawful_10 : decode cX7_areLawful 10 = .ok (.aload_n 0, 1) := by decide +kernel
theorem dX7_areLawful_11 : decode cX7_areLawful 11 = .ok (.getfield 15, 3) := by decide +kernel
theorem dX7_areLawful_14 : decode cX7_areLawful 14 = .ok (.iload_n 1, 1) := by decide +kernel
theorem dX7_areLawful_15 : decode cX7_areLawful 15 = .ok (.iaload, 1) := by decide +kernel
theorem dX7_areLawful_16 : decode cX7_areLawful 16 = .ok (.aload_n 0, 1) := by decide +kernel
theorem dX7_areLawful_17 : decode cX7_areLawful 17 = .ok (.getfield 15, 3) := by decide +kernel
theorem dX7_areLawful_20 : decode cX7_areLawful 20 = .ok (.iload_n 1, 1) := by decide +kernel
theorem dX7_areLawful_21 : decode cX7_areLawful 21 = .ok (.iconst 1, 1) := by decide +kernel
theorem dX7_areLawful_22 : decode cX7_areLawful 22 = .ok (.iadd, 1) := by decide +kernel
theorem dX7_areLawful_23 : decode cX7_areLawful 23 = .ok (.iaload, 1) := by decide +kernel
theorem dX7_areLawful_24 : decode cX7_areLawful 24 = .ok (.bipush 20, 2) := by decide +kernel
theorem dX7_areLawful_26 : decode cX7_areLawful 26 = .ok (.iadd, 1) := by decide +kernel
theorem dX7_areLawful_27 : decode cX7_areLawful 27 = .ok (.if_icmp .le 5, 3) := by decide +kernel
theorem dX7_areLawful_30 : decode cX7_areLawful 30 = .ok (.iconst 0, 1) := by decide +kernel
theorem dX7_areLawful_31 : decode cX7_areLawful 31 = .ok (.ireturn, 1) := by decide +kernel
theorem dX7_areLawful_32 : decode cX7_areLawful 32 = .ok (.iinc 1 1, 3) := by decide +kernel
theorem dX7_areLawful_35 : decode cX7_areLawful 35 = .ok (.goto (-33), 3) := by decide +kernel
theorem dX7_areLawful_38 : decode cX7_areLawful 38 = .ok (.iconst 1, 1) := by decide +kernel
theorem dX7_areLawful_39 : decode cX7_areLawful 39 = .ok (.ireturn, 1) := by decide +kernel
theorem dX7_wantAt_0 : decode cX7_wantAt 0 = .ok (.aload_n 0, 1) := by decide +kernel
theorem dX7_wantAt_1 : decode cX7_wantAt 1 = .ok (.getfield 9, 3) := by decide +kernel
theorem dX7_wantAt_4 : decode cX7_wantAt 4 = .ok (.iload_n 1, 1) := by decide +kernel
theorem dX7_wantAt_5 : decode cX7_wantAt 5 = .ok (.iaload, 1) := by decide +kernel
theorem dX7_wantAt_6 : decode cX7_wantAt 6 = .ok (.iconst (-1), 1) := by decide +kernel
theorem dX7_wantAt_7 : decode cX7_wantAt 7 = .ok (.if_icmp .eq 10, 3) := by decide +kernel
theorem dX7_wantAt_10 : decode cX7_wantAt 10 = .ok (.aload_n 0, 1) := by decide +kernel
theorem dX7_wantAt_11 : decode cX7_wantAt 11 = .ok (.getfield 9, 3) := by decide +kernel
theorem dX7_wantAt_14 : decode cX7_wantAt 14 = .ok (.iload_n 1, 1) := by decide +kernel
theorem dX7_wantAt_15 : decode cX7_wantAt 15 = .ok (.iaload, 1) := by decide +kernel
theorem dX7_wantAt_16 : decode cX7_wantAt 16 = .ok (.ireturn, 1) := by decide +kernel
theorem dX7_wantAt_17 : decode cX7_wantAt 17 = .ok (.aload_n 0, 1) := by decide +kernel
theorem dX7_wantAt_18 : decode cX7_wantAt 18 = .ok (.getfield 21, 3) := by decide +kernel
theorem dX7_wantAt_21 : decode cX7_wantAt 21 = .ok (.iconst 0, 1) := by decide +kernel
theorem dX7_wantAt_22 : decode cX7_wantAt 22 = .ok (.iconst 3, 1) := by decide +kernel
theorem dX7_wantAt_23 : decode cX7_wantAt 23 = .ok (.invokestatic 44, 3) := by decide +kernel
theorem dX7_wantAt_26 : decode cX7_wantAt 26 = .ok (.ifCond .eq 14, 3) := by decide +kernel
theorem dX7_wantAt_29 : decode cX7_wantAt 29 = .ok (.getstatic 47, 3) := by decide +kernel
theorem dX7_wantAt_32 : decode cX7_wantAt 32 = .ok (.aload_n 0, 1) := by decide +kernel
theorem dX7_wantAt_33 : decode cX7_wantAt 33 = .ok (.getfield 21, 3) := by decide +kernel
theorem dX7_wantAt_36 : decode cX7_wantAt 36 = .ok (.iaload, 1) := by decide +kernel
theorem dX7_wantAt_37 : decode cX7_wantAt 37 = .ok (.goto 5, 3) := by decide +kernel
theorem dX7_wantAt_40 : decode cX7_wantAt 40 = .ok (.bipush 120, 2) := by decide +kernel
theorem dX7_wantAt_42 : decode cX7_wantAt 42 = .ok (.istore_n 3, 1) := by decide +kernel
theorem dX7_wantAt_43 : decode cX7_wantAt 43 = .ok (.iload_n 2, 1) := by decide +kernel
theorem dX7_wantAt_44 : decode cX7_wantAt 44 = .ok (.invokestatic 50, 3) := by decide +kernel
theorem dX7_wantAt_47 : decode cX7_wantAt 47 = .ok (.iload_n 3, 1) := by decide +kernel
theorem dX7_wantAt_48 : decode cX7_wantAt 48 = .ok (.invokestatic 39, 3) := by decide +kernel
theorem dX7_wantAt_51 : decode cX7_wantAt 51 = .ok (.ireturn, 1) := by decide +kernel
theorem dX7_wantBy_0 : decode cX7_wantBy 0 = .ok (.iload_n 0, 1) := by decide +kernel
theorem dX7_wantBy_1 : decode cX7_wantBy 1 = .ok (.iconst (-1), 1) := by decide +kernel
theorem dX7_wantBy_2 : decode cX7_wantBy 2 = .ok (.if_icmp .ne 6, 3) := by decide +kernel
theorem dX7_wantBy_5 : decode cX7_wantBy 5 = .ok (.bipush 60, 2) := by decide +kernel
theorem dX7_wantBy_7 : decode cX7_wantBy 7 = .ok (.ireturn, 1) := by decide +kernel
theorem dX7_wantBy_8 : decode cX7_wantBy 8 = .ok (.iload_n 0, 1) := by decide +kernel
theorem dX7_wantBy_9 : decode cX7_wantBy 9 = .ok (.bipush 40, 2) := by decide +kernel
theorem dX7_wantBy_11 : decode cX7_wantBy 11 = .ok (.if_icmp .ge 6, 3) := by decide +kernel
theorem dX7_wantBy_14 : decode cX7_wantBy 14 = .ok (.bipush 40, 2) := by decide +kernel
theorem dX7_wantBy_16 : decode cX7_wantBy 16 = .ok (.ireturn, 1) := by decide +kernel
theorem dX7_wantBy_17 : decode cX7_wantBy 17 = .ok (.iload_n 0, 1) := by decide +kernel
theorem dX7_wantBy_18 : decode cX7_wantBy 18 = .ok (.bipush 60, 2) := by decide +kernel
theorem dX7_wantBy_20 : decode cX7_wantBy 20 = .ok (.if_icmp .ge 6, 3) := by decide +kernel
theorem dX7_wantBy_23 : decode cX7_wantBy 23 = .ok (.bipush 60, 2) := by decide +kernel
theorem dX7_wantBy_25 : decode cX7_wantBy 25 = .ok (.ireturn, 1) := by decide +kernel
theorem dX7_wantBy_26 : decode cX7_wantBy 26 = .ok (.iload_n 0, 1) := by decide +kernel
theorem dX7_wantBy_27 : decode cX7_wantBy 27 = .ok (.bipush 80, 2) := by decide +kernel
theorem dX7_wantBy_29 : decode cX7_wantBy 29 = .ok (.if_icmp .ge 8, 3) := by decide +kernel
theorem dX7_wantBy_32 : decode cX7_wantBy 32 = .ok (.bipush 80, 2) := by decide +kernel
theorem dX7_wantBy_34 : decode cX7_wantBy 34 = .ok (.goto 5, 3) := by decide +kernel
theorem dX7_wantBy_37 : decode cX7_wantBy 37 = .ok (.bipush 120, 2) := by decide +kernel
theorem dX7_wantBy_39 : decode cX7_wantBy 39 = .ok (.ireturn, 1) := by decide +kernel
theorem dX7_staysBelow_0 : decode cX7_staysBelow 0 = .ok (.aload_n 0, 1) := by decide +kernel
theorem dX7_staysBelow_1 : decode cX7_staysBelow 1 = .ok (.getfield 9, 3) := by decide +kernel
theorem dX7_staysBelow_4 : decode cX7_staysBelow 4 = .ok (.iload_n 2, 1) := by decide +kernel
theorem dX7_staysBelow_5 : decode cX7_staysBelow 5 = .ok (.iaload, 1) := by decide +kernel
theorem dX7_staysBelow_6 : decode cX7_staysBelow 6 = .ok (.iconst (-1), 1) := by decide +kernel
theorem dX7_staysBelow_7 : decode cX7_staysBelow 7 = .ok (.if_icmp .ne 29, 3) := by decide +kernel
theorem dX7_staysBelow_10 : decode cX7_staysBelow 10 = .ok (.iload_n 1, 1) := by decide +kernel
theorem dX7_staysBelow_11 : decode cX7_staysBelow 11 = .ok (.aload_n 0, 1) := by decide +kernel
theorem dX7_staysBelow_12 : decode cX7_staysBelow 12 = .ok (.getfield 15, 3) := by decide +kernel
theorem dX7_staysBelow_15 : decode cX7_staysBelow 15 = .ok (.iload_n 2, 1) := by decide +kernel
theorem dX7_staysBelow_16 : decode cX7_staysBelow 16 = .ok (.iaload, 1) := by decide +kernel
theorem dX7_staysBelow_17 : decode cX7_staysBelow 17 = .ok (.if_icmp .le 19, 3) := by decide +kernel
theorem dX7_staysBelow_20 : decode cX7_staysBelow 20 = .ok (.iload_n 3, 1) := by decide +kernel
theorem dX7_staysBelow_21 : decode cX7_staysBelow 21 = .ok (.aload_n 0, 1) := by decide +kernel
theorem dX7_staysBelow_22 : decode cX7_staysBelow 22 = .ok (.getfield 18, 3) := by decide +kernel
theorem dX7_staysBelow_25 : decode cX7_staysBelow 25 = .ok (.iload_n 2, 1) := by decide +kernel
theorem dX7_staysBelow_26 : decode cX7_staysBelow 26 = .ok (.iaload, 1) := by decide +kernel
theorem dX7_staysBelow_27 : decode cX7_staysBelow 27 = .ok (.isub, 1) := by decide +kernel
theorem dX7_staysBelow_28 : decode cX7_staysBelow 28 = .ok (.iconst 3, 1) := by decide +kernel
theorem dX7_staysBelow_29 : decode cX7_staysBelow 29 = .ok (.if_icmp .ge 7, 3) := by decide +kernel
theorem dX7_staysBelow_32 : decode cX7_staysBelow 32 = .ok (.iconst 1, 1) := by decide +kernel
theorem dX7_staysBelow_33 : decode cX7_staysBelow 33 = .ok (.goto 4, 3) := by decide +kernel
theorem dX7_staysBelow_36 : decode cX7_staysBelow 36 = .ok (.iconst 0, 1) := by decide +kernel
theorem dX7_staysBelow_37 : decode cX7_staysBelow 37 = .ok (.ireturn, 1) := by decide +kernel
theorem dX8_init_0 : decode cX8_init 0 = .ok (.aload_n 0, 1) := by decide +kernel
theorem dX8_init_1 : decode cX8_init 1 = .ok (.invokespecial 3, 3) := by decide +kernel
theorem dX8_init_4 : decode cX8_init 4 = .ok (.aload_n 0, 1) := by decide +kernel
theorem dX8_init_5 : decode cX8_init 5 = .ok (.bipush 48, 2) := by decide +kernel
theorem dX8_init_7 : decode cX8_init 7 = .ok (.newarray .int, 2) := by decide +kernel
theorem dX8_init_9 : decode cX8_init 9 = .ok (.putfield 9, 3) := by decide +kernel
theorem dX8_init_12 : decode cX8_init 12 = .ok (.aload_n 0, 1) := by decide +kernel
theorem dX8_init_13 : decode cX8_init 13 = .ok (.bipush 48, 2) := by decide +kernel
theorem dX8_init_15 : decode cX8_init 15 = .ok (.newarray .boolean, 2) := by decide +kernel
