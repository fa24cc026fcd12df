theorem dX8_init_17 : decode cX8_init 17 = .ok (.putfield 15, 3) := by decide +kernel
theorem dX8_init_20 : decode cX8_init 20 = .ok (.aload_n 0, 1) := by decide +kernel
theorem dX8_init_21 : decode cX8_init 21 = .ok (.bipush 12, 2) := by decide +kernel
theorem dX8_init_23 : decode cX8_init 23 = .ok (.newarray .boolean, 2) := by decide +kernel
theorem dX8_init_25 : decode cX8_init 25 = .ok (.putfield 19, 3) := by decide +kernel
theorem dX8_init_28 : decode cX8_init 28 = .ok (.aload_n 0, 1) := by decide +kernel
theorem dX8_init_29 : decode cX8_init 29 = .ok (.iconst 0, 1) := by decide +kernel
theorem dX8_init_30 : decode cX8_init 30 = .ok (.putfield 22, 3) := by decide +kernel
theorem dX8_init_33 : decode cX8_init 33 = .ok (.aload_n 0, 1) := by decide +kernel
theorem dX8_init_34 : decode cX8_init 34 = .ok (.iconst 0, 1) := by decide +kernel
theorem dX8_init_35 : decode cX8_init 35 = .ok (.putfield 26, 3) := by decide +kernel
theorem dX8_init_38 : decode cX8_init 38 = .ok (.aload_n 0, 1) := by decide +kernel
theorem dX8_init_39 : decode cX8_init 39 = .ok (.iconst 0, 1) := by decide +kernel
theorem dX8_init_40 : decode cX8_init 40 = .ok (.putfield 29, 3) := by decide +kernel
theorem dX8_init_43 : decode cX8_init 43 = .ok (.aload_n 0, 1) := by decide +kernel
theorem dX8_init_44 : decode cX8_init 44 = .ok (.iconst 0, 1) := by decide +kernel
theorem dX8_init_45 : decode cX8_init 45 = .ok (.putfield 32, 3) := by decide +kernel
theorem dX8_init_48 : decode cX8_init 48 = .ok (.return_, 1) := by decide +kernel
theorem dX8_mostIn_0 : decode cX8_mostIn 0 = .ok (.iload_n 1, 1) := by decide +kernel
theorem dX8_mostIn_1 : decode cX8_mostIn 1 = .ok (.ifCond .lt 9, 3) := by decide +kernel
theorem dX8_mostIn_4 : decode cX8_mostIn 4 = .ok (.iload_n 1, 1) := by decide +kernel
theorem dX8_mostIn_5 : decode cX8_mostIn 5 = .ok (.bipush 12, 2) := by decide +kernel
theorem dX8_mostIn_7 : decode cX8_mostIn 7 = .ok (.if_icmp .lt 5, 3) := by decide +kernel
theorem dX8_mostIn_10 : decode cX8_mostIn 10 = .ok (.iconst 0, 1) := by decide +kernel
theorem dX8_mostIn_11 : decode cX8_mostIn 11 = .ok (.ireturn, 1) := by decide +kernel
theorem dX8_mostIn_12 : decode cX8_mostIn 12 = .ok (.iconst 0, 1) := by decide +kernel
theorem dX8_mostIn_13 : decode cX8_mostIn 13 = .ok (.istore_n 2, 1) := by decide +kernel
theorem dX8_mostIn_14 : decode cX8_mostIn 14 = .ok (.iconst 0, 1) := by decide +kernel
theorem dX8_mostIn_15 : decode cX8_mostIn 15 = .ok (.istore_n 3, 1) := by decide +kernel
theorem dX8_mostIn_16 : decode cX8_mostIn 16 = .ok (.iload_n 3, 1) := by decide +kernel
theorem dX8_mostIn_17 : decode cX8_mostIn 17 = .ok (.iconst 4, 1) := by decide +kernel
theorem dX8_mostIn_18 : decode cX8_mostIn 18 = .ok (.if_icmp .ge 34, 3) := by decide +kernel
theorem dX8_mostIn_21 : decode cX8_mostIn 21 = .ok (.aload_n 0, 1) := by decide +kernel
theorem dX8_mostIn_22 : decode cX8_mostIn 22 = .ok (.getfield 9, 3) := by decide +kernel
theorem dX8_mostIn_25 : decode cX8_mostIn 25 = .ok (.iload_n 1, 1) := by decide +kernel
theorem dX8_mostIn_26 : decode cX8_mostIn 26 = .ok (.iconst 4, 1) := by decide +kernel
theorem dX8_mostIn_27 : decode cX8_mostIn 27 = .ok (.imul, 1) := by decide +kernel
theorem dX8_mostIn_28 : decode cX8_mostIn 28 = .ok (.iload_n 3, 1) := by decide +kernel
theorem dX8_mostIn_29 : decode cX8_mostIn 29 = .ok (.iadd, 1) := by decide +kernel
theorem dX8_mostIn_30 : decode cX8_mostIn 30 = .ok (.iaload, 1) := by decide +kernel
theorem dX8_mostIn_31 : decode cX8_mostIn 31 = .ok (.istore 4, 2) := by decide +kernel
theorem dX8_mostIn_33 : decode cX8_mostIn 33 = .ok (.iload 4, 2) := by decide +kernel
theorem dX8_mostIn_35 : decode cX8_mostIn 35 = .ok (.iload_n 2, 1) := by decide +kernel
theorem dX8_mostIn_36 : decode cX8_mostIn 36 = .ok (.if_icmp .le 8, 3) := by decide +kernel
theorem dX8_mostIn_39 : decode cX8_mostIn 39 = .ok (.iload 4, 2) := by decide +kernel
theorem dX8_mostIn_41 : decode cX8_mostIn 41 = .ok (.goto 4, 3) := by decide +kernel
theorem dX8_mostIn_44 : decode cX8_mostIn 44 = .ok (.iload_n 2, 1) := by decide +kernel
theorem dX8_mostIn_45 : decode cX8_mostIn 45 = .ok (.istore_n 2, 1) := by decide +kernel
theorem dX8_mostIn_46 : decode cX8_mostIn 46 = .ok (.iinc 3 1, 3) := by decide +kernel
theorem dX8_mostIn_49 : decode cX8_mostIn 49 = .ok (.goto (-33), 3) := by decide +kernel
theorem dX8_mostIn_52 : decode cX8_mostIn 52 = .ok (.iload_n 2, 1) := by decide +kernel
theorem dX8_mostIn_53 : decode cX8_mostIn 53 = .ok (.ireturn, 1) := by decide +kernel
theorem dX8_speedAt_0 : decode cX8_speedAt 0 = .ok (.bipush 120, 2) := by decide +kernel
theorem dX8_speedAt_2 : decode cX8_speedAt 2 = .ok (.iconst 5, 1) := by decide +kernel
theorem dX8_speedAt_3 : decode cX8_speedAt 3 = .ok (.aload_n 0, 1) := by decide +kernel
theorem dX8_speedAt_4 : decode cX8_speedAt 4 = .ok (.iload_n 1, 1) := by decide +kernel
theorem dX8_speedAt_5 : decode cX8_speedAt 5 = .ok (.invokevirtual 35, 3) := by decide +kernel
theorem dX8_speedAt_8 : decode cX8_speedAt 8 = .ok (.imul, 1) := by decide +kernel
theorem dX8_speedAt_9 : decode cX8_speedAt 9 = .ok (.isub, 1) := by decide +kernel
theorem dX8_speedAt_10 : decode cX8_speedAt 10 = .ok (.ireturn, 1) := by decide +kernel
theorem dX8_countOnRoad_0 : decode cX8_countOnRoad 0 = .ok (.iconst 0, 1) := by decide +kernel
theorem dX8_countOnRoad_1 : decode cX8_countOnRoad 1 = .ok (.istore_n 1, 1) := by decide +kernel
theorem dX8_countOnRoad_2 : decode cX8_countOnRoad 2 = .ok (.iconst 0, 1) := by decide +kernel
theorem dX8_countOnRoad_3 : decode cX8_countOnRoad 3 = .ok (.istore_n 2, 1) := by decide +kernel
theorem dX8_countOnRoad_4 : decode cX8_countOnRoad 4 = .ok (.iload_n 2, 1) := by decide +kernel
theorem dX8_countOnRoad_5 : decode cX8_countOnRoad 5 = .ok (.bipush 48, 2) := by decide +kernel
theorem dX8_countOnRoad_7 : decode cX8_countOnRoad 7 = .ok (.if_icmp .ge 18, 3) := by decide +kernel
theorem dX8_countOnRoad_10 : decode cX8_countOnRoad 10 = .ok (.iload_n 1, 1) := by decide +kernel
theorem dX8_countOnRoad_11 : decode cX8_countOnRoad 11 = .ok (.aload_n 0, 1) := by decide +kernel
theorem dX8_countOnRoad_12 : decode cX8_countOnRoad 12 = .ok (.getfield 9, 3) := by decide +kernel
theorem dX8_countOnRoad_15 : decode cX8_countOnRoad 15 = .ok (.iload_n 2, 1) := by decide +kernel
theorem dX8_countOnRoad_16 : decode cX8_countOnRoad 16 = .ok (.iaload, 1) := by decide +kernel
theorem dX8_countOnRoad_17 : decode cX8_countOnRoad 17 = .ok (.iadd, 1) := by decide +kernel
theorem dX8_countOnRoad_18 : decode cX8_countOnRoad 18 = .ok (.istore_n 1, 1) := by decide +kernel
theorem dX8_countOnRoad_19 : decode cX8_countOnRoad 19 = .ok (.iinc 2 1, 3) := by decide +kernel
theorem dX8_countOnRoad_22 : decode cX8_countOnRoad 22 = .ok (.goto (-18), 3) := by decide +kernel
theorem dX8_countOnRoad_25 : decode cX8_countOnRoad 25 = .ok (.iload_n 1, 1) := by decide +kernel
theorem dX8_countOnRoad_26 : decode cX8_countOnRoad 26 = .ok (.ireturn, 1) := by decide +kernel
theorem dX9_init_0 : decode cX9_init 0 = .ok (.aload_n 0, 1) := by decide +kernel
theorem dX9_init_1 : decode cX9_init 1 = .ok (.invokespecial 1, 3) := by decide +kernel
theorem dX9_init_4 : decode cX9_init 4 = .ok (.aload_n 0, 1) := by decide +kernel
theorem dX9_init_5 : decode cX9_init 5 = .ok (.iconst 0, 1) := by decide +kernel
theorem dX9_init_6 : decode cX9_init 6 = .ok (.putfield 7, 3) := by decide +kernel
theorem dX9_init_9 : decode cX9_init 9 = .ok (.aload_n 0, 1) := by decide +kernel
theorem dX9_init_10 : decode cX9_init 10 = .ok (.new 13, 3) := by decide +kernel
theorem dX9_init_13 : decode cX9_init 13 = .ok (.dup, 1) := by decide +kernel
theorem dX9_init_14 : decode cX9_init 14 = .ok (.invokespecial 15, 3) := by decide +kernel
theorem dX9_init_17 : decode cX9_init 17 = .ok (.putfield 16, 3) := by decide +kernel
theorem dX9_init_20 : decode cX9_init 20 = .ok (.aload_n 0, 1) := by decide +kernel
theorem dX9_init_21 : decode cX9_init 21 = .ok (.new 20, 3) := by decide +kernel
theorem dX9_init_24 : decode cX9_init 24 = .ok (.dup, 1) := by decide +kernel
theorem dX9_init_25 : decode cX9_init 25 = .ok (.invokespecial 22, 3) := by decide +kernel
theorem dX9_init_28 : decode cX9_init 28 = .ok (.putfield 23, 3) := by decide +kernel
theorem dX9_init_31 : decode cX9_init 31 = .ok (.aload_n 0, 1) := by decide +kernel
theorem dX9_init_32 : decode cX9_init 32 = .ok (.new 27, 3) := by decide +kernel
theorem dX9_init_35 : decode cX9_init 35 = .ok (.dup, 1) := by decide +kernel
theorem dX9_init_36 : decode cX9_init 36 = .ok (.invokespecial 29, 3) := by decide +kernel
theorem dX9_init_39 : decode cX9_init 39 = .ok (.putfield 30, 3) := by decide +kernel
theorem dX9_init_42 : decode cX9_init 42 = .ok (.aload_n 0, 1) := by decide +kernel
theorem dX9_init_43 : decode cX9_init 43 = .ok (.new 34, 3) := by decide +kernel
theorem dX9_init_46 : decode cX9_init 46 = .ok (.dup, 1) := by decide +kernel
theorem dX9_init_47 : decode cX9_init 47 = .ok (.invokespecial 36, 3) := by decide +kernel
theorem dX9_init_50 : decode cX9_init 50 = .ok (.putfield 37, 3) := by decide +kernel
theorem dX9_init_53 : decode cX9_init 53 = .ok (.aload_n 0, 1) := by decide +kernel
theorem dX9_init_54 : decode cX9_init 54 = .ok (.new 41, 3) := by decide +kernel
theorem dX9_init_57 : decode cX9_init 57 = .ok (.dup, 1) := by decide +kernel
theorem dX9_init_58 : decode cX9_init 58 = .ok (.invokespecial 43, 3) := by decide +kernel
theorem dX9_init_61 : decode cX9_init 61 = .ok (.putfield 44, 3) := by decide +kernel
theorem dX9_init_64 : decode cX9_init 64 = .ok (.aload_n 0, 1) := by decide +kernel
theorem dX9_init_65 : decode cX9_init 65 = .ok (.new 48, 3) := by decide +kernel
theorem dX9_init_68 : decode cX9_init 68 = .ok (.dup, 1) := by decide +kernel
theorem dX9_init_69 : decode cX9_init 69 = .ok (.invokespecial 50, 3) := by decide +kernel
theorem dX9_init_72 : decode cX9_init 72 = .ok (.putfield 51, 3) := by decide +kernel
theorem dX9_init_75 : decode cX9_init 75 = .ok (.aload_n 0, 1) := by decide +kernel
theorem dX9_init_76 : decode cX9_init 76 = .ok (.new 55, 3) := by decide +kernel
theorem dX9_init_79 : decode cX9_init 79 = .ok (.dup, 1) := by decide +kernel
theorem dX9_init_80 : decode cX9_init 80 = .ok (.invokespecial 57, 3) := by decide +kernel
theorem dX9_init_83 : decode cX9_init 83 = .ok (.putfield 58, 3) := by decide +kernel
theorem dX9_init_86 : decode cX9_init 86 = .ok (.aload_n 0, 1) := by decide +kernel
theorem dX9_init_87 : decode cX9_init 87 = .ok (.new 62, 3) := by decide +kernel
theorem dX9_init_90 : decode cX9_init 90 = .ok (.dup, 1) := by decide +kernel
theorem dX9_init_91 : decode cX9_init 91 = .ok (.invokespecial 64, 3) := by decide +kernel
theorem dX9_init_94 : decode cX9_init 94 = .ok (.putfield 65, 3) := by decide +kernel
theorem dX9_init_97 : decode cX9_init 97 = .ok (.aload_n 0, 1) := by decide +kernel
theorem dX9_init_98 : decode cX9_init 98 = .ok (.new 69, 3) := by decide +kernel
theorem dX9_init_101 : decode cX9_init 101 = .ok (.dup, 1) := by decide +kernel
theorem dX9_init_102 : decode cX9_init 102 = .ok (.invokespecial 71, 3) := by decide +kernel
theorem dX9_init_105 : decode cX9_init 105 = .ok (.putfield 72, 3) := by decide +kernel
theorem dX9_init_108 : decode cX9_init 108 = .ok (.aload_n 0, 1) := by decide +kernel
theorem dX9_init_109 : decode cX9_init 109 = .ok (.getfield 37, 3) := by decide +kernel
theorem dX9_init_112 : decode cX9_init 112 = .ok (.aload_n 0, 1) := by decide +kernel
theorem dX9_init_113 : decode cX9_init 113 = .ok (.getfield 7, 3) := by decide +kernel
theorem dX9_init_116 : decode cX9_init 116 = .ok (.aload_n 0, 1) := by decide +kernel
theorem dX9_init_117 : decode cX9_init 117 = .ok (.getfield 44, 3) := by decide +kernel
theorem dX9_init_120 : decode cX9_init 120 = .ok (.aload_n 0, 1) := by decide +kernel
theorem dX9_init_121 : decode cX9_init 121 = .ok (.getfield 51, 3) := by decide +kernel
theorem dX9_init_124 : decode cX9_init 124 = .ok (.aload_n 0, 1) := by decide +kernel
theorem dX9_init_125 : decode cX9_init 125 = .ok (.getfield 65, 3) := by decide +kernel
theorem dX9_init_128 : decode cX9_init 128 = .ok (.invokevirtual 76, 3) := by decide +kernel
theorem dX9_init_131 : decode cX9_init 131 = .ok (.aload_n 0, 1) := by decide +kernel
theorem dX9_init_132 : decode cX9_init 132 = .ok (.getfield 72, 3) := by decide +kernel
theorem dX9_init_135 : decode cX9_init 135 = .ok (.aload_n 0, 1) := by decide +kernel
theorem dX9_init_136 : decode cX9_init 136 = .ok (.getfield 7, 3) := by decide +kernel
theorem dX9_init_139 : decode cX9_init 139 = .ok (.aload_n 0, 1) := by decide +kernel
theorem dX9_init_140 : decode cX9_init 140 = .ok (.getfield 30, 3) := by decide +kernel
theorem dX9_init_143 : decode cX9_init 143 = .ok (.getfield 80, 3) := by decide +kernel
theorem dX9_init_146 : decode cX9_init 146 = .ok (.aload_n 0, 1) := by decide +kernel
theorem dX9_init_147 : decode cX9_init 147 = .ok (.getfield 37, 3) := by decide +kernel
theorem dX9_init_150 : decode cX9_init 150 = .ok (.getfield 84, 3) := by decide +kernel
theorem dX9_init_153 : decode cX9_init 153 = .ok (.invokevirtual 85, 3) := by decide +kernel
theorem dX9_init_156 : decode cX9_init 156 = .ok (.return_, 1) := by decide +kernel
theorem dX9_holds_0 : decode cX9_holds 0 = .ok (.iload_n 1, 1) := by decide +kernel
theorem dX9_holds_1 : decode cX9_holds 1 = .ok (.iload_n 2, 1) := by decide +kernel
theorem dX9_holds_2 : decode cX9_holds 2 = .ok (.invokestatic 106, 3) := by decide +kernel
theorem dX9_holds_5 : decode cX9_holds 5 = .ok (.aload_n 0, 1) := by decide +kernel
theorem dX9_holds_6 : decode cX9_holds 6 = .ok (.getfield 16, 3) := by decide +kernel
theorem dX9_holds_9 : decode cX9_holds 9 = .ok (.getfield 110, 3) := by decide +kernel
theorem dX9_holds_12 : decode cX9_holds 12 = .ok (.iload_n 1, 1) := by decide +kernel
theorem dX9_holds_13 : decode cX9_holds 13 = .ok (.iload_n 2, 1) := by decide +kernel
theorem dX9_holds_14 : decode cX9_holds 14 = .ok (.invokestatic 113, 3) := by decide +kernel
theorem dX9_holds_17 : decode cX9_holds 17 = .ok (.iaload, 1) := by decide +kernel
theorem dX9_holds_18 : decode cX9_holds 18 = .ok (.ireturn, 1) := by decide +kernel
theorem dX9_vehicles_0 : decode cX9_vehicles 0 = .ok (.iload_n 1, 1) := by decide +kernel
theorem dX9_vehicles_1 : decode cX9_vehicles 1 = .ok (.iconst 0, 1) := by decide +kernel
theorem dX9_vehicles_2 : decode cX9_vehicles 2 = .ok (.iconst 3, 1) := by decide +kernel
theorem dX9_vehicles_3 : decode cX9_vehicles 3 = .ok (.invokestatic 89, 3) := by decide +kernel
theorem dX9_vehicles_6 : decode cX9_vehicles 6 = .ok (.invokestatic 93, 3) := by decide +kernel
theorem dX9_vehicles_9 : decode cX9_vehicles 9 = .ok (.iload_n 1, 1) := by decide +kernel
theorem dX9_vehicles_10 : decode cX9_vehicles 10 = .ok (.tableswitch 50 0 2 #[26, 34, 42], 26) := by decide +kernel
theorem dX9_vehicles_36 : decode cX9_vehicles 36 = .ok (.aload_n 0, 1) := by decide +kernel
theorem dX9_vehicles_37 : decode cX9_vehicles 37 = .ok (.getfield 16, 3) := by decide +kernel
theorem dX9_vehicles_40 : decode cX9_vehicles 40 = .ok (.getfield 117, 3) := by decide +kernel
theorem dX9_vehicles_43 : decode cX9_vehicles 43 = .ok (.ireturn, 1) := by decide +kernel
theorem dX9_vehicles_44 : decode cX9_vehicles 44 = .ok (.aload_n 0, 1) := by decide +kernel
theorem dX9_vehicles_45 : decode cX9_vehicles 45 = .ok (.getfield 16, 3) := by decide +kernel
theorem dX9_vehicles_48 : decode cX9_vehicles 48 = .ok (.invokevirtual 120, 3) := by decide +kernel
theorem dX9_vehicles_51 : decode cX9_vehicles 51 = .ok (.ireturn, 1) := by decide +kernel
theorem dX9_vehicles_52 : decode cX9_vehicles 52 = .ok (.aload_n 0, 1) := by decide +kernel
theorem dX9_vehicles_53 : decode cX9_vehicles 53 = .ok (.getfield 16, 3) := by decide +kernel
theorem dX9_vehicles_56 : decode cX9_vehicles 56 = .ok (.getfield 124, 3) := by decide +kernel
theorem dX9_vehicles_59 : decode cX9_vehicles 59 = .ok (.ireturn, 1) := by decide +kernel
theorem dX9_vehicles_60 : decode cX9_vehicles 60 = .ok (.aload_n 0, 1) := by decide +kernel
theorem dX9_vehicles_61 : decode cX9_vehicles 61 = .ok (.getfield 16, 3) := by decide +kernel
theorem dX9_vehicles_64 : decode cX9_vehicles 64 = .ok (.getfield 127, 3) := by decide +kernel
theorem dX9_vehicles_67 : decode cX9_vehicles 67 = .ok (.ireturn, 1) := by decide +kernel
theorem dX9_section_0 : decode cX9_section 0 = .ok (.iload_n 1, 1) := by decide +kernel
theorem dX9_section_1 : decode cX9_section 1 = .ok (.invokestatic 130, 3) := by decide +kernel
theorem dX9_section_4 : decode cX9_section 4 = .ok (.iload_n 2, 1) := by decide +kernel
theorem dX9_section_5 : decode cX9_section 5 = .ok (.iconst 0, 1) := by decide +kernel
theorem dX9_section_6 : decode cX9_section 6 = .ok (.iconst 5, 1) := by decide +kernel
theorem dX9_section_7 : decode cX9_section 7 = .ok (.invokestatic 89, 3) := by decide +kernel
theorem dX9_section_10 : decode cX9_section 10 = .ok (.invokestatic 93, 3) := by decide +kernel
theorem dX9_section_13 : decode cX9_section 13 = .ok (.iload_n 2, 1) := by decide +kernel
theorem dX9_section_14 : decode cX9_section 14 = .ok (.tableswitch 97 0 4 #[34, 43, 56, 69, 79], 34) := by decide +kernel
theorem dX9_section_48 : decode cX9_section 48 = .ok (.aload_n 0, 1) := by decide +kernel
theorem dX9_section_49 : decode cX9_section 49 = .ok (.getfield 16, 3) := by decide +kernel
theorem dX9_section_52 : decode cX9_section 52 = .ok (.iload_n 1, 1) := by decide +kernel
theorem dX9_section_53 : decode cX9_section 53 = .ok (.invokevirtual 134, 3) := by decide +kernel
theorem dX9_section_56 : decode cX9_section 56 = .ok (.ireturn, 1) := by decide +kernel
theorem dX9_section_57 : decode cX9_section 57 = .ok (.aload_n 0, 1) := by decide +kernel
theorem dX9_section_58 : decode cX9_section 58 = .ok (.getfield 23, 3) := by decide +kernel
theorem dX9_section_61 : decode cX9_section 61 = .ok (.iload_n 1, 1) := by decide +kernel
theorem dX9_section_62 : decode cX9_section 62 = .ok (.aload_n 0, 1) := by decide +kernel
theorem dX9_section_63 : decode cX9_section 63 = .ok (.getfield 16, 3) := by decide +kernel
theorem dX9_section_66 : decode cX9_section 66 = .ok (.invokevirtual 138, 3) := by decide +kernel
theorem dX9_section_69 : decode cX9_section 69 = .ok (.ireturn, 1) := by decide +kernel
theorem dX9_section_70 : decode cX9_section 70 = .ok (.aload_n 0, 1) := by decide +kernel
theorem dX9_section_71 : decode cX9_section 71 = .ok (.getfield 23, 3) := by decide +kernel
theorem dX9_section_74 : decode cX9_section 74 = .ok (.iload_n 1, 1) := by decide +kernel
theorem dX9_section_75 : decode cX9_section 75 = .ok (.aload_n 0, 1) := by decide +kernel
theorem dX9_section_76 : decode cX9_section 76 = .ok (.getfield 16, 3) := by decide +kernel
theorem dX9_section_79 : decode cX9_section 79 = .ok (.invokevirtual 142, 3) := by decide +kernel
theorem dX9_section_82 : decode cX9_section 82 = .ok (.ireturn, 1) := by decide +kernel
theorem dX9_section_83 : decode cX9_section 83 = .ok (.aload_n 0, 1) := by decide +kernel
theorem dX9_section_84 : decode cX9_section 84 = .ok (.getfield 30, 3) := by decide +kernel
theorem dX9_section_87 : decode cX9_section 87 = .ok (.getfield 80, 3) := by decide +kernel
theorem dX9_section_90 : decode cX9_section 90 = .ok (.iload_n 1, 1) := by decide +kernel
theorem dX9_section_91 : decode cX9_section 91 = .ok (.iaload, 1) := by decide +kernel
theorem dX9_section_92 : decode cX9_section 92 = .ok (.ireturn, 1) := by decide +kernel
theorem dX9_section_93 : decode cX9_section 93 = .ok (.aload_n 0, 1) := by decide +kernel
theorem dX9_section_94 : decode cX9_section 94 = .ok (.getfield 16, 3) := by decide +kernel
theorem dX9_section_97 : decode cX9_section 97 = .ok (.getfield 145, 3) := by decide +kernel
theorem dX9_section_100 : decode cX9_section 100 = .ok (.iload_n 1, 1) := by decide +kernel
theorem dX9_section_101 : decode cX9_section 101 = .ok (.baload, 1) := by decide +kernel
theorem dX9_section_102 : decode cX9_section 102 = .ok (.ifCond .eq 7, 3) := by decide +kernel
theorem dX9_section_105 : decode cX9_section 105 = .ok (.iconst 1, 1) := by decide +kernel
theorem dX9_section_106 : decode cX9_section 106 = .ok (.goto 4, 3) := by decide +kernel
theorem dX9_section_109 : decode cX9_section 109 = .ok (.iconst 0, 1) := by decide +kernel
theorem dX9_section_110 : decode cX9_section 110 = .ok (.ireturn, 1) := by decide +kernel
theorem dX9_section_111 : decode cX9_section 111 = .ok (.aload_n 0, 1) := by decide +kernel
theorem dX9_section_112 : decode cX9_section 112 = .ok (.getfield 23, 3) := by decide +kernel
theorem dX9_section_115 : decode cX9_section 115 = .ok (.getfield 149, 3) := by decide +kernel
theorem dX9_section_118 : decode cX9_section 118 = .ok (.iload_n 1, 1) := by decide +kernel
theorem dX9_section_119 : decode cX9_section 119 = .ok (.iaload, 1) := by decide +kernel
theorem dX9_section_120 : decode cX9_section 120 = .ok (.ireturn, 1) := by decide +kernel
theorem dX9_sign_0 : decode cX9_sign 0 = .ok (.iload_n 1, 1) := by decide +kernel
theorem dX9_sign_1 : decode cX9_sign 1 = .ok (.iload_n 2, 1) := by decide +kernel
theorem dX9_sign_2 : decode cX9_sign 2 = .ok (.invokestatic 106, 3) := by decide +kernel
theorem dX9_sign_5 : decode cX9_sign 5 = .ok (.aload_n 0, 1) := by decide +kernel
theorem dX9_sign_6 : decode cX9_sign 6 = .ok (.invokevirtual 168, 3) := by decide +kernel
theorem dX9_sign_9 : decode cX9_sign 9 = .ok (.aload_n 0, 1) := by decide +kernel
theorem dX9_sign_10 : decode cX9_sign 10 = .ok (.getfield 37, 3) := by decide +kernel
theorem dX9_sign_13 : decode cX9_sign 13 = .ok (.getfield 84, 3) := by decide +kernel
theorem dX9_sign_16 : decode cX9_sign 16 = .ok (.iload_n 1, 1) := by decide +kernel
theorem dX9_sign_17 : decode cX9_sign 17 = .ok (.iload_n 2, 1) := by decide +kernel
theorem dX9_sign_18 : decode cX9_sign 18 = .ok (.invokestatic 113, 3) := by decide +kernel
theorem dX9_sign_21 : decode cX9_sign 21 = .ok (.iaload, 1) := by decide +kernel
theorem dX9_sign_22 : decode cX9_sign 22 = .ok (.ireturn, 1) := by decide +kernel
theorem dX9_isLawful_0 : decode cX9_isLawful 0 = .ok (.aload_n 0, 1) := by decide +kernel
theorem dX9_isLawful_1 : decode cX9_isLawful 1 = .ok (.invokevirtual 168, 3) := by decide +kernel
theorem dX9_isLawful_4 : decode cX9_isLawful 4 = .ok (.aload_n 0, 1) := by decide +kernel
theorem dX9_isLawful_5 : decode cX9_isLawful 5 = .ok (.getfield 30, 3) := by decide +kernel
theorem dX9_isLawful_8 : decode cX9_isLawful 8 = .ok (.invokevirtual 171, 3) := by decide +kernel
theorem dX9_isLawful_11 : decode cX9_isLawful 11 = .ok (.ifCond .eq 17, 3) := by decide +kernel
theorem dX9_isLawful_14 : decode cX9_isLawful 14 = .ok (.aload_n 0, 1) := by decide +kernel
theorem dX9_isLawful_15 : decode cX9_isLawful 15 = .ok (.getfield 37, 3) := by decide +kernel
theorem dX9_isLawful_18 : decode cX9_isLawful 18 = .ok (.invokevirtual 175, 3) := by decide +kernel
theorem dX9_isLawful_21 : decode cX9_isLawful 21 = .ok (.ifCond .eq 7, 3) := by decide +kernel
theorem dX9_isLawful_24 : decode cX9_isLawful 24 = .ok (.iconst 1, 1) := by decide +kernel
theorem dX9_isLawful_25 : decode cX9_isLawful 25 = .ok (.goto 4, 3) := by decide +kernel
theorem dX9_isLawful_28 : decode cX9_isLawful 28 = .ok (.iconst 0, 1) := by decide +kernel
theorem dX9_isLawful_29 : decode cX9_isLawful 29 = .ok (.ireturn, 1) := by decide +kernel
theorem dX9_stop_0 : decode cX9_stop 0 = .ok (.iload_n 1, 1) := by decide +kernel
theorem dX9_stop_1 : decode cX9_stop 1 = .ok (.iload_n 2, 1) := by decide +kernel
theorem dX9_stop_2 : decode cX9_stop 2 = .ok (.invokestatic 106, 3) := by decide +kernel
theorem dX9_stop_5 : decode cX9_stop 5 = .ok (.iload_n 1, 1) := by decide +kernel
theorem dX9_stop_6 : decode cX9_stop 6 = .ok (.iload_n 2, 1) := by decide +kernel
theorem dX9_stop_7 : decode cX9_stop 7 = .ok (.invokestatic 113, 3) := by decide +kernel
theorem dX9_stop_10 : decode cX9_stop 10 = .ok (.istore_n 3, 1) := by decide +kernel
theorem dX9_stop_11 : decode cX9_stop 11 = .ok (.aload_n 0, 1) := by decide +kernel
theorem dX9_stop_12 : decode cX9_stop 12 = .ok (.getfield 16, 3) := by decide +kernel
theorem dX9_stop_15 : decode cX9_stop 15 = .ok (.getfield 191, 3) := by decide +kernel
theorem dX9_stop_18 : decode cX9_stop 18 = .ok (.iload_n 3, 1) := by decide +kernel
theorem dX9_stop_19 : decode cX9_stop 19 = .ok (.baload, 1) := by decide +kernel
theorem dX9_stop_20 : decode cX9_stop 20 = .ok (.ifCond .ne 7, 3) := by decide +kernel
theorem dX9_stop_23 : decode cX9_stop 23 = .ok (.iconst 1, 1) := by decide +kernel
theorem dX9_stop_24 : decode cX9_stop 24 = .ok (.goto 4, 3) := by decide +kernel
theorem dX9_stop_27 : decode cX9_stop 27 = .ok (.iconst 0, 1) := by decide +kernel
theorem dX9_stop_28 : decode cX9_stop 28 = .ok (.invokestatic 100, 3) := by decide +kernel
theorem dX9_stop_31 : decode cX9_stop 31 = .ok (.aload_n 0, 1) := by decide +kernel
theorem dX9_stop_32 : decode cX9_stop 32 = .ok (.getfield 16, 3) := by decide +kernel
theorem dX9_stop_35 : decode cX9_stop 35 = .ok (.getfield 191, 3) := by decide +kernel
theorem dX9_stop_38 : decode cX9_stop 38 = .ok (.iload_n 3, 1) := by decide +kernel
theorem dX9_stop_39 : decode cX9_stop 39 = .ok (.iconst 1, 1) := by decide +kernel
theorem dX9_stop_40 : decode cX9_stop 40 = .ok (.bastore, 1) := by decide +kernel
theorem dX9_stop_41 : decode cX9_stop 41 = .ok (.iload_n 2, 1) := by decide +kernel
theorem dX9_stop_42 : decode cX9_stop 42 = .ok (.ifCond .ne 23, 3) := by decide +kernel
theorem dX9_stop_45 : decode cX9_stop 45 = .ok (.aload_n 0, 1) := by decide +kernel
theorem dX9_stop_46 : decode cX9_stop 46 = .ok (.getfield 44, 3) := by decide +kernel
theorem dX9_stop_49 : decode cX9_stop 49 = .ok (.getfield 179, 3) := by decide +kernel
theorem dX9_stop_52 : decode cX9_stop 52 = .ok (.iload_n 1, 1) := by decide +kernel
theorem dX9_stop_53 : decode cX9_stop 53 = .ok (.sipush (-1000), 3) := by decide +kernel
theorem dX9_stop_56 : decode cX9_stop 56 = .ok (.iastore, 1) := by decide +kernel
theorem dX9_stop_57 : decode cX9_stop 57 = .ok (.aload_n 0, 1) := by decide +kernel
theorem dX9_stop_58 : decode cX9_stop 58 = .ok (.getfield 44, 3) := by decide +kernel
theorem dX9_stop_61 : decode cX9_stop 61 = .ok (.invokevirtual 188, 3) := by decide +kernel
theorem dX9_stop_64 : decode cX9_stop 64 = .ok (.pop, 1) := by decide +kernel
theorem dX9_stop_65 : decode cX9_stop 65 = .ok (.return_, 1) := by decide +kernel
theorem dX9_pattern_0 : decode cX9_pattern 0 = .ok (.iconst 0, 1) := by decide +kernel
theorem dX9_pattern_1 : decode cX9_pattern 1 = .ok (.istore_n 1, 1) := by decide +kernel
theorem dX9_pattern_2 : decode cX9_pattern 2 = .ok (.iload_n 1, 1) := by decide +kernel
theorem dX9_pattern_3 : decode cX9_pattern 3 = .ok (.bipush 11, 2) := by decide +kernel
theorem dX9_pattern_5 : decode cX9_pattern 5 = .ok (.if_icmp .ge 54, 3) := by decide +kernel
theorem dX9_pattern_8 : decode cX9_pattern 8 = .ok (.aload_n 0, 1) := by decide +kernel
theorem dX9_pattern_9 : decode cX9_pattern 9 = .ok (.getfield 23, 3) := by decide +kernel
theorem dX9_pattern_12 : decode cX9_pattern 12 = .ok (.iload_n 1, 1) := by decide +kernel
theorem dX9_pattern_13 : decode cX9_pattern 13 = .ok (.aload_n 0, 1) := by decide +kernel
theorem dX9_pattern_14 : decode cX9_pattern 14 = .ok (.getfield 16, 3) := by decide +kernel
theorem dX9_pattern_17 : decode cX9_pattern 17 = .ok (.invokevirtual 138, 3) := by decide +kernel
theorem dX9_pattern_20 : decode cX9_pattern 20 = .ok (.istore_n 2, 1) := by decide +kernel
theorem dX9_pattern_21 : decode cX9_pattern 21 = .ok (.iload_n 2, 1) := by decide +kernel
theorem dX9_pattern_22 : decode cX9_pattern 22 = .ok (.iconst (-1), 1) := by decide +kernel
theorem dX9_pattern_23 : decode cX9_pattern 23 = .ok (.if_icmp .eq 30, 3) := by decide +kernel
theorem dX9_pattern_26 : decode cX9_pattern 26 = .ok (.iload_n 2, 1) := by decide +kernel
theorem dX9_pattern_27 : decode cX9_pattern 27 = .ok (.bipush 40, 2) := by decide +kernel
theorem dX9_pattern_29 : decode cX9_pattern 29 = .ok (.if_icmp .ge 24, 3) := by decide +kernel
theorem dX9_pattern_32 : decode cX9_pattern 32 = .ok (.aload_n 0, 1) := by decide +kernel
theorem dX9_pattern_33 : decode cX9_pattern 33 = .ok (.getfield 23, 3) := by decide +kernel
theorem dX9_pattern_36 : decode cX9_pattern 36 = .ok (.iload_n 1, 1) := by decide +kernel
theorem dX9_pattern_37 : decode cX9_pattern 37 = .ok (.iconst 1, 1) := by decide +kernel
theorem dX9_pattern_38 : decode cX9_pattern 38 = .ok (.iadd, 1) := by decide +kernel
theorem dX9_pattern_39 : decode cX9_pattern 39 = .ok (.aload_n 0, 1) := by decide +kernel
theorem dX9_pattern_40 : decode cX9_pattern 40 = .ok (.getfield 16, 3) := by decide +kernel
theorem dX9_pattern_43 : decode cX9_pattern 43 = .ok (.invokevirtual 138, 3) := by decide +kernel
theorem dX9_pattern_46 : decode cX9_pattern 46 = .ok (.bipush 80, 2) := by decide +kernel
theorem dX9_pattern_48 : decode cX9_pattern 48 = .ok (.if_icmp .lt 5, 3) := by decide +kernel
theorem dX9_pattern_51 : decode cX9_pattern 51 = .ok (.iload_n 1, 1) := by decide +kernel
theorem dX9_pattern_52 : decode cX9_pattern 52 = .ok (.ireturn, 1) := by decide +kernel
theorem dX9_pattern_53 : decode cX9_pattern 53 = .ok (.iinc 1 1, 3) := by decide +kernel
theorem dX9_pattern_56 : decode cX9_pattern 56 = .ok (.goto (-54), 3) := by decide +kernel
theorem dX9_pattern_59 : decode cX9_pattern 59 = .ok (.iconst (-1), 1) := by decide +kernel
theorem dX9_pattern_60 : decode cX9_pattern 60 = .ok (.ireturn, 1) := by decide +kernel
theorem dX9_proof_0 : decode cX9_proof 0 = .ok (.iload_n 2, 1) := by decide +kernel
theorem dX9_proof_1 : decode cX9_proof 1 = .ok (.invokestatic 130, 3) := by decide +kernel
theorem dX9_proof_4 : decode cX9_proof 4 = .ok (.iload_n 1, 1) := by decide +kernel
theorem dX9_proof_5 : decode cX9_proof 5 = .ok (.ifCond .lt 7, 3) := by decide +kernel
theorem dX9_proof_8 : decode cX9_proof 8 = .ok (.iconst 1, 1) := by decide +kernel
theorem dX9_proof_9 : decode cX9_proof 9 = .ok (.goto 4, 3) := by decide +kernel
theorem dX9_proof_12 : decode cX9_proof 12 = .ok (.iconst 0, 1) := by decide +kernel
theorem dX9_proof_13 : decode cX9_proof 13 = .ok (.invokestatic 93, 3) := by decide +kernel
theorem dX9_proof_16 : decode cX9_proof 16 = .ok (.iload_n 3, 1) := by decide +kernel
theorem dX9_proof_17 : decode cX9_proof 17 = .ok (.iconst 0, 1) := by decide +kernel
theorem dX9_proof_18 : decode cX9_proof 18 = .ok (.iconst 4, 1) := by decide +kernel
theorem dX9_proof_19 : decode cX9_proof 19 = .ok (.invokestatic 89, 3) := by decide +kernel
theorem dX9_proof_22 : decode cX9_proof 22 = .ok (.invokestatic 93, 3) := by decide +kernel
theorem dX9_proof_25 : decode cX9_proof 25 = .ok (.iload_n 1, 1) := by decide +kernel
theorem dX9_proof_26 : decode cX9_proof 26 = .ok (.aload_n 0, 1) := by decide +kernel
theorem dX9_proof_27 : decode cX9_proof 27 = .ok (.getfield 7, 3) := by decide +kernel
theorem dX9_proof_30 : decode cX9_proof 30 = .ok (.invokestatic 248, 3) := by decide +kernel
theorem dX9_proof_33 : decode cX9_proof 33 = .ok (.invokestatic 100, 3) := by decide +kernel
theorem dX9_proof_36 : decode cX9_proof 36 = .ok (.iload_n 3, 1) := by decide +kernel
theorem dX9_proof_37 : decode cX9_proof 37 = .ok (.ifCond .ne 13, 3) := by decide +kernel
theorem dX9_proof_40 : decode cX9_proof 40 = .ok (.aload_n 0, 1) := by decide +kernel
theorem dX9_proof_41 : decode cX9_proof 41 = .ok (.getfield 72, 3) := by decide +kernel
theorem dX9_proof_44 : decode cX9_proof 44 = .ok (.iload_n 1, 1) := by decide +kernel
theorem dX9_proof_45 : decode cX9_proof 45 = .ok (.iload_n 2, 1) := by decide +kernel
theorem dX9_proof_46 : decode cX9_proof 46 = .ok (.invokevirtual 251, 3) := by decide +kernel
theorem dX9_proof_49 : decode cX9_proof 49 = .ok (.ireturn, 1) := by decide +kernel
theorem dX9_proof_50 : decode cX9_proof 50 = .ok (.aload_n 0, 1) := by decide +kernel
theorem dX9_proof_51 : decode cX9_proof 51 = .ok (.getfield 72, 3) := by decide +kernel
theorem dX9_proof_54 : decode cX9_proof 54 = .ok (.iload_n 1, 1) := by decide +kernel
theorem dX9_proof_55 : decode cX9_proof 55 = .ok (.iload_n 2, 1) := by decide +kernel
theorem dX9_proof_56 : decode cX9_proof 56 = .ok (.iload_n 3, 1) := by decide +kernel
theorem dX9_proof_57 : decode cX9_proof 57 = .ok (.iconst 1, 1) := by decide +kernel
theorem dX9_proof_58 : decode cX9_proof 58 = .ok (.isub, 1) := by decide +kernel
theorem dX9_proof_59 : decode cX9_proof 59 = .ok (.invokevirtual 254, 3) := by decide +kernel
theorem dX9_proof_62 : decode cX9_proof 62 = .ok (.ireturn, 1) := by decide +kernel
theorem dX9_isWithin_0 : decode cX9_isWithin 0 = .ok (.iload_n 0, 1) := by decide +kernel
theorem dX9_isWithin_1 : decode cX9_isWithin 1 = .ok (.iload_n 1, 1) := by decide +kernel
theorem dX9_isWithin_2 : decode cX9_isWithin 2 = .ok (.if_icmp .lt 12, 3) := by decide +kernel
theorem dX9_isWithin_5 : decode cX9_isWithin 5 = .ok (.iload_n 0, 1) := by decide +kernel
theorem dX9_isWithin_6 : decode cX9_isWithin 6 = .ok (.iload_n 2, 1) := by decide +kernel
theorem dX9_isWithin_7 : decode cX9_isWithin 7 = .ok (.if_icmp .gt 7, 3) := by decide +kernel
theorem dX9_isWithin_10 : decode cX9_isWithin 10 = .ok (.iconst 1, 1) := by decide +kernel
theorem dX9_isWithin_11 : decode cX9_isWithin 11 = .ok (.goto 4, 3) := by decide +kernel
theorem dX9_isWithin_14 : decode cX9_isWithin 14 = .ok (.iconst 0, 1) := by decide +kernel
theorem dX9_isWithin_15 : decode cX9_isWithin 15 = .ok (.ireturn, 1) := by decide +kernel
theorem dX9_placeOf_0 : decode cX9_placeOf 0 = .ok (.iload_n 0, 1) := by decide +kernel
theorem dX9_placeOf_1 : decode cX9_placeOf 1 = .ok (.iconst 4, 1) := by decide +kernel
theorem dX9_placeOf_2 : decode cX9_placeOf 2 = .ok (.imul, 1) := by decide +kernel
theorem dX9_placeOf_3 : decode cX9_placeOf 3 = .ok (.iload_n 1, 1) := by decide +kernel
theorem dX9_placeOf_4 : decode cX9_placeOf 4 = .ok (.iadd, 1) := by decide +kernel
theorem dX9_placeOf_5 : decode cX9_placeOf 5 = .ok (.ireturn, 1) := by decide +kernel
theorem dX9_needIndex_0 : decode cX9_needIndex 0 = .ok (.iload_n 0, 1) := by decide +kernel
theorem dX9_needIndex_1 : decode cX9_needIndex 1 = .ok (.ifCond .ne 14, 3) := by decide +kernel
theorem dX9_needIndex_4 : decode cX9_needIndex 4 = .ok (.new 258, 3) := by decide +kernel
theorem dX9_needIndex_7 : decode cX9_needIndex 7 = .ok (.dup, 1) := by decide +kernel
theorem dX9_needIndex_8 : decode cX9_needIndex 8 = .ok (.ldc_w 260, 3) := by decide +kernel
theorem dX9_needIndex_11 : decode cX9_needIndex 11 = .ok (.invokespecial 262, 3) := by decide +kernel
theorem dX9_needIndex_14 : decode cX9_needIndex 14 = .ok (.athrow, 1) := by decide +kernel
theorem dX9_needIndex_15 : decode cX9_needIndex 15 = .ok (.return_, 1) := by decide +kernel
theorem dX9_needArgument_0 : decode cX9_needArgument 0 = .ok (.iload_n 0, 1) := by decide +kernel
theorem dX9_needArgument_1 : decode cX9_needArgument 1 = .ok (.ifCond .ne 14, 3) := by decide +kernel
theorem dX9_needArgument_15 : decode cX9_needArgument 15 = .ok (.return_, 1) := by decide +kernel
theorem dX9_needState_0 : decode cX9_needState 0 = .ok (.iload_n 0, 1) := by decide +kernel
theorem dX9_needState_1 : decode cX9_needState 1 = .ok (.ifCond .ne 14, 3) := by decide +kernel
theorem dX9_needState_4 : decode cX9_needState 4 = .ok (.new 270, 3) := by decide +kernel
theorem dX9_needState_7 : decode cX9_needState 7 = .ok (.dup, 1) := by decide +kernel
theorem dX9_needState_8 : decode cX9_needState 8 = .ok (.ldc_w 272, 3) := by decide +kernel
theorem dX9_needState_11 : decode cX9_needState 11 = .ok (.invokespecial 274, 3) := by decide +kernel
theorem dX9_needState_14 : decode cX9_needState 14 = .ok (.athrow, 1) := by decide +kernel
theorem dX9_needState_15 : decode cX9_needState 15 = .ok (.return_, 1) := by decide +kernel
theorem dX9_needSection_0 : decode cX9_needSection 0 = .ok (.iload_n 0, 1) := by decide +kernel
theorem dX9_needSection_1 : decode cX9_needSection 1 = .ok (.iconst 0, 1) := by decide +kernel
theorem dX9_needSection_2 : decode cX9_needSection 2 = .ok (.bipush 11, 2) := by decide +kernel
theorem dX9_needSection_4 : decode cX9_needSection 4 = .ok (.invokestatic 89, 3) := by decide +kernel
theorem dX9_needSection_7 : decode cX9_needSection 7 = .ok (.invokestatic 203, 3) := by decide +kernel
theorem dX9_needSection_10 : decode cX9_needSection 10 = .ok (.return_, 1) := by decide +kernel
theorem dX9_needPlace_0 : decode cX9_needPlace 0 = .ok (.iload_n 0, 1) := by decide +kernel
theorem dX9_needPlace_1 : decode cX9_needPlace 1 = .ok (.invokestatic 130, 3) := by decide +kernel
theorem dX9_needPlace_4 : decode cX9_needPlace 4 = .ok (.iload_n 1, 1) := by decide +kernel
theorem dX9_needPlace_5 : decode cX9_needPlace 5 = .ok (.iconst 0, 1) := by decide +kernel
theorem dX9_needPlace_6 : decode cX9_needPlace 6 = .ok (.iconst 3, 1) := by decide +kernel
theorem dX9_needPlace_7 : decode cX9_needPlace 7 = .ok (.invokestatic 89, 3) := by decide +kernel
theorem dX9_needPlace_10 : decode cX9_needPlace 10 = .ok (.invokestatic 203, 3) := by decide +kernel
theorem dX9_needPlace_13 : decode cX9_needPlace 13 = .ok (.return_, 1) := by decide +kernel
theorem dX9_setLaneSigns_0 : decode cX9_setLaneSigns 0 = .ok (.aload_n 0, 1) := by decide +kernel
theorem dX9_setLaneSigns_1 : decode cX9_setLaneSigns 1 = .ok (.getfield 37, 3) := by decide +kernel
theorem dX9_setLaneSigns_4 : decode cX9_setLaneSigns 4 = .ok (.aload_n 0, 1) := by decide +kernel
theorem dX9_setLaneSigns_5 : decode cX9_setLaneSigns 5 = .ok (.getfield 7, 3) := by decide +kernel
theorem dX9_setLaneSigns_8 : decode cX9_setLaneSigns 8 = .ok (.aload_n 0, 1) := by decide +kernel
theorem dX9_setLaneSigns_9 : decode cX9_setLaneSigns 9 = .ok (.getfield 44, 3) := by decide +kernel
theorem dX9_setLaneSigns_12 : decode cX9_setLaneSigns 12 = .ok (.aload_n 0, 1) := by decide +kernel
theorem dX9_setLaneSigns_13 : decode cX9_setLaneSigns 13 = .ok (.getfield 51, 3) := by decide +kernel
theorem dX9_setLaneSigns_16 : decode cX9_setLaneSigns 16 = .ok (.aload_n 0, 1) := by decide +kernel
theorem dX9_setLaneSigns_17 : decode cX9_setLaneSigns 17 = .ok (.getfield 65, 3) := by decide +kernel
theorem dX9_setLaneSigns_20 : decode cX9_setLaneSigns 20 = .ok (.invokevirtual 76, 3) := by decide +kernel
theorem dX9_setLaneSigns_23 : decode cX9_setLaneSigns 23 = .ok (.return_, 1) := by decide +kernel
theorem dJ9_floorMod_7cf53_0 : decode cJ9_floorMod_7cf53 0 = .ok (.iload_n 0, 1) := by decide +kernel
theorem dJ9_floorMod_7cf53_1 : decode cJ9_floorMod_7cf53 1 = .ok (.iload_n 1, 1) := by decide +kernel
theorem dJ9_floorMod_7cf53_2 : decode cJ9_floorMod_7cf53 2 = .ok (.irem, 1) := by decide +kernel
theorem dJ9_floorMod_7cf53_3 : decode cJ9_floorMod_7cf53 3 = .ok (.istore_n 2, 1) := by decide +kernel
theorem dJ9_floorMod_7cf53_4 : decode cJ9_floorMod_7cf53 4 = .ok (.iload_n 0, 1) := by decide +kernel
theorem dJ9_floorMod_7cf53_5 : decode cJ9_floorMod_7cf53 5 = .ok (.iload_n 1, 1) := by decide +kernel
theorem dJ9_floorMod_7cf53_6 : decode cJ9_floorMod_7cf53 6 = .ok (.ixor, 1) := by decide +kernel
theorem dJ9_floorMod_7cf53_7 : decode cJ9_floorMod_7cf53 7 = .ok (.ifCond .ge 11, 3) := by decide +kernel
theorem dJ9_floorMod_7cf53_10 : decode cJ9_floorMod_7cf53 10 = .ok (.iload_n 2, 1) := by decide +kernel
theorem dJ9_floorMod_7cf53_11 : decode cJ9_floorMod_7cf53 11 = .ok (.ifCond .eq 7, 3) := by decide +kernel
theorem dJ9_floorMod_7cf53_14 : decode cJ9_floorMod_7cf53 14 = .ok (.iload_n 2, 1) := by decide +kernel
theorem dJ9_floorMod_7cf53_15 : decode cJ9_floorMod_7cf53 15 = .ok (.iload_n 1, 1) := by decide +kernel
theorem dJ9_floorMod_7cf53_16 : decode cJ9_floorMod_7cf53 16 = .ok (.iadd, 1) := by decide +kernel
theorem dJ9_floorMod_7cf53_17 : decode cJ9_floorMod_7cf53 17 = .ok (.ireturn, 1) := by decide +kernel
theorem dJ9_floorMod_7cf53_18 : decode cJ9_floorMod_7cf53 18 = .ok (.iload_n 2, 1) := by decide +kernel
theorem dJ9_floorMod_7cf53_19 : decode cJ9_floorMod_7cf53 19 = .ok (.ireturn, 1) := by decide +kernel
theorem dL_draw_0 : decode cL_draw 0 = .ok (.iload_n 1, 1) := by decide +kernel
theorem dL_draw_1 : decode cL_draw 1 = .ok (.aload_n 0, 1) := by decide +kernel
theorem dL_draw_2 : decode cL_draw 2 = .ok (.arraylength, 1) := by decide +kernel
theorem dL_draw_3 : decode cL_draw 3 = .ok (.if_icmp .ge 12, 3) := by decide +kernel
theorem dL_draw_6 : decode cL_draw 6 = .ok (.aload_n 0, 1) := by decide +kernel
theorem dL_draw_7 : decode cL_draw 7 = .ok (.iload_n 1, 1) := by decide +kernel
theorem dL_draw_8 : decode cL_draw 8 = .ok (.iaload, 1) := by decide +kernel
theorem dL_draw_9 : decode cL_draw 9 = .ok (.ldc 7, 2) := by decide +kernel
theorem dL_draw_11 : decode cL_draw 11 = .ok (.iand, 1) := by decide +kernel
theorem dL_draw_12 : decode cL_draw 12 = .ok (.goto 12, 3) := by decide +kernel
theorem dL_draw_24 : decode cL_draw 24 = .ok (.ireturn, 1) := by decide +kernel
theorem dL_stop_0 : decode cL_stop 0 = .ok (.aload_n 0, 1) := by decide +kernel
theorem dL_stop_1 : decode cL_stop 1 = .ok (.iload_n 1, 1) := by decide +kernel
theorem dL_stop_2 : decode cL_stop 2 = .ok (.iload_n 2, 1) := by decide +kernel
theorem dL_stop_3 : decode cL_stop 3 = .ok (.invokevirtual 35, 3) := by decide +kernel
theorem dL_stop_6 : decode cL_stop 6 = .ok (.goto 6, 3) := by decide +kernel
theorem dL_stop_9 : decode cL_stop 9 = .ok (.astore_n 3, 1) := by decide +kernel
theorem dL_stop_10 : decode cL_stop 10 = .ok (.iconst 0, 1) := by decide +kernel
theorem dL_stop_11 : decode cL_stop 11 = .ok (.ireturn, 1) := by decide +kernel
theorem dL_stop_12 : decode cL_stop 12 = .ok (.iconst 1, 1) := by decide +kernel
theorem dL_stop_13 : decode cL_stop 13 = .ok (.ireturn, 1) := by decide +kernel
theorem dL_step_0 : decode cL_step 0 = .ok (.iload_n 3, 1) := by decide +kernel
theorem dL_step_1 : decode cL_step 1 = .ok (.bipush 12, 2) := by decide +kernel
theorem dL_step_3 : decode cL_step 3 = .ok (.irem, 1) := by decide +kernel
theorem dL_step_4 : decode cL_step 4 = .ok (.istore 5, 2) := by decide +kernel
theorem dL_step_6 : decode cL_step 6 = .ok (.iload 4, 2) := by decide +kernel
theorem dL_step_8 : decode cL_step 8 = .ok (.iconst 4, 1) := by decide +kernel
theorem dL_step_9 : decode cL_step 9 = .ok (.irem, 1) := by decide +kernel
theorem dL_step_10 : decode cL_step 10 = .ok (.istore 6, 2) := by decide +kernel
theorem dL_step_12 : decode cL_step 12 = .ok (.iload_n 2, 1) := by decide +kernel
theorem dL_step_13 : decode cL_step 13 = .ok (.bipush 28, 2) := by decide +kernel
theorem dL_step_15 : decode cL_step 15 = .ok (.irem, 1) := by decide +kernel
theorem dL_step_16 : decode cL_step 16 = .ok (.tableswitch 666 0 22 #[108, 108, 108, 128, 128, 145, 145, 217, 217, 217, 329, 329, 339, 339, 339, 370, 370, 480, 513, 566, 566, 615, 661], 108) := by decide +kernel
theorem dL_step_161 : decode cL_step 161 = .ok (.aload_n 0, 1) := by decide +kernel
theorem dL_step_162 : decode cL_step 162 = .ok (.iload 5, 2) := by decide +kernel
theorem dL_step_164 : decode cL_step 164 = .ok (.iload 6, 2) := by decide +kernel
theorem dL_step_166 : decode cL_step 166 = .ok (.invokestatic 52, 3) := by decide +kernel
theorem dL_step_169 : decode cL_step 169 = .ok (.istore 7, 2) := by decide +kernel
theorem dL_step_171 : decode cL_step 171 = .ok (.aload_n 1, 1) := by decide +kernel
theorem dL_step_172 : decode cL_step 172 = .ok (.iconst 3, 1) := by decide +kernel
theorem dL_step_173 : decode cL_step 173 = .ok (.iload 7, 2) := by decide +kernel
theorem dL_step_175 : decode cL_step 175 = .ok (.ifCond .eq 12, 3) := by decide +kernel
theorem dL_step_178 : decode cL_step 178 = .ok (.iload 6, 2) := by decide +kernel
theorem dL_step_180 : decode cL_step 180 = .ok (.ifCond .ne 7, 3) := by decide +kernel
theorem dL_step_187 : decode cL_step 187 = .ok (.aload_n 1, 1) := by decide +kernel
theorem dL_step_188 : decode cL_step 188 = .ok (.iconst 3, 1) := by decide +kernel
theorem dL_step_189 : decode cL_step 189 = .ok (.iaload, 1) := by decide +kernel
theorem dL_step_190 : decode cL_step 190 = .ok (.iastore, 1) := by decide +kernel
theorem dL_step_191 : decode cL_step 191 = .ok (.aload_n 0, 1) := by decide +kernel
theorem dL_step_192 : decode cL_step 192 = .ok (.iload 5, 2) := by decide +kernel
theorem dL_step_194 : decode cL_step 194 = .ok (.iload 6, 2) := by decide +kernel
theorem dL_step_196 : decode cL_step 196 = .ok (.invokestatic 52, 3) := by decide +kernel
theorem dL_step_199 : decode cL_step 199 = .ok (.ifCond .ne 32, 3) := by decide +kernel
theorem dL_step_202 : decode cL_step 202 = .ok (.iload 6, 2) := by decide +kernel
theorem dL_step_204 : decode cL_step 204 = .ok (.ifCond .gt 23, 3) := by decide +kernel
theorem dL_step_227 : decode cL_step 227 = .ok (.iconst 1, 1) := by decide +kernel
theorem dL_step_228 : decode cL_step 228 = .ok (.goto 4, 3) := by decide +kernel
theorem dL_step_232 : decode cL_step 232 = .ok (.ireturn, 1) := by decide +kernel
theorem dL_isShown_0 : decode cL_isShown 0 = .ok (.iload_n 1, 1) := by decide +kernel
theorem dL_isShown_1 : decode cL_isShown 1 = .ok (.bipush 60, 2) := by decide +kernel
theorem dL_isShown_3 : decode cL_isShown 3 = .ok (.if_icmp .lt 20, 3) := by decide +kernel
theorem dL_isShown_6 : decode cL_isShown 6 = .ok (.aload_n 0, 1) := by decide +kernel
theorem dL_isShown_7 : decode cL_isShown 7 = .ok (.iload_n 1, 1) := by decide +kernel
theorem dL_isShown_8 : decode cL_isShown 8 = .ok (.bipush 60, 2) := by decide +kernel
theorem dL_isShown_10 : decode cL_isShown 10 = .ok (.isub, 1) := by decide +kernel
theorem dL_isShown_11 : decode cL_isShown 11 = .ok (.iconst 0, 1) := by decide +kernel
theorem dL_isShown_12 : decode cL_isShown 12 = .ok (.iconst 0, 1) := by decide +kernel
theorem dL_isShown_13 : decode cL_isShown 13 = .ok (.iconst 5, 1) := by decide +kernel
theorem dL_isShown_23 : decode cL_isShown 23 = .ok (.iconst 1, 1) := by decide +kernel
theorem dL_isShown_24 : decode cL_isShown 24 = .ok (.goto 4, 3) := by decide +kernel
theorem dL_isShown_28 : decode cL_isShown 28 = .ok (.istore_n 2, 1) := by decide +kernel
theorem dL_isShown_29 : decode cL_isShown 29 = .ok (.iconst 0, 1) := by decide +kernel
theorem dL_isShown_30 : decode cL_isShown 30 = .ok (.istore_n 3, 1) := by decide +kernel
theorem dL_isShown_31 : decode cL_isShown 31 = .ok (.iload_n 3, 1) := by decide +kernel
theorem dL_isShown_32 : decode cL_isShown 32 = .ok (.bipush 12, 2) := by decide +kernel
theorem dL_isShown_34 : decode cL_isShown 34 = .ok (.if_icmp .ge 128, 3) := by decide +kernel
theorem dL_isShown_37 : decode cL_isShown 37 = .ok (.iload_n 2, 1) := by decide +kernel
theorem dL_isShown_38 : decode cL_isShown 38 = .ok (.ifCond .eq 124, 3) := by decide +kernel
theorem dL_isShown_41 : decode cL_isShown 41 = .ok (.aload_n 0, 1) := by decide +kernel
theorem dL_isShown_42 : decode cL_isShown 42 = .ok (.iload_n 3, 1) := by decide +kernel
theorem dL_isShown_43 : decode cL_isShown 43 = .ok (.iconst 3, 1) := by decide +kernel
theorem dL_isShown_44 : decode cL_isShown 44 = .ok (.invokevirtual 84, 3) := by decide +kernel
theorem dL_isShown_47 : decode cL_isShown 47 = .ok (.istore 4, 2) := by decide +kernel
theorem dL_isShown_49 : decode cL_isShown 49 = .ok (.aload_n 0, 1) := by decide +kernel
theorem dL_isShown_50 : decode cL_isShown 50 = .ok (.iload_n 1, 1) := by decide +kernel
theorem dL_isShown_51 : decode cL_isShown 51 = .ok (.iload_n 3, 1) := by decide +kernel
theorem dL_isShown_52 : decode cL_isShown 52 = .ok (.iconst 0, 1) := by decide +kernel
theorem dL_isShown_53 : decode cL_isShown 53 = .ok (.invokevirtual 30, 3) := by decide +kernel
theorem dL_isShown_56 : decode cL_isShown 56 = .ok (.iload 4, 2) := by decide +kernel
theorem dL_isShown_58 : decode cL_isShown 58 = .ok (.if_icmp .ne 51, 3) := by decide +kernel
theorem dL_isShown_61 : decode cL_isShown 61 = .ok (.iload 4, 2) := by decide +kernel
theorem dL_isShown_63 : decode cL_isShown 63 = .ok (.bipush 40, 2) := by decide +kernel
theorem dL_isShown_65 : decode cL_isShown 65 = .ok (.if_icmp .lt 44, 3) := by decide +kernel
theorem dL_isShown_68 : decode cL_isShown 68 = .ok (.iload 4, 2) := by decide +kernel
theorem dL_isShown_70 : decode cL_isShown 70 = .ok (.bipush 120, 2) := by decide +kernel
theorem dL_isShown_72 : decode cL_isShown 72 = .ok (.if_icmp .gt 37, 3) := by decide +kernel
theorem dL_isShown_75 : decode cL_isShown 75 = .ok (.iload 4, 2) := by decide +kernel
theorem dL_isShown_77 : decode cL_isShown 77 = .ok (.bipush 20, 2) := by decide +kernel
theorem dL_isShown_79 : decode cL_isShown 79 = .ok (.irem, 1) := by decide +kernel
theorem dL_isShown_80 : decode cL_isShown 80 = .ok (.ifCond .ne 29, 3) := by decide +kernel
theorem dL_isShown_83 : decode cL_isShown 83 = .ok (.iload_n 3, 1) := by decide +kernel
theorem dL_isShown_84 : decode cL_isShown 84 = .ok (.bipush 11, 2) := by decide +kernel
theorem dL_isShown_86 : decode cL_isShown 86 = .ok (.if_icmp .eq 19, 3) := by decide +kernel
theorem dL_isShown_89 : decode cL_isShown 89 = .ok (.iload 4, 2) := by decide +kernel
theorem dL_isShown_91 : decode cL_isShown 91 = .ok (.aload_n 0, 1) := by decide +kernel
theorem dL_isShown_92 : decode cL_isShown 92 = .ok (.iload_n 3, 1) := by decide +kernel
theorem dL_isShown_93 : decode cL_isShown 93 = .ok (.iconst 1, 1) := by decide +kernel
theorem dL_isShown_94 : decode cL_isShown 94 = .ok (.iadd, 1) := by decide +kernel
theorem dL_isShown_95 : decode cL_isShown 95 = .ok (.iconst 3, 1) := by decide +kernel
theorem dL_isShown_96 : decode cL_isShown 96 = .ok (.invokevirtual 84, 3) := by decide +kernel
theorem dL_isShown_99 : decode cL_isShown 99 = .ok (.bipush 20, 2) := by decide +kernel
theorem dL_isShown_101 : decode cL_isShown 101 = .ok (.iadd, 1) := by decide +kernel
theorem dL_isShown_102 : decode cL_isShown 102 = .ok (.if_icmp .gt 7, 3) := by decide +kernel
theorem dL_isShown_105 : decode cL_isShown 105 = .ok (.iconst 1, 1) := by decide +kernel
theorem dL_isShown_106 : decode cL_isShown 106 = .ok (.goto 4, 3) := by decide +kernel
theorem dL_isShown_109 : decode cL_isShown 109 = .ok (.iconst 0, 1) := by decide +kernel
theorem dL_isShown_110 : decode cL_isShown 110 = .ok (.istore_n 2, 1) := by decide +kernel
theorem dL_isShown_111 : decode cL_isShown 111 = .ok (.iconst 0, 1) := by decide +kernel
theorem dL_isShown_112 : decode cL_isShown 112 = .ok (.istore 5, 2) := by decide +kernel
theorem dL_isShown_114 : decode cL_isShown 114 = .ok (.iload 5, 2) := by decide +kernel
theorem dL_isShown_116 : decode cL_isShown 116 = .ok (.iconst 4, 1) := by decide +kernel
theorem dL_isShown_117 : decode cL_isShown 117 = .ok (.if_icmp .ge 39, 3) := by decide +kernel
theorem dL_isShown_120 : decode cL_isShown 120 = .ok (.iload_n 2, 1) := by decide +kernel
theorem dL_isShown_121 : decode cL_isShown 121 = .ok (.ifCond .eq 27, 3) := by decide +kernel
theorem dL_isShown_124 : decode cL_isShown 124 = .ok (.aload_n 0, 1) := by decide +kernel
theorem dL_isShown_125 : decode cL_isShown 125 = .ok (.iload_n 1, 1) := by decide +kernel
theorem dL_isShown_126 : decode cL_isShown 126 = .ok (.iload_n 3, 1) := by decide +kernel
theorem dL_isShown_127 : decode cL_isShown 127 = .ok (.iconst 1, 1) := by decide +kernel
theorem dL_isShown_128 : decode cL_isShown 128 = .ok (.iload 5, 2) := by decide +kernel
theorem dL_isShown_130 : decode cL_isShown 130 = .ok (.iadd, 1) := by decide +kernel
theorem dL_isShown_131 : decode cL_isShown 131 = .ok (.invokevirtual 30, 3) := by decide +kernel
theorem dL_isShown_134 : decode cL_isShown 134 = .ok (.aload_n 0, 1) := by decide +kernel
theorem dL_isShown_135 : decode cL_isShown 135 = .ok (.iload_n 3, 1) := by decide +kernel
theorem dL_isShown_136 : decode cL_isShown 136 = .ok (.iload 5, 2) := by decide +kernel
theorem dL_isShown_138 : decode cL_isShown 138 = .ok (.invokevirtual 108, 3) := by decide +kernel
theorem dL_isShown_141 : decode cL_isShown 141 = .ok (.if_icmp .ne 7, 3) := by decide +kernel
theorem dL_isShown_144 : decode cL_isShown 144 = .ok (.iconst 1, 1) := by decide +kernel
theorem dL_isShown_145 : decode cL_isShown 145 = .ok (.goto 4, 3) := by decide +kernel
theorem dL_isShown_148 : decode cL_isShown 148 = .ok (.iconst 0, 1) := by decide +kernel
theorem dL_isShown_149 : decode cL_isShown 149 = .ok (.istore_n 2, 1) := by decide +kernel
theorem dL_isShown_150 : decode cL_isShown 150 = .ok (.iinc 5 1, 3) := by decide +kernel
theorem dL_isShown_153 : decode cL_isShown 153 = .ok (.goto (-39), 3) := by decide +kernel
theorem dL_isShown_156 : decode cL_isShown 156 = .ok (.iinc 3 1, 3) := by decide +kernel
theorem dL_isShown_159 : decode cL_isShown 159 = .ok (.goto (-128), 3) := by decide +kernel
theorem dL_isShown_162 : decode cL_isShown 162 = .ok (.iload_n 2, 1) := by decide +kernel
theorem dL_isShown_163 : decode cL_isShown 163 = .ok (.ireturn, 1) := by decide +kernel
theorem dL_isRoad_0 : decode cL_isRoad 0 = .ok (.iconst 0, 1) := by decide +kernel
theorem dL_isRoad_1 : decode cL_isRoad 1 = .ok (.istore_n 1, 1) := by decide +kernel
theorem dL_isRoad_2 : decode cL_isRoad 2 = .ok (.aload_n 0, 1) := by decide +kernel
theorem dL_isRoad_3 : decode cL_isRoad 3 = .ok (.invokevirtual 111, 3) := by decide +kernel
theorem dL_isRoad_6 : decode cL_isRoad 6 = .ok (.istore_n 2, 1) := by decide +kernel
theorem dL_isRoad_7 : decode cL_isRoad 7 = .ok (.iconst 0, 1) := by decide +kernel
theorem dL_isRoad_8 : decode cL_isRoad 8 = .ok (.istore_n 3, 1) := by decide +kernel
theorem dL_isRoad_9 : decode cL_isRoad 9 = .ok (.iload_n 3, 1) := by decide +kernel
theorem dL_isRoad_10 : decode cL_isRoad 10 = .ok (.bipush 12, 2) := by decide +kernel
theorem dL_isRoad_12 : decode cL_isRoad 12 = .ok (.if_icmp .ge 141, 3) := by decide +kernel
theorem dL_isRoad_15 : decode cL_isRoad 15 = .ok (.iload_n 2, 1) := by decide +kernel
theorem dL_isRoad_16 : decode cL_isRoad 16 = .ok (.ifCond .eq 137, 3) := by decide +kernel
theorem dL_isRoad_19 : decode cL_isRoad 19 = .ok (.iconst 0, 1) := by decide +kernel
theorem dL_isRoad_20 : decode cL_isRoad 20 = .ok (.istore 4, 2) := by decide +kernel
theorem dL_isRoad_22 : decode cL_isRoad 22 = .ok (.iconst 0, 1) := by decide +kernel
theorem dL_isRoad_23 : decode cL_isRoad 23 = .ok (.istore 5, 2) := by decide +kernel
theorem dL_isRoad_25 : decode cL_isRoad 25 = .ok (.iload 5, 2) := by decide +kernel
theorem dL_isRoad_27 : decode cL_isRoad 27 = .ok (.iconst 4, 1) := by decide +kernel
theorem dL_isRoad_28 : decode cL_isRoad 28 = .ok (.if_icmp .ge 39, 3) := by decide +kernel
theorem dL_isRoad_31 : decode cL_isRoad 31 = .ok (.aload_n 0, 1) := by decide +kernel
theorem dL_isRoad_32 : decode cL_isRoad 32 = .ok (.iload_n 3, 1) := by decide +kernel
theorem dL_isRoad_33 : decode cL_isRoad 33 = .ok (.iload 5, 2) := by decide +kernel
theorem dL_isRoad_35 : decode cL_isRoad 35 = .ok (.invokevirtual 66, 3) := by decide +kernel
theorem dL_isRoad_38 : decode cL_isRoad 38 = .ok (.istore 6, 2) := by decide +kernel
theorem dL_isRoad_40 : decode cL_isRoad 40 = .ok (.iload_n 1, 1) := by decide +kernel
theorem dL_isRoad_41 : decode cL_isRoad 41 = .ok (.iload 6, 2) := by decide +kernel
theorem dL_isRoad_43 : decode cL_isRoad 43 = .ok (.iadd, 1) := by decide +kernel
theorem dL_isRoad_44 : decode cL_isRoad 44 = .ok (.istore_n 1, 1) := by decide +kernel
theorem dL_isRoad_45 : decode cL_isRoad 45 = .ok (.iload 6, 2) := by decide +kernel
theorem dL_isRoad_47 : decode cL_isRoad 47 = .ok (.iload 4, 2) := by decide +kernel
theorem dL_isRoad_49 : decode cL_isRoad 49 = .ok (.if_icmp .le 8, 3) := by decide +kernel
theorem dL_isRoad_52 : decode cL_isRoad 52 = .ok (.iload 6, 2) := by decide +kernel
theorem dL_isRoad_54 : decode cL_isRoad 54 = .ok (.goto 5, 3) := by decide +kernel
theorem dL_isRoad_57 : decode cL_isRoad 57 = .ok (.iload 4, 2) := by decide +kernel
theorem dL_isRoad_59 : decode cL_isRoad 59 = .ok (.istore 4, 2) := by decide +kernel
theorem dL_isRoad_61 : decode cL_isRoad 61 = .ok (.iinc 5 1, 3) := by decide +kernel
theorem dL_isRoad_64 : decode cL_isRoad 64 = .ok (.goto (-39), 3) := by decide +kernel
theorem dL_isRoad_67 : decode cL_isRoad 67 = .ok (.iload 4, 2) := by decide +kernel
theorem dL_isRoad_69 : decode cL_isRoad 69 = .ok (.bipush 20, 2) := by decide +kernel
theorem dL_isRoad_71 : decode cL_isRoad 71 = .ok (.if_icmp .gt 74, 3) := by decide +kernel
theorem dL_isRoad_74 : decode cL_isRoad 74 = .ok (.aload_n 0, 1) := by decide +kernel
theorem dL_isRoad_75 : decode cL_isRoad 75 = .ok (.iload_n 3, 1) := by decide +kernel
theorem dL_isRoad_76 : decode cL_isRoad 76 = .ok (.iconst 0, 1) := by decide +kernel
theorem dL_isRoad_77 : decode cL_isRoad 77 = .ok (.invokevirtual 84, 3) := by decide +kernel
theorem dL_isRoad_80 : decode cL_isRoad 80 = .ok (.bipush 120, 2) := by decide +kernel
theorem dL_isRoad_82 : decode cL_isRoad 82 = .ok (.iconst 5, 1) := by decide +kernel
theorem dL_isRoad_83 : decode cL_isRoad 83 = .ok (.iload 4, 2) := by decide +kernel
theorem dL_isRoad_85 : decode cL_isRoad 85 = .ok (.imul, 1) := by decide +kernel
theorem dL_isRoad_86 : decode cL_isRoad 86 = .ok (.isub, 1) := by decide +kernel
theorem dL_isRoad_87 : decode cL_isRoad 87 = .ok (.if_icmp .ne 58, 3) := by decide +kernel
theorem dL_isRoad_90 : decode cL_isRoad 90 = .ok (.aload_n 0, 1) := by decide +kernel
theorem dL_isRoad_91 : decode cL_isRoad 91 = .ok (.iload_n 3, 1) := by decide +kernel
theorem dL_isRoad_92 : decode cL_isRoad 92 = .ok (.iconst 4, 1) := by decide +kernel
theorem dL_isRoad_93 : decode cL_isRoad 93 = .ok (.invokevirtual 84, 3) := by decide +kernel
theorem dL_isRoad_96 : decode cL_isRoad 96 = .ok (.ifCond .lt 49, 3) := by decide +kernel
theorem dL_isRoad_99 : decode cL_isRoad 99 = .ok (.aload_n 0, 1) := by decide +kernel
theorem dL_isRoad_100 : decode cL_isRoad 100 = .ok (.iload_n 3, 1) := by decide +kernel
theorem dL_isRoad_101 : decode cL_isRoad 101 = .ok (.iconst 1, 1) := by decide +kernel
theorem dL_isRoad_102 : decode cL_isRoad 102 = .ok (.invokevirtual 84, 3) := by decide +kernel
theorem dL_isRoad_105 : decode cL_isRoad 105 = .ok (.iconst (-1), 1) := by decide +kernel
theorem dL_isRoad_106 : decode cL_isRoad 106 = .ok (.if_icmp .lt 39, 3) := by decide +kernel
theorem dL_isRoad_109 : decode cL_isRoad 109 = .ok (.aload_n 0, 1) := by decide +kernel
theorem dL_isRoad_110 : decode cL_isRoad 110 = .ok (.iload_n 3, 1) := by decide +kernel
theorem dL_isRoad_111 : decode cL_isRoad 111 = .ok (.iconst 1, 1) := by decide +kernel
theorem dL_isRoad_112 : decode cL_isRoad 112 = .ok (.invokevirtual 84, 3) := by decide +kernel
theorem dL_isRoad_115 : decode cL_isRoad 115 = .ok (.bipush 120, 2) := by decide +kernel
theorem dL_isRoad_117 : decode cL_isRoad 117 = .ok (.if_icmp .gt 28, 3) := by decide +kernel
theorem dL_isRoad_120 : decode cL_isRoad 120 = .ok (.aload_n 0, 1) := by decide +kernel
theorem dL_isRoad_121 : decode cL_isRoad 121 = .ok (.iload_n 3, 1) := by decide +kernel
theorem dL_isRoad_122 : decode cL_isRoad 122 = .ok (.iconst 2, 1) := by decide +kernel
theorem dL_isRoad_123 : decode cL_isRoad 123 = .ok (.invokevirtual 84, 3) := by decide +kernel
theorem dL_isRoad_126 : decode cL_isRoad 126 = .ok (.iconst (-1), 1) := by decide +kernel
theorem dL_isRoad_127 : decode cL_isRoad 127 = .ok (.if_icmp .lt 18, 3) := by decide +kernel
theorem dL_isRoad_130 : decode cL_isRoad 130 = .ok (.aload_n 0, 1) := by decide +kernel
theorem dL_isRoad_131 : decode cL_isRoad 131 = .ok (.iload_n 3, 1) := by decide +kernel
theorem dL_isRoad_132 : decode cL_isRoad 132 = .ok (.iconst 2, 1) := by decide +kernel
theorem dL_isRoad_133 : decode cL_isRoad 133 = .ok (.invokevirtual 84, 3) := by decide +kernel
theorem dL_isRoad_136 : decode cL_isRoad 136 = .ok (.bipush 120, 2) := by decide +kernel
theorem dL_isRoad_138 : decode cL_isRoad 138 = .ok (.if_icmp .gt 7, 3) := by decide +kernel
theorem dL_isRoad_141 : decode cL_isRoad 141 = .ok (.iconst 1, 1) := by decide +kernel
theorem dL_isRoad_142 : decode cL_isRoad 142 = .ok (.goto 4, 3) := by decide +kernel
theorem dL_isRoad_145 : decode cL_isRoad 145 = .ok (.iconst 0, 1) := by decide +kernel
theorem dL_isRoad_146 : decode cL_isRoad 146 = .ok (.istore_n 2, 1) := by decide +kernel
theorem dL_isRoad_147 : decode cL_isRoad 147 = .ok (.iinc 3 1, 3) := by decide +kernel
theorem dL_isRoad_150 : decode cL_isRoad 150 = .ok (.goto (-141), 3) := by decide +kernel
theorem dL_isRoad_153 : decode cL_isRoad 153 = .ok (.iload_n 2, 1) := by decide +kernel
theorem dL_isRoad_154 : decode cL_isRoad 154 = .ok (.ifCond .eq 16, 3) := by decide +kernel
theorem dL_isRoad_157 : decode cL_isRoad 157 = .ok (.iload_n 1, 1) := by decide +kernel
theorem dL_isRoad_158 : decode cL_isRoad 158 = .ok (.aload_n 0, 1) := by decide +kernel
theorem dL_isRoad_159 : decode cL_isRoad 159 = .ok (.iconst 1, 1) := by decide +kernel
theorem dL_isRoad_160 : decode cL_isRoad 160 = .ok (.invokevirtual 133, 3) := by decide +kernel
theorem dL_isRoad_163 : decode cL_isRoad 163 = .ok (.if_icmp .ne 7, 3) := by decide +kernel
theorem dL_isRoad_166 : decode cL_isRoad 166 = .ok (.iconst 1, 1) := by decide +kernel
theorem dL_isRoad_167 : decode cL_isRoad 167 = .ok (.goto 4, 3) := by decide +kernel
theorem dL_isRoad_170 : decode cL_isRoad 170 = .ok (.iconst 0, 1) := by decide +kernel
theorem dL_isRoad_171 : decode cL_isRoad 171 = .ok (.ireturn, 1) := by decide +kernel
theorem dL_law_0 : decode cL_law 0 = .ok (.new 11, 3) := by decide +kernel
theorem dL_law_3 : decode cL_law 3 = .ok (.dup, 1) := by decide +kernel
theorem dL_law_4 : decode cL_law 4 = .ok (.invokespecial 147, 3) := by decide +kernel
theorem dL_law_7 : decode cL_law 7 = .ok (.astore_n 1, 1) := by decide +kernel
theorem dL_law_8 : decode cL_law 8 = .ok (.iconst 4, 1) := by decide +kernel
theorem dL_law_9 : decode cL_law 9 = .ok (.newarray .int, 2) := by decide +kernel
theorem dL_law_11 : decode cL_law 11 = .ok (.astore_n 2, 1) := by decide +kernel
theorem dL_law_12 : decode cL_law 12 = .ok (.aload_n 1, 1) := by decide +kernel
theorem dL_law_13 : decode cL_law 13 = .ok (.invokevirtual 111, 3) := by decide +kernel
theorem dL_law_16 : decode cL_law 16 = .ok (.ifCond .eq 55, 3) := by decide +kernel
theorem dL_law_19 : decode cL_law 19 = .ok (.aload_n 1, 1) := by decide +kernel
theorem dL_law_20 : decode cL_law 20 = .ok (.invokevirtual 130, 3) := by decide +kernel
theorem dL_law_23 : decode cL_law 23 = .ok (.iconst (-1), 1) := by decide +kernel
theorem dL_law_24 : decode cL_law 24 = .ok (.if_icmp .ne 47, 3) := by decide +kernel
theorem dL_law_27 : decode cL_law 27 = .ok (.aload_n 1, 1) := by decide +kernel
theorem dL_law_28 : decode cL_law 28 = .ok (.iconst 0, 1) := by decide +kernel
theorem dL_law_29 : decode cL_law 29 = .ok (.iconst 0, 1) := by decide +kernel
theorem dL_law_30 : decode cL_law 30 = .ok (.invokevirtual 108, 3) := by decide +kernel
theorem dL_law_33 : decode cL_law 33 = .ok (.iconst 2, 1) := by decide +kernel
theorem dL_law_34 : decode cL_law 34 = .ok (.if_icmp .ne 37, 3) := by decide +kernel
theorem dL_law_37 : decode cL_law 37 = .ok (.aload_n 1, 1) := by decide +kernel
theorem dL_law_38 : decode cL_law 38 = .ok (.bipush 11, 2) := by decide +kernel
theorem dL_law_40 : decode cL_law 40 = .ok (.iconst 3, 1) := by decide +kernel
theorem dL_law_41 : decode cL_law 41 = .ok (.invokevirtual 108, 3) := by decide +kernel
theorem dL_law_44 : decode cL_law 44 = .ok (.ifCond .ne 27, 3) := by decide +kernel
theorem dL_law_47 : decode cL_law 47 = .ok (.aload_n 1, 1) := by decide +kernel
theorem dL_law_48 : decode cL_law 48 = .ok (.iconst 0, 1) := by decide +kernel
theorem dL_law_49 : decode cL_law 49 = .ok (.iconst 5, 1) := by decide +kernel
theorem dL_law_50 : decode cL_law 50 = .ok (.iconst 0, 1) := by decide +kernel
theorem dL_law_51 : decode cL_law 51 = .ok (.invokevirtual 30, 3) := by decide +kernel
theorem dL_law_54 : decode cL_law 54 = .ok (.bipush 120, 2) := by decide +kernel
theorem dL_law_56 : decode cL_law 56 = .ok (.if_icmp .ne 15, 3) := by decide +kernel
theorem dL_law_59 : decode cL_law 59 = .ok (.aload_n 1, 1) := by decide +kernel
theorem dL_law_60 : decode cL_law 60 = .ok (.iconst 0, 1) := by decide +kernel
theorem dL_law_61 : decode cL_law 61 = .ok (.invokestatic 143, 3) := by decide +kernel
theorem dL_law_64 : decode cL_law 64 = .ok (.ifCond .eq 7, 3) := by decide +kernel
theorem dL_law_67 : decode cL_law 67 = .ok (.iconst 1, 1) := by decide +kernel
theorem dL_law_68 : decode cL_law 68 = .ok (.goto 4, 3) := by decide +kernel
theorem dL_law_72 : decode cL_law 72 = .ok (.istore_n 3, 1) := by decide +kernel
theorem dL_law_73 : decode cL_law 73 = .ok (.aload_n 0, 1) := by decide +kernel
theorem dL_law_74 : decode cL_law 74 = .ok (.arraylength, 1) := by decide +kernel
theorem dL_law_75 : decode cL_law 75 = .ok (.iconst 3, 1) := by decide +kernel
theorem dL_law_76 : decode cL_law 76 = .ok (.idiv, 1) := by decide +kernel
theorem dL_law_77 : decode cL_law 77 = .ok (.bipush 70, 2) := by decide +kernel
theorem dL_law_79 : decode cL_law 79 = .ok (.if_icmp .le 8, 3) := by decide +kernel
theorem dL_law_87 : decode cL_law 87 = .ok (.aload_n 0, 1) := by decide +kernel
theorem dL_law_88 : decode cL_law 88 = .ok (.arraylength, 1) := by decide +kernel
theorem dL_law_89 : decode cL_law 89 = .ok (.iconst 3, 1) := by decide +kernel
theorem dL_law_90 : decode cL_law 90 = .ok (.idiv, 1) := by decide +kernel
theorem dL_law_91 : decode cL_law 91 = .ok (.istore 4, 2) := by decide +kernel
theorem dL_law_93 : decode cL_law 93 = .ok (.iconst 0, 1) := by decide +kernel
theorem dL_law_94 : decode cL_law 94 = .ok (.istore 5, 2) := by decide +kernel
theorem dL_law_96 : decode cL_law 96 = .ok (.iload 5, 2) := by decide +kernel
theorem dL_law_98 : decode cL_law 98 = .ok (.iload 4, 2) := by decide +kernel
theorem dL_law_100 : decode cL_law 100 = .ok (.if_icmp .ge 62, 3) := by decide +kernel
theorem dL_law_103 : decode cL_law 103 = .ok (.iload_n 3, 1) := by decide +kernel
theorem dL_law_104 : decode cL_law 104 = .ok (.ifCond .eq 58, 3) := by decide +kernel
theorem dL_law_107 : decode cL_law 107 = .ok (.aload_n 1, 1) := by decide +kernel
theorem dL_law_108 : decode cL_law 108 = .ok (.aload_n 2, 1) := by decide +kernel
theorem dL_law_109 : decode cL_law 109 = .ok (.aload_n 0, 1) := by decide +kernel
theorem dL_law_110 : decode cL_law 110 = .ok (.iconst 3, 1) := by decide +kernel
theorem dL_law_111 : decode cL_law 111 = .ok (.iload 5, 2) := by decide +kernel
theorem dL_law_113 : decode cL_law 113 = .ok (.imul, 1) := by decide +kernel
theorem dL_law_114 : decode cL_law 114 = .ok (.invokestatic 148, 3) := by decide +kernel
theorem dL_law_117 : decode cL_law 117 = .ok (.aload_n 0, 1) := by decide +kernel
theorem dL_law_118 : decode cL_law 118 = .ok (.iconst 3, 1) := by decide +kernel
theorem dL_law_119 : decode cL_law 119 = .ok (.iload 5, 2) := by decide +kernel
theorem dL_law_121 : decode cL_law 121 = .ok (.imul, 1) := by decide +kernel
theorem dL_law_122 : decode cL_law 122 = .ok (.iconst 1, 1) := by decide +kernel
theorem dL_law_123 : decode cL_law 123 = .ok (.iadd, 1) := by decide +kernel
theorem dL_law_124 : decode cL_law 124 = .ok (.invokestatic 148, 3) := by decide +kernel
theorem dL_law_127 : decode cL_law 127 = .ok (.aload_n 0, 1) := by decide +kernel
theorem dL_law_128 : decode cL_law 128 = .ok (.iconst 3, 1) := by decide +kernel
theorem dL_law_129 : decode cL_law 129 = .ok (.iload 5, 2) := by decide +kernel
theorem dL_law_131 : decode cL_law 131 = .ok (.imul, 1) := by decide +kernel
theorem dL_law_132 : decode cL_law 132 = .ok (.iconst 2, 1) := by decide +kernel
theorem dL_law_133 : decode cL_law 133 = .ok (.iadd, 1) := by decide +kernel
theorem dL_law_134 : decode cL_law 134 = .ok (.invokestatic 148, 3) := by decide +kernel
theorem dL_law_137 : decode cL_law 137 = .ok (.invokestatic 152, 3) := by decide +kernel
theorem dL_law_140 : decode cL_law 140 = .ok (.ifCond .eq 14, 3) := by decide +kernel
theorem dL_law_143 : decode cL_law 143 = .ok (.aload_n 1, 1) := by decide +kernel
theorem dL_law_144 : decode cL_law 144 = .ok (.invokestatic 156, 3) := by decide +kernel
theorem dL_law_147 : decode cL_law 147 = .ok (.ifCond .eq 7, 3) := by decide +kernel
theorem dL_law_150 : decode cL_law 150 = .ok (.iconst 1, 1) := by decide +kernel
theorem dL_law_151 : decode cL_law 151 = .ok (.goto 4, 3) := by decide +kernel
theorem dL_law_155 : decode cL_law 155 = .ok (.istore_n 3, 1) := by decide +kernel
theorem dL_law_156 : decode cL_law 156 = .ok (.iinc 5 1, 3) := by decide +kernel
theorem dL_law_159 : decode cL_law 159 = .ok (.goto (-63), 3) := by decide +kernel
theorem dL_law_162 : decode cL_law 162 = .ok (.iload_n 3, 1) := by decide +kernel
theorem dL_law_163 : decode cL_law 163 = .ok (.ireturn, 1) := by decide +kernel
