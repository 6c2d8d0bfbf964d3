/-! decode rows (printed by the program of the task) -/
theorem dX9_isIn_0 : decode cX9_isIn 0 = .ok (.lload_n 0, 1) := by decide +kernel
theorem dX9_isIn_1 : decode cX9_isIn 1 = .ok (.lload_n 2, 1) := by decide +kernel
theorem dX9_isIn_2 : decode cX9_isIn 2 = .ok (.lcmp, 1) := by decide +kernel
theorem dX9_isIn_3 : decode cX9_isIn 3 = .ok (.ifCond .lt 14, 3) := by decide +kernel
theorem dX9_isIn_6 : decode cX9_isIn 6 = .ok (.lload_n 0, 1) := by decide +kernel
theorem dX9_isIn_7 : decode cX9_isIn 7 = .ok (.lload 4, 2) := by decide +kernel
theorem dX9_isIn_9 : decode cX9_isIn 9 = .ok (.lcmp, 1) := by decide +kernel
theorem dX9_isIn_10 : decode cX9_isIn 10 = .ok (.ifCond .gt 7, 3) := by decide +kernel
theorem dX9_isIn_13 : decode cX9_isIn 13 = .ok (.iconst 1, 1) := by decide +kernel
theorem dX9_isIn_14 : decode cX9_isIn 14 = .ok (.goto 4, 3) := by decide +kernel
theorem dX9_isIn_17 : decode cX9_isIn 17 = .ok (.iconst 0, 1) := by decide +kernel
theorem dX9_isIn_18 : decode cX9_isIn 18 = .ok (.ireturn, 1) := by decide +kernel
theorem dX9_refuses_0 : decode cX9_refuses 0 = .ok (.aload_n 0, 1) := by decide +kernel
theorem dX9_refuses_1 : decode cX9_refuses 1 = .ok (.getfield 1, 3) := by decide +kernel
theorem dX9_refuses_4 : decode cX9_refuses 4 = .ok (.bipush (-92), 2) := by decide +kernel
theorem dX9_refuses_6 : decode cX9_refuses 6 = .ok (.iload_n 1, 1) := by decide +kernel
theorem dX9_refuses_7 : decode cX9_refuses 7 = .ok (.isub, 1) := by decide +kernel
theorem dX9_refuses_8 : decode cX9_refuses 8 = .ok (.dup2, 1) := by decide +kernel
theorem dX9_refuses_9 : decode cX9_refuses 9 = .ok (.iaload, 1) := by decide +kernel
theorem dX9_refuses_10 : decode cX9_refuses 10 = .ok (.iconst 1, 1) := by decide +kernel
theorem dX9_refuses_11 : decode cX9_refuses 11 = .ok (.iadd, 1) := by decide +kernel
theorem dX9_refuses_12 : decode cX9_refuses 12 = .ok (.iastore, 1) := by decide +kernel
theorem dX9_refuses_13 : decode cX9_refuses 13 = .ok (.iload_n 1, 1) := by decide +kernel
theorem dX9_refuses_14 : decode cX9_refuses 14 = .ok (.ireturn, 1) := by decide +kernel
theorem dX9_init_0 : decode cX9_init 0 = .ok (.aload_n 0, 1) := by decide +kernel
theorem dX9_init_1 : decode cX9_init 1 = .ok (.invokespecial 7, 3) := by decide +kernel
theorem dX9_init_4 : decode cX9_init 4 = .ok (.aload_n 0, 1) := by decide +kernel
theorem dX9_init_5 : decode cX9_init 5 = .ok (.iconst 5, 1) := by decide +kernel
theorem dX9_init_6 : decode cX9_init 6 = .ok (.newarray .int, 2) := by decide +kernel
theorem dX9_init_8 : decode cX9_init 8 = .ok (.putfield 1, 3) := by decide +kernel
theorem dX9_init_11 : decode cX9_init 11 = .ok (.aload_n 0, 1) := by decide +kernel
theorem dX9_init_12 : decode cX9_init 12 = .ok (.sipush 15226, 3) := by decide +kernel
theorem dX9_init_15 : decode cX9_init 15 = .ok (.newarray .int, 2) := by decide +kernel
theorem dX9_init_17 : decode cX9_init 17 = .ok (.putfield 13, 3) := by decide +kernel
theorem dX9_init_20 : decode cX9_init 20 = .ok (.aload_n 0, 1) := by decide +kernel
theorem dX9_init_21 : decode cX9_init 21 = .ok (.sipush 15226, 3) := by decide +kernel
theorem dX9_init_24 : decode cX9_init 24 = .ok (.newarray .int, 2) := by decide +kernel
theorem dX9_init_26 : decode cX9_init 26 = .ok (.putfield 16, 3) := by decide +kernel
theorem dX9_init_29 : decode cX9_init 29 = .ok (.aload_n 0, 1) := by decide +kernel
theorem dX9_init_30 : decode cX9_init 30 = .ok (.sipush 250, 3) := by decide +kernel
theorem dX9_init_33 : decode cX9_init 33 = .ok (.newarray .int, 2) := by decide +kernel
theorem dX9_init_35 : decode cX9_init 35 = .ok (.putfield 19, 3) := by decide +kernel
theorem dX9_init_38 : decode cX9_init 38 = .ok (.aload_n 0, 1) := by decide +kernel
theorem dX9_init_39 : decode cX9_init 39 = .ok (.sipush 250, 3) := by decide +kernel
theorem dX9_init_42 : decode cX9_init 42 = .ok (.newarray .int, 2) := by decide +kernel
theorem dX9_init_44 : decode cX9_init 44 = .ok (.putfield 22, 3) := by decide +kernel
theorem dX9_init_47 : decode cX9_init 47 = .ok (.aload_n 0, 1) := by decide +kernel
theorem dX9_init_48 : decode cX9_init 48 = .ok (.sipush 200, 3) := by decide +kernel
theorem dX9_init_51 : decode cX9_init 51 = .ok (.newarray .int, 2) := by decide +kernel
theorem dX9_init_53 : decode cX9_init 53 = .ok (.putfield 25, 3) := by decide +kernel
theorem dX9_init_56 : decode cX9_init 56 = .ok (.aload_n 0, 1) := by decide +kernel
theorem dX9_init_57 : decode cX9_init 57 = .ok (.bipush 6, 2) := by decide +kernel
theorem dX9_init_59 : decode cX9_init 59 = .ok (.newarray .int, 2) := by decide +kernel
theorem dX9_init_61 : decode cX9_init 61 = .ok (.putfield 28, 3) := by decide +kernel
theorem dX9_init_64 : decode cX9_init 64 = .ok (.aload_n 0, 1) := by decide +kernel
theorem dX9_init_65 : decode cX9_init 65 = .ok (.bipush 6, 2) := by decide +kernel
theorem dX9_init_67 : decode cX9_init 67 = .ok (.newarray .int, 2) := by decide +kernel
theorem dX9_init_69 : decode cX9_init 69 = .ok (.putfield 31, 3) := by decide +kernel
theorem dX9_init_72 : decode cX9_init 72 = .ok (.aload_n 0, 1) := by decide +kernel
theorem dX9_init_73 : decode cX9_init 73 = .ok (.bipush 30, 2) := by decide +kernel
theorem dX9_init_75 : decode cX9_init 75 = .ok (.newarray .int, 2) := by decide +kernel
theorem dX9_init_77 : decode cX9_init 77 = .ok (.putfield 34, 3) := by decide +kernel
theorem dX9_init_80 : decode cX9_init 80 = .ok (.aload_n 0, 1) := by decide +kernel
theorem dX9_init_81 : decode cX9_init 81 = .ok (.bipush 8, 2) := by decide +kernel
theorem dX9_init_83 : decode cX9_init 83 = .ok (.newarray .int, 2) := by decide +kernel
theorem dX9_init_85 : decode cX9_init 85 = .ok (.dup, 1) := by decide +kernel
theorem dX9_init_86 : decode cX9_init 86 = .ok (.iconst 0, 1) := by decide +kernel
theorem dX9_init_87 : decode cX9_init 87 = .ok (.iconst (-1), 1) := by decide +kernel
theorem dX9_init_88 : decode cX9_init 88 = .ok (.iastore, 1) := by decide +kernel
theorem dX9_init_89 : decode cX9_init 89 = .ok (.dup, 1) := by decide +kernel
theorem dX9_init_90 : decode cX9_init 90 = .ok (.iconst 1, 1) := by decide +kernel
theorem dX9_init_91 : decode cX9_init 91 = .ok (.iconst (-1), 1) := by decide +kernel
theorem dX9_init_92 : decode cX9_init 92 = .ok (.iastore, 1) := by decide +kernel
theorem dX9_init_93 : decode cX9_init 93 = .ok (.dup, 1) := by decide +kernel
theorem dX9_init_94 : decode cX9_init 94 = .ok (.iconst 2, 1) := by decide +kernel
theorem dX9_init_95 : decode cX9_init 95 = .ok (.iconst (-1), 1) := by decide +kernel
theorem dX9_init_96 : decode cX9_init 96 = .ok (.iastore, 1) := by decide +kernel
theorem dX9_init_97 : decode cX9_init 97 = .ok (.dup, 1) := by decide +kernel
theorem dX9_init_98 : decode cX9_init 98 = .ok (.iconst 3, 1) := by decide +kernel
theorem dX9_init_99 : decode cX9_init 99 = .ok (.iconst (-1), 1) := by decide +kernel
theorem dX9_init_100 : decode cX9_init 100 = .ok (.iastore, 1) := by decide +kernel
theorem dX9_init_101 : decode cX9_init 101 = .ok (.dup, 1) := by decide +kernel
theorem dX9_init_102 : decode cX9_init 102 = .ok (.iconst 4, 1) := by decide +kernel
theorem dX9_init_103 : decode cX9_init 103 = .ok (.iconst (-1), 1) := by decide +kernel
theorem dX9_init_104 : decode cX9_init 104 = .ok (.iastore, 1) := by decide +kernel
theorem dX9_init_105 : decode cX9_init 105 = .ok (.dup, 1) := by decide +kernel
theorem dX9_init_106 : decode cX9_init 106 = .ok (.iconst 5, 1) := by decide +kernel
theorem dX9_init_107 : decode cX9_init 107 = .ok (.iconst (-1), 1) := by decide +kernel
theorem dX9_init_108 : decode cX9_init 108 = .ok (.iastore, 1) := by decide +kernel
theorem dX9_init_109 : decode cX9_init 109 = .ok (.dup, 1) := by decide +kernel
theorem dX9_init_110 : decode cX9_init 110 = .ok (.bipush 6, 2) := by decide +kernel
theorem dX9_init_112 : decode cX9_init 112 = .ok (.iconst (-1), 1) := by decide +kernel
theorem dX9_init_113 : decode cX9_init 113 = .ok (.iastore, 1) := by decide +kernel
theorem dX9_init_114 : decode cX9_init 114 = .ok (.dup, 1) := by decide +kernel
theorem dX9_init_115 : decode cX9_init 115 = .ok (.bipush 7, 2) := by decide +kernel
theorem dX9_init_117 : decode cX9_init 117 = .ok (.iconst (-1), 1) := by decide +kernel
theorem dX9_init_118 : decode cX9_init 118 = .ok (.iastore, 1) := by decide +kernel
theorem dX9_init_119 : decode cX9_init 119 = .ok (.putfield 37, 3) := by decide +kernel
theorem dX9_init_122 : decode cX9_init 122 = .ok (.aload_n 0, 1) := by decide +kernel
theorem dX9_init_123 : decode cX9_init 123 = .ok (.bipush 8, 2) := by decide +kernel
theorem dX9_init_125 : decode cX9_init 125 = .ok (.newarray .int, 2) := by decide +kernel
theorem dX9_init_127 : decode cX9_init 127 = .ok (.putfield 40, 3) := by decide +kernel
theorem dX9_init_130 : decode cX9_init 130 = .ok (.aload_n 0, 1) := by decide +kernel
theorem dX9_init_131 : decode cX9_init 131 = .ok (.sipush 320, 3) := by decide +kernel
theorem dX9_init_134 : decode cX9_init 134 = .ok (.newarray .long, 2) := by decide +kernel
theorem dX9_init_136 : decode cX9_init 136 = .ok (.putfield 43, 3) := by decide +kernel
theorem dX9_init_139 : decode cX9_init 139 = .ok (.aload_n 0, 1) := by decide +kernel
theorem dX9_init_140 : decode cX9_init 140 = .ok (.bipush 40, 2) := by decide +kernel
theorem dX9_init_142 : decode cX9_init 142 = .ok (.newarray .long, 2) := by decide +kernel
theorem dX9_init_144 : decode cX9_init 144 = .ok (.putfield 47, 3) := by decide +kernel
theorem dX9_init_147 : decode cX9_init 147 = .ok (.aload_n 0, 1) := by decide +kernel
theorem dX9_init_148 : decode cX9_init 148 = .ok (.getfield 13, 3) := by decide +kernel
theorem dX9_init_151 : decode cX9_init 151 = .ok (.sipush 5024, 3) := by decide +kernel
theorem dX9_init_154 : decode cX9_init 154 = .ok (.iconst 1, 1) := by decide +kernel
theorem dX9_init_155 : decode cX9_init 155 = .ok (.iastore, 1) := by decide +kernel
theorem dX9_init_156 : decode cX9_init 156 = .ok (.return_, 1) := by decide +kernel
theorem dX9_pours_0 : decode cX9_pours 0 = .ok (.iconst 0, 1) := by decide +kernel
theorem dX9_pours_1 : decode cX9_pours 1 = .ok (.istore_n 2, 1) := by decide +kernel
theorem dX9_pours_2 : decode cX9_pours 2 = .ok (.iload_n 2, 1) := by decide +kernel
theorem dX9_pours_3 : decode cX9_pours 3 = .ok (.sipush 15226, 3) := by decide +kernel
theorem dX9_pours_6 : decode cX9_pours 6 = .ok (.if_icmp .ge 15, 3) := by decide +kernel
theorem dX9_pours_9 : decode cX9_pours 9 = .ok (.aload_n 1, 1) := by decide +kernel
theorem dX9_pours_10 : decode cX9_pours 10 = .ok (.iload_n 2, 1) := by decide +kernel
theorem dX9_pours_11 : decode cX9_pours 11 = .ok (.aload_n 0, 1) := by decide +kernel
theorem dX9_pours_12 : decode cX9_pours 12 = .ok (.iload_n 2, 1) := by decide +kernel
theorem dX9_pours_13 : decode cX9_pours 13 = .ok (.iaload, 1) := by decide +kernel
theorem dX9_pours_14 : decode cX9_pours 14 = .ok (.iastore, 1) := by decide +kernel
theorem dX9_pours_15 : decode cX9_pours 15 = .ok (.iinc 2 1, 3) := by decide +kernel
theorem dX9_pours_18 : decode cX9_pours 18 = .ok (.goto (-16), 3) := by decide +kernel
theorem dX9_pours_21 : decode cX9_pours 21 = .ok (.return_, 1) := by decide +kernel
theorem dX9_takes_0 : decode cX9_takes 0 = .ok (.iload_n 0, 1) := by decide +kernel
theorem dX9_takes_1 : decode cX9_takes 1 = .ok (.bipush 12, 2) := by decide +kernel
theorem dX9_takes_3 : decode cX9_takes 3 = .ok (.if_icmp .ne 7, 3) := by decide +kernel
theorem dX9_takes_6 : decode cX9_takes 6 = .ok (.iconst 3, 1) := by decide +kernel
theorem dX9_takes_7 : decode cX9_takes 7 = .ok (.goto 36, 3) := by decide +kernel
theorem dX9_takes_10 : decode cX9_takes 10 = .ok (.iload_n 0, 1) := by decide +kernel
theorem dX9_takes_11 : decode cX9_takes 11 = .ok (.bipush 9, 2) := by decide +kernel
theorem dX9_takes_13 : decode cX9_takes 13 = .ok (.if_icmp .eq 9, 3) := by decide +kernel
theorem dX9_takes_16 : decode cX9_takes 16 = .ok (.iload_n 0, 1) := by decide +kernel
theorem dX9_takes_17 : decode cX9_takes 17 = .ok (.bipush 10, 2) := by decide +kernel
theorem dX9_takes_19 : decode cX9_takes 19 = .ok (.if_icmp .ne 7, 3) := by decide +kernel
theorem dX9_takes_22 : decode cX9_takes 22 = .ok (.iconst 2, 1) := by decide +kernel
theorem dX9_takes_23 : decode cX9_takes 23 = .ok (.goto 20, 3) := by decide +kernel
theorem dX9_takes_26 : decode cX9_takes 26 = .ok (.iload_n 0, 1) := by decide +kernel
theorem dX9_takes_27 : decode cX9_takes 27 = .ok (.bipush 7, 2) := by decide +kernel
theorem dX9_takes_29 : decode cX9_takes 29 = .ok (.if_icmp .eq 9, 3) := by decide +kernel
theorem dX9_takes_32 : decode cX9_takes 32 = .ok (.iload_n 0, 1) := by decide +kernel
theorem dX9_takes_33 : decode cX9_takes 33 = .ok (.bipush 8, 2) := by decide +kernel
theorem dX9_takes_35 : decode cX9_takes 35 = .ok (.if_icmp .ne 7, 3) := by decide +kernel
theorem dX9_takes_38 : decode cX9_takes 38 = .ok (.iconst 0, 1) := by decide +kernel
theorem dX9_takes_39 : decode cX9_takes 39 = .ok (.goto 4, 3) := by decide +kernel
theorem dX9_takes_42 : decode cX9_takes 42 = .ok (.iconst 1, 1) := by decide +kernel
theorem dX9_takes_43 : decode cX9_takes 43 = .ok (.ireturn, 1) := by decide +kernel
theorem dX9_makes_0 : decode cX9_makes 0 = .ok (.iload_n 0, 1) := by decide +kernel
theorem dX9_makes_1 : decode cX9_makes 1 = .ok (.bipush 11, 2) := by decide +kernel
theorem dX9_makes_3 : decode cX9_makes 3 = .ok (.if_icmp .ne 7, 3) := by decide +kernel
theorem dX9_makes_6 : decode cX9_makes 6 = .ok (.iconst 0, 1) := by decide +kernel
theorem dX9_makes_7 : decode cX9_makes 7 = .ok (.goto 4, 3) := by decide +kernel
theorem dX9_makes_10 : decode cX9_makes 10 = .ok (.iconst 1, 1) := by decide +kernel
theorem dX9_makes_11 : decode cX9_makes 11 = .ok (.ireturn, 1) := by decide +kernel
theorem dX9_yarnOf_0 : decode cX9_yarnOf 0 = .ok (.iload_n 0, 1) := by decide +kernel
theorem dX9_yarnOf_1 : decode cX9_yarnOf 1 = .ok (.tableswitch 70 4 11 #[47, 50, 53, 55, 58, 61, 64, 67], 47) := by decide +kernel
theorem dX9_yarnOf_48 : decode cX9_yarnOf 48 = .ok (.bipush 10, 2) := by decide +kernel
theorem dX9_yarnOf_50 : decode cX9_yarnOf 50 = .ok (.ireturn, 1) := by decide +kernel
theorem dX9_yarnOf_51 : decode cX9_yarnOf 51 = .ok (.bipush 11, 2) := by decide +kernel
theorem dX9_yarnOf_53 : decode cX9_yarnOf 53 = .ok (.ireturn, 1) := by decide +kernel
theorem dX9_yarnOf_54 : decode cX9_yarnOf 54 = .ok (.iconst 4, 1) := by decide +kernel
theorem dX9_yarnOf_55 : decode cX9_yarnOf 55 = .ok (.ireturn, 1) := by decide +kernel
theorem dX9_yarnOf_56 : decode cX9_yarnOf 56 = .ok (.bipush 13, 2) := by decide +kernel
theorem dX9_yarnOf_58 : decode cX9_yarnOf 58 = .ok (.ireturn, 1) := by decide +kernel
theorem dX9_yarnOf_59 : decode cX9_yarnOf 59 = .ok (.bipush 9, 2) := by decide +kernel
theorem dX9_yarnOf_61 : decode cX9_yarnOf 61 = .ok (.ireturn, 1) := by decide +kernel
theorem dX9_yarnOf_62 : decode cX9_yarnOf 62 = .ok (.bipush 12, 2) := by decide +kernel
theorem dX9_yarnOf_64 : decode cX9_yarnOf 64 = .ok (.ireturn, 1) := by decide +kernel
theorem dX9_yarnOf_65 : decode cX9_yarnOf 65 = .ok (.bipush 14, 2) := by decide +kernel
theorem dX9_yarnOf_67 : decode cX9_yarnOf 67 = .ok (.ireturn, 1) := by decide +kernel
theorem dX9_yarnOf_68 : decode cX9_yarnOf 68 = .ok (.bipush 15, 2) := by decide +kernel
theorem dX9_yarnOf_70 : decode cX9_yarnOf 70 = .ok (.ireturn, 1) := by decide +kernel
theorem dX9_yarnOf_71 : decode cX9_yarnOf 71 = .ok (.bipush 18, 2) := by decide +kernel
theorem dX9_yarnOf_73 : decode cX9_yarnOf 73 = .ok (.ireturn, 1) := by decide +kernel
theorem dX9_mirror_0 : decode cX9_mirror 0 = .ok (.iload_n 0, 1) := by decide +kernel
theorem dX9_mirror_1 : decode cX9_mirror 1 = .ok (.bipush 9, 2) := by decide +kernel
theorem dX9_mirror_3 : decode cX9_mirror 3 = .ok (.if_icmp .ne 8, 3) := by decide +kernel
theorem dX9_mirror_6 : decode cX9_mirror 6 = .ok (.bipush 10, 2) := by decide +kernel
theorem dX9_mirror_8 : decode cX9_mirror 8 = .ok (.goto 15, 3) := by decide +kernel
theorem dX9_mirror_11 : decode cX9_mirror 11 = .ok (.iload_n 0, 1) := by decide +kernel
theorem dX9_mirror_12 : decode cX9_mirror 12 = .ok (.bipush 10, 2) := by decide +kernel
theorem dX9_mirror_14 : decode cX9_mirror 14 = .ok (.if_icmp .ne 8, 3) := by decide +kernel
theorem dX9_mirror_17 : decode cX9_mirror 17 = .ok (.bipush 9, 2) := by decide +kernel
theorem dX9_mirror_19 : decode cX9_mirror 19 = .ok (.goto 4, 3) := by decide +kernel
theorem dX9_mirror_22 : decode cX9_mirror 22 = .ok (.iload_n 0, 1) := by decide +kernel
theorem dX9_mirror_23 : decode cX9_mirror 23 = .ok (.ireturn, 1) := by decide +kernel
theorem dX9_turn_0 : decode cX9_turn 0 = .ok (.iload_n 0, 1) := by decide +kernel
theorem dX9_turn_1 : decode cX9_turn 1 = .ok (.iconst 4, 1) := by decide +kernel
theorem dX9_turn_2 : decode cX9_turn 2 = .ok (.if_icmp .ne 7, 3) := by decide +kernel
theorem dX9_turn_5 : decode cX9_turn 5 = .ok (.iconst 5, 1) := by decide +kernel
theorem dX9_turn_6 : decode cX9_turn 6 = .ok (.goto 16, 3) := by decide +kernel
theorem dX9_turn_9 : decode cX9_turn 9 = .ok (.iload_n 0, 1) := by decide +kernel
theorem dX9_turn_10 : decode cX9_turn 10 = .ok (.iconst 5, 1) := by decide +kernel
theorem dX9_turn_11 : decode cX9_turn 11 = .ok (.if_icmp .ne 7, 3) := by decide +kernel
theorem dX9_turn_14 : decode cX9_turn 14 = .ok (.iconst 4, 1) := by decide +kernel
theorem dX9_turn_15 : decode cX9_turn 15 = .ok (.goto 7, 3) := by decide +kernel
theorem dX9_turn_18 : decode cX9_turn 18 = .ok (.iload_n 0, 1) := by decide +kernel
theorem dX9_turn_19 : decode cX9_turn 19 = .ok (.invokestatic 50, 3) := by decide +kernel
theorem dX9_turn_22 : decode cX9_turn 22 = .ok (.ireturn, 1) := by decide +kernel
theorem dX9_isUnder_0 : decode cX9_isUnder 0 = .ok (.iload_n 1, 1) := by decide +kernel
theorem dX9_isUnder_1 : decode cX9_isUnder 1 = .ok (.ifCond .eq 59, 3) := by decide +kernel
theorem dX9_isUnder_4 : decode cX9_isUnder 4 = .ok (.iload_n 1, 1) := by decide +kernel
theorem dX9_isUnder_5 : decode cX9_isUnder 5 = .ok (.iload_n 0, 1) := by decide +kernel
theorem dX9_isUnder_6 : decode cX9_isUnder 6 = .ok (.if_icmp .eq 54, 3) := by decide +kernel
theorem dX9_isUnder_9 : decode cX9_isUnder 9 = .ok (.iload_n 1, 1) := by decide +kernel
theorem dX9_isUnder_10 : decode cX9_isUnder 10 = .ok (.iconst 1, 1) := by decide +kernel
theorem dX9_isUnder_11 : decode cX9_isUnder 11 = .ok (.if_icmp .ne 9, 3) := by decide +kernel
theorem dX9_isUnder_14 : decode cX9_isUnder 14 = .ok (.iload_n 0, 1) := by decide +kernel
theorem dX9_isUnder_15 : decode cX9_isUnder 15 = .ok (.bipush 7, 2) := by decide +kernel
theorem dX9_isUnder_17 : decode cX9_isUnder 17 = .ok (.if_icmp .lt 43, 3) := by decide +kernel
theorem dX9_isUnder_20 : decode cX9_isUnder 20 = .ok (.iload_n 1, 1) := by decide +kernel
theorem dX9_isUnder_21 : decode cX9_isUnder 21 = .ok (.iconst 2, 1) := by decide +kernel
theorem dX9_isUnder_22 : decode cX9_isUnder 22 = .ok (.if_icmp .ne 15, 3) := by decide +kernel
theorem dX9_isUnder_25 : decode cX9_isUnder 25 = .ok (.iload_n 0, 1) := by decide +kernel
theorem dX9_isUnder_26 : decode cX9_isUnder 26 = .ok (.bipush 7, 2) := by decide +kernel
theorem dX9_isUnder_28 : decode cX9_isUnder 28 = .ok (.if_icmp .eq 32, 3) := by decide +kernel
theorem dX9_isUnder_31 : decode cX9_isUnder 31 = .ok (.iload_n 0, 1) := by decide +kernel
theorem dX9_isUnder_32 : decode cX9_isUnder 32 = .ok (.bipush 8, 2) := by decide +kernel
theorem dX9_isUnder_34 : decode cX9_isUnder 34 = .ok (.if_icmp .eq 26, 3) := by decide +kernel
theorem dX9_isUnder_37 : decode cX9_isUnder 37 = .ok (.iload_n 1, 1) := by decide +kernel
theorem dX9_isUnder_38 : decode cX9_isUnder 38 = .ok (.iconst 3, 1) := by decide +kernel
theorem dX9_isUnder_39 : decode cX9_isUnder 39 = .ok (.if_icmp .ne 9, 3) := by decide +kernel
theorem dX9_isUnder_42 : decode cX9_isUnder 42 = .ok (.iload_n 0, 1) := by decide +kernel
theorem dX9_isUnder_43 : decode cX9_isUnder 43 = .ok (.bipush 8, 2) := by decide +kernel
theorem dX9_isUnder_45 : decode cX9_isUnder 45 = .ok (.if_icmp .gt 15, 3) := by decide +kernel
theorem dX9_isUnder_48 : decode cX9_isUnder 48 = .ok (.iload_n 1, 1) := by decide +kernel
theorem dX9_isUnder_49 : decode cX9_isUnder 49 = .ok (.bipush 10, 2) := by decide +kernel
theorem dX9_isUnder_51 : decode cX9_isUnder 51 = .ok (.if_icmp .ne 13, 3) := by decide +kernel
theorem dX9_isUnder_54 : decode cX9_isUnder 54 = .ok (.iload_n 0, 1) := by decide +kernel
theorem dX9_isUnder_55 : decode cX9_isUnder 55 = .ok (.bipush 12, 2) := by decide +kernel
theorem dX9_isUnder_57 : decode cX9_isUnder 57 = .ok (.if_icmp .ne 7, 3) := by decide +kernel
theorem dX9_isUnder_60 : decode cX9_isUnder 60 = .ok (.iconst 1, 1) := by decide +kernel
theorem dX9_isUnder_61 : decode cX9_isUnder 61 = .ok (.goto 4, 3) := by decide +kernel
theorem dX9_isUnder_64 : decode cX9_isUnder 64 = .ok (.iconst 0, 1) := by decide +kernel
theorem dX9_isUnder_65 : decode cX9_isUnder 65 = .ok (.ireturn, 1) := by decide +kernel
theorem dX9_kindOf_0 : decode cX9_kindOf 0 = .ok (.iload_n 0, 1) := by decide +kernel
theorem dX9_kindOf_1 : decode cX9_kindOf 1 = .ok (.sipush 256, 3) := by decide +kernel
theorem dX9_kindOf_4 : decode cX9_kindOf 4 = .ok (.imul, 1) := by decide +kernel
theorem dX9_kindOf_5 : decode cX9_kindOf 5 = .ok (.iload_n 1, 1) := by decide +kernel
theorem dX9_kindOf_6 : decode cX9_kindOf 6 = .ok (.iadd, 1) := by decide +kernel
theorem dX9_kindOf_7 : decode cX9_kindOf 7 = .ok (.istore_n 2, 1) := by decide +kernel
theorem dX9_kindOf_8 : decode cX9_kindOf 8 = .ok (.iload_n 2, 1) := by decide +kernel
theorem dX9_kindOf_9 : decode cX9_kindOf 9 = .ok (.lookupswitch 108 #[(25199, 102), (27392, 83), (27508, 96), (27904, 93), (28672, 85), (29540, 105), (29547, 99), (29548, 87), (31087, 90)], 83) := by decide +kernel
theorem dX9_kindOf_92 : decode cX9_kindOf 92 = .ok (.iconst 4, 1) := by decide +kernel
theorem dX9_kindOf_93 : decode cX9_kindOf 93 = .ok (.ireturn, 1) := by decide +kernel
theorem dX9_kindOf_94 : decode cX9_kindOf 94 = .ok (.iconst 5, 1) := by decide +kernel
theorem dX9_kindOf_95 : decode cX9_kindOf 95 = .ok (.ireturn, 1) := by decide +kernel
theorem dX9_kindOf_96 : decode cX9_kindOf 96 = .ok (.bipush 6, 2) := by decide +kernel
theorem dX9_kindOf_98 : decode cX9_kindOf 98 = .ok (.ireturn, 1) := by decide +kernel
theorem dX9_kindOf_99 : decode cX9_kindOf 99 = .ok (.bipush 7, 2) := by decide +kernel
theorem dX9_kindOf_101 : decode cX9_kindOf 101 = .ok (.ireturn, 1) := by decide +kernel
theorem dX9_kindOf_102 : decode cX9_kindOf 102 = .ok (.bipush 8, 2) := by decide +kernel
theorem dX9_kindOf_104 : decode cX9_kindOf 104 = .ok (.ireturn, 1) := by decide +kernel
theorem dX9_kindOf_105 : decode cX9_kindOf 105 = .ok (.bipush 9, 2) := by decide +kernel
theorem dX9_kindOf_107 : decode cX9_kindOf 107 = .ok (.ireturn, 1) := by decide +kernel
theorem dX9_kindOf_108 : decode cX9_kindOf 108 = .ok (.bipush 10, 2) := by decide +kernel
theorem dX9_kindOf_110 : decode cX9_kindOf 110 = .ok (.ireturn, 1) := by decide +kernel
theorem dX9_kindOf_111 : decode cX9_kindOf 111 = .ok (.bipush 11, 2) := by decide +kernel
theorem dX9_kindOf_113 : decode cX9_kindOf 113 = .ok (.ireturn, 1) := by decide +kernel
theorem dX9_kindOf_114 : decode cX9_kindOf 114 = .ok (.bipush 12, 2) := by decide +kernel
theorem dX9_kindOf_116 : decode cX9_kindOf 116 = .ok (.ireturn, 1) := by decide +kernel
theorem dX9_kindOf_117 : decode cX9_kindOf 117 = .ok (.iconst (-1), 1) := by decide +kernel
theorem dX9_kindOf_118 : decode cX9_kindOf 118 = .ok (.ireturn, 1) := by decide +kernel
theorem dX9_letter_0 : decode cX9_letter 0 = .ok (.iload_n 0, 1) := by decide +kernel
theorem dX9_letter_1 : decode cX9_letter 1 = .ok (.iconst 4, 1) := by decide +kernel
theorem dX9_letter_2 : decode cX9_letter 2 = .ok (.if_icmp .eq 9, 3) := by decide +kernel
theorem dX9_letter_5 : decode cX9_letter 5 = .ok (.iload_n 0, 1) := by decide +kernel
theorem dX9_letter_6 : decode cX9_letter 6 = .ok (.bipush 9, 2) := by decide +kernel
theorem dX9_letter_8 : decode cX9_letter 8 = .ok (.if_icmp .ne 8, 3) := by decide +kernel
theorem dX9_letter_11 : decode cX9_letter 11 = .ok (.bipush 107, 2) := by decide +kernel
theorem dX9_letter_13 : decode cX9_letter 13 = .ok (.goto 60, 3) := by decide +kernel
theorem dX9_letter_16 : decode cX9_letter 16 = .ok (.iload_n 0, 1) := by decide +kernel
theorem dX9_letter_17 : decode cX9_letter 17 = .ok (.iconst 5, 1) := by decide +kernel
theorem dX9_letter_18 : decode cX9_letter 18 = .ok (.if_icmp .ne 8, 3) := by decide +kernel
theorem dX9_letter_21 : decode cX9_letter 21 = .ok (.bipush 112, 2) := by decide +kernel
theorem dX9_letter_23 : decode cX9_letter 23 = .ok (.goto 50, 3) := by decide +kernel
theorem dX9_letter_26 : decode cX9_letter 26 = .ok (.iload_n 0, 1) := by decide +kernel
theorem dX9_letter_27 : decode cX9_letter 27 = .ok (.bipush 6, 2) := by decide +kernel
theorem dX9_letter_29 : decode cX9_letter 29 = .ok (.if_icmp .eq 15, 3) := by decide +kernel
theorem dX9_letter_32 : decode cX9_letter 32 = .ok (.iload_n 0, 1) := by decide +kernel
theorem dX9_letter_33 : decode cX9_letter 33 = .ok (.bipush 10, 2) := by decide +kernel
theorem dX9_letter_35 : decode cX9_letter 35 = .ok (.if_icmp .eq 9, 3) := by decide +kernel
theorem dX9_letter_38 : decode cX9_letter 38 = .ok (.iload_n 0, 1) := by decide +kernel
theorem dX9_letter_39 : decode cX9_letter 39 = .ok (.bipush 12, 2) := by decide +kernel
theorem dX9_letter_41 : decode cX9_letter 41 = .ok (.if_icmp .ne 8, 3) := by decide +kernel
theorem dX9_letter_44 : decode cX9_letter 44 = .ok (.bipush 115, 2) := by decide +kernel
theorem dX9_letter_46 : decode cX9_letter 46 = .ok (.goto 27, 3) := by decide +kernel
theorem dX9_letter_49 : decode cX9_letter 49 = .ok (.iload_n 0, 1) := by decide +kernel
theorem dX9_letter_50 : decode cX9_letter 50 = .ok (.bipush 7, 2) := by decide +kernel
theorem dX9_letter_52 : decode cX9_letter 52 = .ok (.if_icmp .ne 8, 3) := by decide +kernel
theorem dX9_letter_55 : decode cX9_letter 55 = .ok (.bipush 121, 2) := by decide +kernel
theorem dX9_letter_57 : decode cX9_letter 57 = .ok (.goto 16, 3) := by decide +kernel
theorem dX9_letter_60 : decode cX9_letter 60 = .ok (.iload_n 0, 1) := by decide +kernel
theorem dX9_letter_61 : decode cX9_letter 61 = .ok (.bipush 8, 2) := by decide +kernel
theorem dX9_letter_63 : decode cX9_letter 63 = .ok (.if_icmp .ne 8, 3) := by decide +kernel
theorem dX9_letter_66 : decode cX9_letter 66 = .ok (.bipush 109, 2) := by decide +kernel
theorem dX9_letter_68 : decode cX9_letter 68 = .ok (.goto 5, 3) := by decide +kernel
theorem dX9_letter_71 : decode cX9_letter 71 = .ok (.bipush 98, 2) := by decide +kernel
theorem dX9_letter_73 : decode cX9_letter 73 = .ok (.istore_n 2, 1) := by decide +kernel
theorem dX9_letter_74 : decode cX9_letter 74 = .ok (.iload_n 0, 1) := by decide +kernel
theorem dX9_letter_75 : decode cX9_letter 75 = .ok (.bipush 6, 2) := by decide +kernel
theorem dX9_letter_77 : decode cX9_letter 77 = .ok (.if_icmp .ne 8, 3) := by decide +kernel
theorem dX9_letter_80 : decode cX9_letter 80 = .ok (.bipush 108, 2) := by decide +kernel
theorem dX9_letter_82 : decode cX9_letter 82 = .ok (.goto 54, 3) := by decide +kernel
theorem dX9_letter_85 : decode cX9_letter 85 = .ok (.iload_n 0, 1) := by decide +kernel
theorem dX9_letter_86 : decode cX9_letter 86 = .ok (.bipush 7, 2) := by decide +kernel
theorem dX9_letter_88 : decode cX9_letter 88 = .ok (.if_icmp .eq 9, 3) := by decide +kernel
theorem dX9_letter_91 : decode cX9_letter 91 = .ok (.iload_n 0, 1) := by decide +kernel
theorem dX9_letter_92 : decode cX9_letter 92 = .ok (.bipush 11, 2) := by decide +kernel
theorem dX9_letter_94 : decode cX9_letter 94 = .ok (.if_icmp .ne 8, 3) := by decide +kernel
theorem dX9_letter_97 : decode cX9_letter 97 = .ok (.bipush 111, 2) := by decide +kernel
theorem dX9_letter_99 : decode cX9_letter 99 = .ok (.goto 37, 3) := by decide +kernel
theorem dX9_letter_102 : decode cX9_letter 102 = .ok (.iload_n 0, 1) := by decide +kernel
theorem dX9_letter_103 : decode cX9_letter 103 = .ok (.bipush 9, 2) := by decide +kernel
theorem dX9_letter_105 : decode cX9_letter 105 = .ok (.if_icmp .ne 8, 3) := by decide +kernel
theorem dX9_letter_108 : decode cX9_letter 108 = .ok (.bipush 116, 2) := by decide +kernel
theorem dX9_letter_110 : decode cX9_letter 110 = .ok (.goto 26, 3) := by decide +kernel
theorem dX9_letter_113 : decode cX9_letter 113 = .ok (.iload_n 0, 1) := by decide +kernel
theorem dX9_letter_114 : decode cX9_letter 114 = .ok (.bipush 10, 2) := by decide +kernel
theorem dX9_letter_116 : decode cX9_letter 116 = .ok (.if_icmp .ne 8, 3) := by decide +kernel
theorem dX9_letter_119 : decode cX9_letter 119 = .ok (.bipush 107, 2) := by decide +kernel
theorem dX9_letter_121 : decode cX9_letter 121 = .ok (.goto 15, 3) := by decide +kernel
theorem dX9_letter_124 : decode cX9_letter 124 = .ok (.iload_n 0, 1) := by decide +kernel
theorem dX9_letter_125 : decode cX9_letter 125 = .ok (.bipush 12, 2) := by decide +kernel
theorem dX9_letter_127 : decode cX9_letter 127 = .ok (.if_icmp .ne 8, 3) := by decide +kernel
theorem dX9_letter_130 : decode cX9_letter 130 = .ok (.bipush 100, 2) := by decide +kernel
theorem dX9_letter_132 : decode cX9_letter 132 = .ok (.goto 4, 3) := by decide +kernel
theorem dX9_letter_135 : decode cX9_letter 135 = .ok (.iconst 0, 1) := by decide +kernel
theorem dX9_letter_136 : decode cX9_letter 136 = .ok (.istore_n 3, 1) := by decide +kernel
theorem dX9_letter_137 : decode cX9_letter 137 = .ok (.iload_n 1, 1) := by decide +kernel
theorem dX9_letter_138 : decode cX9_letter 138 = .ok (.ifCond .ne 7, 3) := by decide +kernel
theorem dX9_letter_141 : decode cX9_letter 141 = .ok (.iload_n 2, 1) := by decide +kernel
theorem dX9_letter_142 : decode cX9_letter 142 = .ok (.goto 4, 3) := by decide +kernel
theorem dX9_letter_145 : decode cX9_letter 145 = .ok (.iload_n 3, 1) := by decide +kernel
theorem dX9_letter_146 : decode cX9_letter 146 = .ok (.ireturn, 1) := by decide +kernel
theorem dX9_feed_0 : decode cX9_feed 0 = .ok (.iload_n 1, 1) := by decide +kernel
theorem dX9_feed_1 : decode cX9_feed 1 = .ok (.i2l, 1) := by decide +kernel
theorem dX9_feed_2 : decode cX9_feed 2 = .ok (.lconst 0, 1) := by decide +kernel
theorem dX9_feed_3 : decode cX9_feed 3 = .ok (.ldc2_w 54, 3) := by decide +kernel
theorem dX9_feed_6 : decode cX9_feed 6 = .ok (.invokestatic 56, 3) := by decide +kernel
theorem dX9_feed_9 : decode cX9_feed 9 = .ok (.ifCond .ne 10, 3) := by decide +kernel
theorem dX9_feed_12 : decode cX9_feed 12 = .ok (.aload_n 0, 1) := by decide +kernel
theorem dX9_feed_13 : decode cX9_feed 13 = .ok (.bipush (-92), 2) := by decide +kernel
theorem dX9_feed_15 : decode cX9_feed 15 = .ok (.invokevirtual 60, 3) := by decide +kernel
theorem dX9_feed_18 : decode cX9_feed 18 = .ok (.ireturn, 1) := by decide +kernel
theorem dX9_feed_19 : decode cX9_feed 19 = .ok (.aload_n 0, 1) := by decide +kernel
theorem dX9_feed_20 : decode cX9_feed 20 = .ok (.getfield 63, 3) := by decide +kernel
theorem dX9_feed_23 : decode cX9_feed 23 = .ok (.sipush 250, 3) := by decide +kernel
theorem dX9_feed_26 : decode cX9_feed 26 = .ok (.if_icmp .ne 10, 3) := by decide +kernel
theorem dX9_feed_29 : decode cX9_feed 29 = .ok (.aload_n 0, 1) := by decide +kernel
theorem dX9_feed_30 : decode cX9_feed 30 = .ok (.bipush (-96), 2) := by decide +kernel
theorem dX9_feed_32 : decode cX9_feed 32 = .ok (.invokevirtual 60, 3) := by decide +kernel
theorem dX9_feed_35 : decode cX9_feed 35 = .ok (.ireturn, 1) := by decide +kernel
theorem dX9_feed_36 : decode cX9_feed 36 = .ok (.aload_n 0, 1) := by decide +kernel
theorem dX9_feed_37 : decode cX9_feed 37 = .ok (.getfield 19, 3) := by decide +kernel
theorem dX9_feed_40 : decode cX9_feed 40 = .ok (.aload_n 0, 1) := by decide +kernel
theorem dX9_feed_41 : decode cX9_feed 41 = .ok (.getfield 63, 3) := by decide +kernel
theorem dX9_feed_44 : decode cX9_feed 44 = .ok (.iload_n 1, 1) := by decide +kernel
theorem dX9_feed_45 : decode cX9_feed 45 = .ok (.iastore, 1) := by decide +kernel
theorem dX9_feed_46 : decode cX9_feed 46 = .ok (.aload_n 0, 1) := by decide +kernel
theorem dX9_feed_47 : decode cX9_feed 47 = .ok (.dup, 1) := by decide +kernel
theorem dX9_feed_48 : decode cX9_feed 48 = .ok (.getfield 63, 3) := by decide +kernel
theorem dX9_feed_51 : decode cX9_feed 51 = .ok (.iconst 1, 1) := by decide +kernel
theorem dX9_feed_52 : decode cX9_feed 52 = .ok (.iadd, 1) := by decide +kernel
theorem dX9_feed_53 : decode cX9_feed 53 = .ok (.putfield 63, 3) := by decide +kernel
theorem dX9_feed_56 : decode cX9_feed 56 = .ok (.aload_n 0, 1) := by decide +kernel
theorem dX9_feed_57 : decode cX9_feed 57 = .ok (.getfield 63, 3) := by decide +kernel
theorem dX9_feed_60 : decode cX9_feed 60 = .ok (.ireturn, 1) := by decide +kernel
theorem dX9_wipe_0 : decode cX9_wipe 0 = .ok (.aload_n 0, 1) := by decide +kernel
theorem dX9_wipe_1 : decode cX9_wipe 1 = .ok (.getfield 63, 3) := by decide +kernel
theorem dX9_wipe_4 : decode cX9_wipe 4 = .ok (.istore_n 1, 1) := by decide +kernel
theorem dX9_wipe_5 : decode cX9_wipe 5 = .ok (.aload_n 0, 1) := by decide +kernel
theorem dX9_wipe_6 : decode cX9_wipe 6 = .ok (.iconst 0, 1) := by decide +kernel
theorem dX9_wipe_7 : decode cX9_wipe 7 = .ok (.putfield 63, 3) := by decide +kernel
theorem dX9_wipe_10 : decode cX9_wipe 10 = .ok (.iload_n 1, 1) := by decide +kernel
theorem dX9_wipe_11 : decode cX9_wipe 11 = .ok (.ireturn, 1) := by decide +kernel
theorem dX9_peek_0 : decode cX9_peek 0 = .ok (.aload_n 0, 1) := by decide +kernel
theorem dX9_peek_1 : decode cX9_peek 1 = .ok (.getfield 67, 3) := by decide +kernel
theorem dX9_peek_4 : decode cX9_peek 4 = .ok (.aload_n 0, 1) := by decide +kernel
theorem dX9_peek_5 : decode cX9_peek 5 = .ok (.getfield 70, 3) := by decide +kernel
theorem dX9_peek_8 : decode cX9_peek 8 = .ok (.if_icmp .ge 15, 3) := by decide +kernel
theorem dX9_peek_11 : decode cX9_peek 11 = .ok (.aload_n 0, 1) := by decide +kernel
theorem dX9_peek_12 : decode cX9_peek 12 = .ok (.getfield 22, 3) := by decide +kernel
theorem dX9_peek_15 : decode cX9_peek 15 = .ok (.aload_n 0, 1) := by decide +kernel
theorem dX9_peek_16 : decode cX9_peek 16 = .ok (.getfield 67, 3) := by decide +kernel
theorem dX9_peek_19 : decode cX9_peek 19 = .ok (.iaload, 1) := by decide +kernel
theorem dX9_peek_20 : decode cX9_peek 20 = .ok (.goto 4, 3) := by decide +kernel
theorem dX9_peek_23 : decode cX9_peek 23 = .ok (.iconst (-1), 1) := by decide +kernel
theorem dX9_peek_24 : decode cX9_peek 24 = .ok (.ireturn, 1) := by decide +kernel
theorem dX9_isFigure_0 : decode cX9_isFigure 0 = .ok (.iload_n 0, 1) := by decide +kernel
theorem dX9_isFigure_1 : decode cX9_isFigure 1 = .ok (.i2l, 1) := by decide +kernel
theorem dX9_isFigure_2 : decode cX9_isFigure 2 = .ok (.ldc2_w 73, 3) := by decide +kernel
theorem dX9_isFigure_5 : decode cX9_isFigure 5 = .ok (.ldc2_w 75, 3) := by decide +kernel
theorem dX9_isFigure_8 : decode cX9_isFigure 8 = .ok (.invokestatic 56, 3) := by decide +kernel
theorem dX9_isFigure_11 : decode cX9_isFigure 11 = .ok (.ireturn, 1) := by decide +kernel
theorem dX9_number_0 : decode cX9_number 0 = .ok (.aload_n 0, 1) := by decide +kernel
theorem dX9_number_1 : decode cX9_number 1 = .ok (.getfield 67, 3) := by decide +kernel
theorem dX9_number_4 : decode cX9_number 4 = .ok (.istore_n 3, 1) := by decide +kernel
theorem dX9_number_5 : decode cX9_number 5 = .ok (.iconst 0, 1) := by decide +kernel
theorem dX9_number_6 : decode cX9_number 6 = .ok (.istore 4, 2) := by decide +kernel
theorem dX9_number_8 : decode cX9_number 8 = .ok (.iconst 0, 1) := by decide +kernel
theorem dX9_number_9 : decode cX9_number 9 = .ok (.istore 5, 2) := by decide +kernel
theorem dX9_number_11 : decode cX9_number 11 = .ok (.iload 5, 2) := by decide +kernel
theorem dX9_number_13 : decode cX9_number 13 = .ok (.iconst 2, 1) := by decide +kernel
theorem dX9_number_14 : decode cX9_number 14 = .ok (.if_icmp .ge 44, 3) := by decide +kernel
theorem dX9_number_17 : decode cX9_number 17 = .ok (.aload_n 0, 1) := by decide +kernel
theorem dX9_number_18 : decode cX9_number 18 = .ok (.invokevirtual 77, 3) := by decide +kernel
theorem dX9_number_21 : decode cX9_number 21 = .ok (.invokestatic 81, 3) := by decide +kernel
theorem dX9_number_24 : decode cX9_number 24 = .ok (.ifCond .eq 34, 3) := by decide +kernel
theorem dX9_number_27 : decode cX9_number 27 = .ok (.bipush 10, 2) := by decide +kernel
theorem dX9_number_29 : decode cX9_number 29 = .ok (.iload 4, 2) := by decide +kernel
theorem dX9_number_31 : decode cX9_number 31 = .ok (.imul, 1) := by decide +kernel
theorem dX9_number_32 : decode cX9_number 32 = .ok (.aload_n 0, 1) := by decide +kernel
theorem dX9_number_33 : decode cX9_number 33 = .ok (.invokevirtual 77, 3) := by decide +kernel
theorem dX9_number_36 : decode cX9_number 36 = .ok (.iadd, 1) := by decide +kernel
theorem dX9_number_37 : decode cX9_number 37 = .ok (.bipush 48, 2) := by decide +kernel
theorem dX9_number_39 : decode cX9_number 39 = .ok (.isub, 1) := by decide +kernel
theorem dX9_number_40 : decode cX9_number 40 = .ok (.istore 4, 2) := by decide +kernel
theorem dX9_number_42 : decode cX9_number 42 = .ok (.aload_n 0, 1) := by decide +kernel
theorem dX9_number_43 : decode cX9_number 43 = .ok (.dup, 1) := by decide +kernel
theorem dX9_number_44 : decode cX9_number 44 = .ok (.getfield 67, 3) := by decide +kernel
theorem dX9_number_47 : decode cX9_number 47 = .ok (.iconst 1, 1) := by decide +kernel
theorem dX9_number_48 : decode cX9_number 48 = .ok (.iadd, 1) := by decide +kernel
theorem dX9_number_49 : decode cX9_number 49 = .ok (.putfield 67, 3) := by decide +kernel
theorem dX9_number_52 : decode cX9_number 52 = .ok (.iinc 5 1, 3) := by decide +kernel
theorem dX9_number_55 : decode cX9_number 55 = .ok (.goto (-44), 3) := by decide +kernel
theorem dX9_number_58 : decode cX9_number 58 = .ok (.aload_n 0, 1) := by decide +kernel
theorem dX9_number_59 : decode cX9_number 59 = .ok (.getfield 67, 3) := by decide +kernel
theorem dX9_number_62 : decode cX9_number 62 = .ok (.iload_n 3, 1) := by decide +kernel
theorem dX9_number_63 : decode cX9_number 63 = .ok (.if_icmp .eq 16, 3) := by decide +kernel
theorem dX9_number_66 : decode cX9_number 66 = .ok (.iload 4, 2) := by decide +kernel
theorem dX9_number_68 : decode cX9_number 68 = .ok (.i2l, 1) := by decide +kernel
theorem dX9_number_69 : decode cX9_number 69 = .ok (.iload_n 1, 1) := by decide +kernel
theorem dX9_number_70 : decode cX9_number 70 = .ok (.i2l, 1) := by decide +kernel
theorem dX9_number_71 : decode cX9_number 71 = .ok (.iload_n 2, 1) := by decide +kernel
theorem dX9_number_72 : decode cX9_number 72 = .ok (.i2l, 1) := by decide +kernel
theorem dX9_number_73 : decode cX9_number 73 = .ok (.invokestatic 56, 3) := by decide +kernel
theorem dX9_number_76 : decode cX9_number 76 = .ok (.ifCond .ne 13, 3) := by decide +kernel
theorem dX9_number_79 : decode cX9_number 79 = .ok (.aload_n 0, 1) := by decide +kernel
theorem dX9_number_80 : decode cX9_number 80 = .ok (.iload_n 3, 1) := by decide +kernel
theorem dX9_number_81 : decode cX9_number 81 = .ok (.putfield 67, 3) := by decide +kernel
theorem dX9_number_84 : decode cX9_number 84 = .ok (.aload_n 0, 1) := by decide +kernel
theorem dX9_number_85 : decode cX9_number 85 = .ok (.iconst 0, 1) := by decide +kernel
theorem dX9_number_86 : decode cX9_number 86 = .ok (.putfield 85, 3) := by decide +kernel
theorem dX9_number_89 : decode cX9_number 89 = .ok (.iload 4, 2) := by decide +kernel
theorem dX9_number_91 : decode cX9_number 91 = .ok (.ireturn, 1) := by decide +kernel
theorem dX9_word_0 : decode cX9_word 0 = .ok (.aload_n 0, 1) := by decide +kernel
theorem dX9_word_1 : decode cX9_word 1 = .ok (.getfield 67, 3) := by decide +kernel
theorem dX9_word_4 : decode cX9_word 4 = .ok (.istore_n 1, 1) := by decide +kernel
theorem dX9_word_5 : decode cX9_word 5 = .ok (.aload_n 0, 1) := by decide +kernel
theorem dX9_word_6 : decode cX9_word 6 = .ok (.invokevirtual 77, 3) := by decide +kernel
theorem dX9_word_9 : decode cX9_word 9 = .ok (.i2l, 1) := by decide +kernel
theorem dX9_word_10 : decode cX9_word 10 = .ok (.ldc2_w 89, 3) := by decide +kernel
theorem dX9_word_13 : decode cX9_word 13 = .ok (.ldc2_w 91, 3) := by decide +kernel
theorem dX9_word_16 : decode cX9_word 16 = .ok (.invokestatic 56, 3) := by decide +kernel
theorem dX9_word_19 : decode cX9_word 19 = .ok (.ifCond .eq 16, 3) := by decide +kernel
theorem dX9_word_22 : decode cX9_word 22 = .ok (.aload_n 0, 1) := by decide +kernel
theorem dX9_word_23 : decode cX9_word 23 = .ok (.dup, 1) := by decide +kernel
theorem dX9_word_24 : decode cX9_word 24 = .ok (.getfield 67, 3) := by decide +kernel
theorem dX9_word_27 : decode cX9_word 27 = .ok (.iconst 1, 1) := by decide +kernel
theorem dX9_word_28 : decode cX9_word 28 = .ok (.iadd, 1) := by decide +kernel
theorem dX9_word_29 : decode cX9_word 29 = .ok (.putfield 67, 3) := by decide +kernel
theorem dX9_word_32 : decode cX9_word 32 = .ok (.goto (-27), 3) := by decide +kernel
theorem dX9_word_35 : decode cX9_word 35 = .ok (.aload_n 0, 1) := by decide +kernel
theorem dX9_word_36 : decode cX9_word 36 = .ok (.getfield 67, 3) := by decide +kernel
theorem dX9_word_39 : decode cX9_word 39 = .ok (.iload_n 1, 1) := by decide +kernel
theorem dX9_word_40 : decode cX9_word 40 = .ok (.isub, 1) := by decide +kernel
theorem dX9_word_41 : decode cX9_word 41 = .ok (.istore_n 2, 1) := by decide +kernel
theorem dX9_word_42 : decode cX9_word 42 = .ok (.iload_n 2, 1) := by decide +kernel
theorem dX9_word_43 : decode cX9_word 43 = .ok (.iconst 1, 1) := by decide +kernel
theorem dX9_word_44 : decode cX9_word 44 = .ok (.if_icmp .lt 8, 3) := by decide +kernel
theorem dX9_word_47 : decode cX9_word 47 = .ok (.iload_n 2, 1) := by decide +kernel
theorem dX9_word_48 : decode cX9_word 48 = .ok (.iconst 2, 1) := by decide +kernel
theorem dX9_word_49 : decode cX9_word 49 = .ok (.if_icmp .le 7, 3) := by decide +kernel
theorem dX9_word_52 : decode cX9_word 52 = .ok (.iconst (-1), 1) := by decide +kernel
theorem dX9_word_53 : decode cX9_word 53 = .ok (.goto 29, 3) := by decide +kernel
theorem dX9_word_56 : decode cX9_word 56 = .ok (.aload_n 0, 1) := by decide +kernel
theorem dX9_word_57 : decode cX9_word 57 = .ok (.getfield 22, 3) := by decide +kernel
theorem dX9_word_60 : decode cX9_word 60 = .ok (.iload_n 1, 1) := by decide +kernel
theorem dX9_word_61 : decode cX9_word 61 = .ok (.iaload, 1) := by decide +kernel
theorem dX9_word_62 : decode cX9_word 62 = .ok (.iload_n 2, 1) := by decide +kernel
theorem dX9_word_63 : decode cX9_word 63 = .ok (.iconst 2, 1) := by decide +kernel
theorem dX9_word_64 : decode cX9_word 64 = .ok (.if_icmp .ne 14, 3) := by decide +kernel
theorem dX9_word_67 : decode cX9_word 67 = .ok (.aload_n 0, 1) := by decide +kernel
theorem dX9_word_68 : decode cX9_word 68 = .ok (.getfield 22, 3) := by decide +kernel
theorem dX9_word_71 : decode cX9_word 71 = .ok (.iload_n 1, 1) := by decide +kernel
theorem dX9_word_72 : decode cX9_word 72 = .ok (.iconst 1, 1) := by decide +kernel
theorem dX9_word_73 : decode cX9_word 73 = .ok (.iadd, 1) := by decide +kernel
theorem dX9_word_74 : decode cX9_word 74 = .ok (.iaload, 1) := by decide +kernel
theorem dX9_word_75 : decode cX9_word 75 = .ok (.goto 4, 3) := by decide +kernel
theorem dX9_word_78 : decode cX9_word 78 = .ok (.iconst 0, 1) := by decide +kernel
theorem dX9_word_79 : decode cX9_word 79 = .ok (.invokestatic 93, 3) := by decide +kernel
theorem dX9_word_82 : decode cX9_word 82 = .ok (.istore_n 3, 1) := by decide +kernel
theorem dX9_word_83 : decode cX9_word 83 = .ok (.iload_n 3, 1) := by decide +kernel
theorem dX9_word_84 : decode cX9_word 84 = .ok (.ifCond .ge 13, 3) := by decide +kernel
theorem dX9_word_87 : decode cX9_word 87 = .ok (.aload_n 0, 1) := by decide +kernel
theorem dX9_word_88 : decode cX9_word 88 = .ok (.iload_n 1, 1) := by decide +kernel
theorem dX9_word_89 : decode cX9_word 89 = .ok (.putfield 67, 3) := by decide +kernel
theorem dX9_word_92 : decode cX9_word 92 = .ok (.aload_n 0, 1) := by decide +kernel
theorem dX9_word_93 : decode cX9_word 93 = .ok (.iconst 0, 1) := by decide +kernel
theorem dX9_word_94 : decode cX9_word 94 = .ok (.putfield 85, 3) := by decide +kernel
theorem dX9_word_97 : decode cX9_word 97 = .ok (.iload_n 3, 1) := by decide +kernel
theorem dX9_word_98 : decode cX9_word 98 = .ok (.ireturn, 1) := by decide +kernel
theorem dX9_reads_0 : decode cX9_reads 0 = .ok (.iconst 1, 1) := by decide +kernel
theorem dX9_reads_1 : decode cX9_reads 1 = .ok (.istore_n 2, 1) := by decide +kernel
theorem dX9_reads_2 : decode cX9_reads 2 = .ok (.iload_n 2, 1) := by decide +kernel
theorem dX9_reads_3 : decode cX9_reads 3 = .ok (.ifCond .eq 232, 3) := by decide +kernel
theorem dX9_reads_6 : decode cX9_reads 6 = .ok (.aload_n 0, 1) := by decide +kernel
theorem dX9_reads_7 : decode cX9_reads 7 = .ok (.getfield 85, 3) := by decide +kernel
theorem dX9_reads_10 : decode cX9_reads 10 = .ok (.ifCond .eq 225, 3) := by decide +kernel
theorem dX9_reads_13 : decode cX9_reads 13 = .ok (.aload_n 0, 1) := by decide +kernel
theorem dX9_reads_14 : decode cX9_reads 14 = .ok (.dup, 1) := by decide +kernel
theorem dX9_reads_15 : decode cX9_reads 15 = .ok (.getfield 97, 3) := by decide +kernel
theorem dX9_reads_18 : decode cX9_reads 18 = .ok (.iconst 1, 1) := by decide +kernel
theorem dX9_reads_19 : decode cX9_reads 19 = .ok (.iadd, 1) := by decide +kernel
theorem dX9_reads_20 : decode cX9_reads 20 = .ok (.putfield 97, 3) := by decide +kernel
theorem dX9_reads_23 : decode cX9_reads 23 = .ok (.aload_n 0, 1) := by decide +kernel
theorem dX9_reads_24 : decode cX9_reads 24 = .ok (.aload_n 0, 1) := by decide +kernel
theorem dX9_reads_25 : decode cX9_reads 25 = .ok (.getfield 100, 3) := by decide +kernel
theorem dX9_reads_28 : decode cX9_reads 28 = .ok (.iload_n 1, 1) := by decide +kernel
theorem dX9_reads_29 : decode cX9_reads 29 = .ok (.invokestatic 103, 3) := by decide +kernel
theorem dX9_reads_32 : decode cX9_reads 32 = .ok (.putfield 100, 3) := by decide +kernel
theorem dX9_reads_35 : decode cX9_reads 35 = .ok (.aload_n 0, 1) := by decide +kernel
theorem dX9_reads_36 : decode cX9_reads 36 = .ok (.invokevirtual 77, 3) := by decide +kernel
theorem dX9_reads_39 : decode cX9_reads 39 = .ok (.istore_n 3, 1) := by decide +kernel
theorem dX9_reads_40 : decode cX9_reads 40 = .ok (.iload_n 3, 1) := by decide +kernel
theorem dX9_reads_41 : decode cX9_reads 41 = .ok (.bipush 40, 2) := by decide +kernel
theorem dX9_reads_43 : decode cX9_reads 43 = .ok (.if_icmp .eq 9, 3) := by decide +kernel
theorem dX9_reads_46 : decode cX9_reads 46 = .ok (.iload_n 3, 1) := by decide +kernel
theorem dX9_reads_47 : decode cX9_reads 47 = .ok (.bipush 60, 2) := by decide +kernel
theorem dX9_reads_49 : decode cX9_reads 49 = .ok (.if_icmp .ne 113, 3) := by decide +kernel
theorem dX9_reads_52 : decode cX9_reads 52 = .ok (.iload_n 1, 1) := by decide +kernel
theorem dX9_reads_53 : decode cX9_reads 53 = .ok (.iconst 5, 1) := by decide +kernel
theorem dX9_reads_54 : decode cX9_reads 54 = .ok (.if_icmp .ge 108, 3) := by decide +kernel
theorem dX9_reads_57 : decode cX9_reads 57 = .ok (.aload_n 0, 1) := by decide +kernel
theorem dX9_reads_58 : decode cX9_reads 58 = .ok (.aload_n 0, 1) := by decide +kernel
theorem dX9_reads_59 : decode cX9_reads 59 = .ok (.getfield 108, 3) := by decide +kernel
theorem dX9_reads_62 : decode cX9_reads 62 = .ok (.ifCond .ne 9, 3) := by decide +kernel
theorem dX9_reads_65 : decode cX9_reads 65 = .ok (.iload_n 3, 1) := by decide +kernel
theorem dX9_reads_66 : decode cX9_reads 66 = .ok (.bipush 60, 2) := by decide +kernel
theorem dX9_reads_68 : decode cX9_reads 68 = .ok (.if_icmp .ne 7, 3) := by decide +kernel
theorem dX9_reads_71 : decode cX9_reads 71 = .ok (.iconst 1, 1) := by decide +kernel
theorem dX9_reads_72 : decode cX9_reads 72 = .ok (.goto 4, 3) := by decide +kernel
theorem dX9_reads_75 : decode cX9_reads 75 = .ok (.iconst 0, 1) := by decide +kernel
theorem dX9_reads_76 : decode cX9_reads 76 = .ok (.putfield 108, 3) := by decide +kernel
theorem dX9_reads_79 : decode cX9_reads 79 = .ok (.aload_n 0, 1) := by decide +kernel
theorem dX9_reads_80 : decode cX9_reads 80 = .ok (.dup, 1) := by decide +kernel
theorem dX9_reads_81 : decode cX9_reads 81 = .ok (.getfield 67, 3) := by decide +kernel
theorem dX9_reads_84 : decode cX9_reads 84 = .ok (.iconst 1, 1) := by decide +kernel
theorem dX9_reads_85 : decode cX9_reads 85 = .ok (.iadd, 1) := by decide +kernel
theorem dX9_reads_86 : decode cX9_reads 86 = .ok (.putfield 67, 3) := by decide +kernel
theorem dX9_reads_89 : decode cX9_reads 89 = .ok (.aload_n 0, 1) := by decide +kernel
theorem dX9_reads_90 : decode cX9_reads 90 = .ok (.iload_n 1, 1) := by decide +kernel
theorem dX9_reads_91 : decode cX9_reads 91 = .ok (.iconst 1, 1) := by decide +kernel
theorem dX9_reads_92 : decode cX9_reads 92 = .ok (.iadd, 1) := by decide +kernel
theorem dX9_reads_93 : decode cX9_reads 93 = .ok (.invokevirtual 111, 3) := by decide +kernel
theorem dX9_reads_96 : decode cX9_reads 96 = .ok (.aload_n 0, 1) := by decide +kernel
theorem dX9_reads_97 : decode cX9_reads 97 = .ok (.getfield 85, 3) := by decide +kernel
theorem dX9_reads_100 : decode cX9_reads 100 = .ok (.ifCond .eq 54, 3) := by decide +kernel
theorem dX9_reads_103 : decode cX9_reads 103 = .ok (.aload_n 0, 1) := by decide +kernel
theorem dX9_reads_104 : decode cX9_reads 104 = .ok (.invokevirtual 77, 3) := by decide +kernel
theorem dX9_reads_107 : decode cX9_reads 107 = .ok (.iload_n 3, 1) := by decide +kernel
theorem dX9_reads_108 : decode cX9_reads 108 = .ok (.bipush 40, 2) := by decide +kernel
theorem dX9_reads_110 : decode cX9_reads 110 = .ok (.if_icmp .ne 8, 3) := by decide +kernel
theorem dX9_reads_113 : decode cX9_reads 113 = .ok (.bipush 41, 2) := by decide +kernel
theorem dX9_reads_115 : decode cX9_reads 115 = .ok (.goto 5, 3) := by decide +kernel
theorem dX9_reads_118 : decode cX9_reads 118 = .ok (.bipush 62, 2) := by decide +kernel
theorem dX9_reads_120 : decode cX9_reads 120 = .ok (.if_icmp .ne 34, 3) := by decide +kernel
theorem dX9_reads_123 : decode cX9_reads 123 = .ok (.aload_n 0, 1) := by decide +kernel
theorem dX9_reads_124 : decode cX9_reads 124 = .ok (.dup, 1) := by decide +kernel
theorem dX9_reads_125 : decode cX9_reads 125 = .ok (.getfield 67, 3) := by decide +kernel
theorem dX9_reads_128 : decode cX9_reads 128 = .ok (.iconst 1, 1) := by decide +kernel
theorem dX9_reads_129 : decode cX9_reads 129 = .ok (.iadd, 1) := by decide +kernel
theorem dX9_reads_130 : decode cX9_reads 130 = .ok (.putfield 67, 3) := by decide +kernel
theorem dX9_reads_133 : decode cX9_reads 133 = .ok (.aload_n 0, 1) := by decide +kernel
theorem dX9_reads_134 : decode cX9_reads 134 = .ok (.iload_n 3, 1) := by decide +kernel
theorem dX9_reads_135 : decode cX9_reads 135 = .ok (.bipush 40, 2) := by decide +kernel
theorem dX9_reads_137 : decode cX9_reads 137 = .ok (.if_icmp .ne 7, 3) := by decide +kernel
theorem dX9_reads_140 : decode cX9_reads 140 = .ok (.iconst 1, 1) := by decide +kernel
theorem dX9_reads_141 : decode cX9_reads 141 = .ok (.goto 4, 3) := by decide +kernel
theorem dX9_reads_144 : decode cX9_reads 144 = .ok (.iconst 0, 1) := by decide +kernel
theorem dX9_reads_145 : decode cX9_reads 145 = .ok (.bipush 60, 2) := by decide +kernel
theorem dX9_reads_147 : decode cX9_reads 147 = .ok (.invokevirtual 115, 3) := by decide +kernel
theorem dX9_reads_150 : decode cX9_reads 150 = .ok (.pop, 1) := by decide +kernel
theorem dX9_reads_151 : decode cX9_reads 151 = .ok (.goto 41, 3) := by decide +kernel
theorem dX9_reads_154 : decode cX9_reads 154 = .ok (.aload_n 0, 1) := by decide +kernel
theorem dX9_reads_155 : decode cX9_reads 155 = .ok (.iconst 0, 1) := by decide +kernel
theorem dX9_reads_156 : decode cX9_reads 156 = .ok (.putfield 85, 3) := by decide +kernel
theorem dX9_reads_159 : decode cX9_reads 159 = .ok (.goto 33, 3) := by decide +kernel
theorem dX9_reads_162 : decode cX9_reads 162 = .ok (.aload_n 0, 1) := by decide +kernel
theorem dX9_reads_163 : decode cX9_reads 163 = .ok (.invokevirtual 118, 3) := by decide +kernel
theorem dX9_reads_166 : decode cX9_reads 166 = .ok (.pop, 1) := by decide +kernel
theorem dX9_reads_167 : decode cX9_reads 167 = .ok (.aload_n 0, 1) := by decide +kernel
theorem dX9_reads_168 : decode cX9_reads 168 = .ok (.getfield 85, 3) := by decide +kernel
theorem dX9_reads_171 : decode cX9_reads 171 = .ok (.ifCond .eq 21, 3) := by decide +kernel
theorem dX9_reads_174 : decode cX9_reads 174 = .ok (.aload_n 0, 1) := by decide +kernel
theorem dX9_reads_175 : decode cX9_reads 175 = .ok (.invokevirtual 77, 3) := by decide +kernel
theorem dX9_reads_178 : decode cX9_reads 178 = .ok (.invokestatic 81, 3) := by decide +kernel
theorem dX9_reads_181 : decode cX9_reads 181 = .ok (.ifCond .eq 11, 3) := by decide +kernel
theorem dX9_reads_184 : decode cX9_reads 184 = .ok (.aload_n 0, 1) := by decide +kernel
theorem dX9_reads_185 : decode cX9_reads 185 = .ok (.iconst 1, 1) := by decide +kernel
theorem dX9_reads_186 : decode cX9_reads 186 = .ok (.bipush 60, 2) := by decide +kernel
theorem dX9_reads_188 : decode cX9_reads 188 = .ok (.invokevirtual 115, 3) := by decide +kernel
theorem dX9_reads_191 : decode cX9_reads 191 = .ok (.pop, 1) := by decide +kernel
theorem dX9_reads_192 : decode cX9_reads 192 = .ok (.aload_n 0, 1) := by decide +kernel
theorem dX9_reads_193 : decode cX9_reads 193 = .ok (.getfield 85, 3) := by decide +kernel
theorem dX9_reads_196 : decode cX9_reads 196 = .ok (.ifCond .eq 16, 3) := by decide +kernel
theorem dX9_reads_199 : decode cX9_reads 199 = .ok (.aload_n 0, 1) := by decide +kernel
theorem dX9_reads_200 : decode cX9_reads 200 = .ok (.invokevirtual 77, 3) := by decide +kernel
theorem dX9_reads_203 : decode cX9_reads 203 = .ok (.bipush 44, 2) := by decide +kernel
theorem dX9_reads_205 : decode cX9_reads 205 = .ok (.if_icmp .ne 7, 3) := by decide +kernel
theorem dX9_reads_208 : decode cX9_reads 208 = .ok (.iconst 1, 1) := by decide +kernel
theorem dX9_reads_209 : decode cX9_reads 209 = .ok (.goto 4, 3) := by decide +kernel
theorem dX9_reads_212 : decode cX9_reads 212 = .ok (.iconst 0, 1) := by decide +kernel
theorem dX9_reads_213 : decode cX9_reads 213 = .ok (.istore_n 2, 1) := by decide +kernel
theorem dX9_reads_214 : decode cX9_reads 214 = .ok (.aload_n 0, 1) := by decide +kernel
theorem dX9_reads_215 : decode cX9_reads 215 = .ok (.dup, 1) := by decide +kernel
theorem dX9_reads_216 : decode cX9_reads 216 = .ok (.getfield 67, 3) := by decide +kernel
theorem dX9_reads_219 : decode cX9_reads 219 = .ok (.iload_n 2, 1) := by decide +kernel
theorem dX9_reads_220 : decode cX9_reads 220 = .ok (.ifCond .eq 7, 3) := by decide +kernel
theorem dX9_reads_223 : decode cX9_reads 223 = .ok (.iconst 1, 1) := by decide +kernel
theorem dX9_reads_224 : decode cX9_reads 224 = .ok (.goto 4, 3) := by decide +kernel
theorem dX9_reads_227 : decode cX9_reads 227 = .ok (.iconst 0, 1) := by decide +kernel
theorem dX9_reads_228 : decode cX9_reads 228 = .ok (.iadd, 1) := by decide +kernel
theorem dX9_reads_229 : decode cX9_reads 229 = .ok (.putfield 67, 3) := by decide +kernel
theorem dX9_reads_232 : decode cX9_reads 232 = .ok (.goto (-230), 3) := by decide +kernel
theorem dX9_reads_235 : decode cX9_reads 235 = .ok (.return_, 1) := by decide +kernel
theorem dX9_readsAll_0 : decode cX9_readsAll 0 = .ok (.aload_n 0, 1) := by decide +kernel
theorem dX9_readsAll_1 : decode cX9_readsAll 1 = .ok (.iconst 0, 1) := by decide +kernel
theorem dX9_readsAll_2 : decode cX9_readsAll 2 = .ok (.putfield 67, 3) := by decide +kernel
theorem dX9_readsAll_5 : decode cX9_readsAll 5 = .ok (.aload_n 0, 1) := by decide +kernel
theorem dX9_readsAll_6 : decode cX9_readsAll 6 = .ok (.iconst 1, 1) := by decide +kernel
theorem dX9_readsAll_7 : decode cX9_readsAll 7 = .ok (.putfield 85, 3) := by decide +kernel
theorem dX9_readsAll_10 : decode cX9_readsAll 10 = .ok (.aload_n 0, 1) := by decide +kernel
theorem dX9_readsAll_11 : decode cX9_readsAll 11 = .ok (.iconst 0, 1) := by decide +kernel
theorem dX9_readsAll_12 : decode cX9_readsAll 12 = .ok (.putfield 97, 3) := by decide +kernel
theorem dX9_readsAll_15 : decode cX9_readsAll 15 = .ok (.aload_n 0, 1) := by decide +kernel
theorem dX9_readsAll_16 : decode cX9_readsAll 16 = .ok (.iconst 0, 1) := by decide +kernel
theorem dX9_readsAll_17 : decode cX9_readsAll 17 = .ok (.putfield 100, 3) := by decide +kernel
theorem dX9_readsAll_20 : decode cX9_readsAll 20 = .ok (.aload_n 0, 1) := by decide +kernel
theorem dX9_readsAll_21 : decode cX9_readsAll 21 = .ok (.iconst 0, 1) := by decide +kernel
theorem dX9_readsAll_22 : decode cX9_readsAll 22 = .ok (.putfield 108, 3) := by decide +kernel
theorem dX9_readsAll_25 : decode cX9_readsAll 25 = .ok (.aload_n 0, 1) := by decide +kernel
theorem dX9_readsAll_26 : decode cX9_readsAll 26 = .ok (.iconst 0, 1) := by decide +kernel
theorem dX9_readsAll_27 : decode cX9_readsAll 27 = .ok (.invokevirtual 111, 3) := by decide +kernel
theorem dX9_readsAll_30 : decode cX9_readsAll 30 = .ok (.return_, 1) := by decide +kernel
theorem dX9_takesText_0 : decode cX9_takesText 0 = .ok (.aload_n 0, 1) := by decide +kernel
theorem dX9_takesText_1 : decode cX9_takesText 1 = .ok (.aload_n 0, 1) := by decide +kernel
theorem dX9_takesText_2 : decode cX9_takesText 2 = .ok (.getfield 13, 3) := by decide +kernel
theorem dX9_takesText_5 : decode cX9_takesText 5 = .ok (.sipush 251, 3) := by decide +kernel
theorem dX9_takesText_8 : decode cX9_takesText 8 = .ok (.iload_n 1, 1) := by decide +kernel
theorem dX9_takesText_9 : decode cX9_takesText 9 = .ok (.imul, 1) := by decide +kernel
theorem dX9_takesText_10 : decode cX9_takesText 10 = .ok (.iaload, 1) := by decide +kernel
theorem dX9_takesText_11 : decode cX9_takesText 11 = .ok (.putfield 70, 3) := by decide +kernel
theorem dX9_takesText_14 : decode cX9_takesText 14 = .ok (.iconst 0, 1) := by decide +kernel
theorem dX9_takesText_15 : decode cX9_takesText 15 = .ok (.istore_n 2, 1) := by decide +kernel
theorem dX9_takesText_16 : decode cX9_takesText 16 = .ok (.iload_n 2, 1) := by decide +kernel
theorem dX9_takesText_17 : decode cX9_takesText 17 = .ok (.aload_n 0, 1) := by decide +kernel
theorem dX9_takesText_18 : decode cX9_takesText 18 = .ok (.getfield 70, 3) := by decide +kernel
theorem dX9_takesText_21 : decode cX9_takesText 21 = .ok (.if_icmp .ge 29, 3) := by decide +kernel
theorem dX9_takesText_24 : decode cX9_takesText 24 = .ok (.aload_n 0, 1) := by decide +kernel
theorem dX9_takesText_25 : decode cX9_takesText 25 = .ok (.getfield 22, 3) := by decide +kernel
theorem dX9_takesText_28 : decode cX9_takesText 28 = .ok (.iload_n 2, 1) := by decide +kernel
theorem dX9_takesText_29 : decode cX9_takesText 29 = .ok (.aload_n 0, 1) := by decide +kernel
theorem dX9_takesText_30 : decode cX9_takesText 30 = .ok (.getfield 13, 3) := by decide +kernel
theorem dX9_takesText_33 : decode cX9_takesText 33 = .ok (.sipush 251, 3) := by decide +kernel
theorem dX9_takesText_36 : decode cX9_takesText 36 = .ok (.iload_n 1, 1) := by decide +kernel
theorem dX9_takesText_37 : decode cX9_takesText 37 = .ok (.imul, 1) := by decide +kernel
theorem dX9_takesText_38 : decode cX9_takesText 38 = .ok (.iconst 1, 1) := by decide +kernel
theorem dX9_takesText_39 : decode cX9_takesText 39 = .ok (.iadd, 1) := by decide +kernel
theorem dX9_takesText_40 : decode cX9_takesText 40 = .ok (.iload_n 2, 1) := by decide +kernel
theorem dX9_takesText_41 : decode cX9_takesText 41 = .ok (.iadd, 1) := by decide +kernel
theorem dX9_takesText_42 : decode cX9_takesText 42 = .ok (.iaload, 1) := by decide +kernel
theorem dX9_takesText_43 : decode cX9_takesText 43 = .ok (.iastore, 1) := by decide +kernel
theorem dX9_takesText_44 : decode cX9_takesText 44 = .ok (.iinc 2 1, 3) := by decide +kernel
theorem dX9_takesText_47 : decode cX9_takesText 47 = .ok (.goto (-31), 3) := by decide +kernel
theorem dX9_takesText_50 : decode cX9_takesText 50 = .ok (.return_, 1) := by decide +kernel
theorem dX9_isLine_0 : decode cX9_isLine 0 = .ok (.iload_n 1, 1) := by decide +kernel
theorem dX9_isLine_1 : decode cX9_isLine 1 = .ok (.i2l, 1) := by decide +kernel
theorem dX9_isLine_2 : decode cX9_isLine 2 = .ok (.lconst 0, 1) := by decide +kernel
theorem dX9_isLine_3 : decode cX9_isLine 3 = .ok (.aload_n 0, 1) := by decide +kernel
theorem dX9_isLine_4 : decode cX9_isLine 4 = .ok (.getfield 13, 3) := by decide +kernel
theorem dX9_isLine_7 : decode cX9_isLine 7 = .ok (.sipush 5020, 3) := by decide +kernel
theorem dX9_isLine_10 : decode cX9_isLine 10 = .ok (.iaload, 1) := by decide +kernel
theorem dX9_isLine_11 : decode cX9_isLine 11 = .ok (.iconst 1, 1) := by decide +kernel
theorem dX9_isLine_12 : decode cX9_isLine 12 = .ok (.isub, 1) := by decide +kernel
theorem dX9_isLine_13 : decode cX9_isLine 13 = .ok (.i2l, 1) := by decide +kernel
theorem dX9_isLine_14 : decode cX9_isLine 14 = .ok (.invokestatic 56, 3) := by decide +kernel
theorem dX9_isLine_17 : decode cX9_isLine 17 = .ok (.ireturn, 1) := by decide +kernel
theorem dX9_line_0 : decode cX9_line 0 = .ok (.aload_n 0, 1) := by decide +kernel
theorem dX9_line_1 : decode cX9_line 1 = .ok (.aload_n 0, 1) := by decide +kernel
theorem dX9_line_2 : decode cX9_line 2 = .ok (.getfield 63, 3) := by decide +kernel
theorem dX9_line_5 : decode cX9_line 5 = .ok (.putfield 70, 3) := by decide +kernel
theorem dX9_line_8 : decode cX9_line 8 = .ok (.iconst 0, 1) := by decide +kernel
theorem dX9_line_9 : decode cX9_line 9 = .ok (.istore_n 1, 1) := by decide +kernel
theorem dX9_line_10 : decode cX9_line 10 = .ok (.iload_n 1, 1) := by decide +kernel
theorem dX9_line_11 : decode cX9_line 11 = .ok (.aload_n 0, 1) := by decide +kernel
theorem dX9_line_12 : decode cX9_line 12 = .ok (.getfield 70, 3) := by decide +kernel
theorem dX9_line_15 : decode cX9_line 15 = .ok (.if_icmp .ge 21, 3) := by decide +kernel
theorem dX9_line_18 : decode cX9_line 18 = .ok (.aload_n 0, 1) := by decide +kernel
theorem dX9_line_19 : decode cX9_line 19 = .ok (.getfield 22, 3) := by decide +kernel
theorem dX9_line_22 : decode cX9_line 22 = .ok (.iload_n 1, 1) := by decide +kernel
theorem dX9_line_23 : decode cX9_line 23 = .ok (.aload_n 0, 1) := by decide +kernel
theorem dX9_line_24 : decode cX9_line 24 = .ok (.getfield 19, 3) := by decide +kernel
theorem dX9_line_27 : decode cX9_line 27 = .ok (.iload_n 1, 1) := by decide +kernel
theorem dX9_line_28 : decode cX9_line 28 = .ok (.iaload, 1) := by decide +kernel
theorem dX9_line_29 : decode cX9_line 29 = .ok (.iastore, 1) := by decide +kernel
theorem dX9_line_30 : decode cX9_line 30 = .ok (.iinc 1 1, 3) := by decide +kernel
theorem dX9_line_33 : decode cX9_line 33 = .ok (.goto (-23), 3) := by decide +kernel
theorem dX9_line_36 : decode cX9_line 36 = .ok (.aload_n 0, 1) := by decide +kernel
theorem dX9_line_37 : decode cX9_line 37 = .ok (.iconst 0, 1) := by decide +kernel
theorem dX9_line_38 : decode cX9_line 38 = .ok (.putfield 63, 3) := by decide +kernel
theorem dX9_line_41 : decode cX9_line 41 = .ok (.aload_n 0, 1) := by decide +kernel
theorem dX9_line_42 : decode cX9_line 42 = .ok (.invokevirtual 121, 3) := by decide +kernel
theorem dX9_line_45 : decode cX9_line 45 = .ok (.aload_n 0, 1) := by decide +kernel
theorem dX9_line_46 : decode cX9_line 46 = .ok (.getfield 85, 3) := by decide +kernel
theorem dX9_line_49 : decode cX9_line 49 = .ok (.ifCond .eq 14, 3) := by decide +kernel
theorem dX9_line_52 : decode cX9_line 52 = .ok (.aload_n 0, 1) := by decide +kernel
theorem dX9_line_53 : decode cX9_line 53 = .ok (.getfield 67, 3) := by decide +kernel
theorem dX9_line_56 : decode cX9_line 56 = .ok (.aload_n 0, 1) := by decide +kernel
theorem dX9_line_57 : decode cX9_line 57 = .ok (.getfield 70, 3) := by decide +kernel
theorem dX9_line_60 : decode cX9_line 60 = .ok (.if_icmp .ge 19, 3) := by decide +kernel
theorem dX9_line_63 : decode cX9_line 63 = .ok (.aload_n 0, 1) := by decide +kernel
theorem dX9_line_64 : decode cX9_line 64 = .ok (.bipush (-92), 2) := by decide +kernel
theorem dX9_line_66 : decode cX9_line 66 = .ok (.invokevirtual 60, 3) := by decide +kernel
theorem dX9_line_69 : decode cX9_line 69 = .ok (.pop, 1) := by decide +kernel
theorem dX9_line_70 : decode cX9_line 70 = .ok (.sipush (-600), 3) := by decide +kernel
theorem dX9_line_73 : decode cX9_line 73 = .ok (.aload_n 0, 1) := by decide +kernel
theorem dX9_line_74 : decode cX9_line 74 = .ok (.getfield 67, 3) := by decide +kernel
theorem dX9_line_77 : decode cX9_line 77 = .ok (.isub, 1) := by decide +kernel
theorem dX9_line_78 : decode cX9_line 78 = .ok (.ireturn, 1) := by decide +kernel
theorem dX9_line_79 : decode cX9_line 79 = .ok (.aload_n 0, 1) := by decide +kernel
theorem dX9_line_80 : decode cX9_line 80 = .ok (.getfield 13, 3) := by decide +kernel
theorem dX9_line_83 : decode cX9_line 83 = .ok (.sipush 5020, 3) := by decide +kernel
theorem dX9_line_86 : decode cX9_line 86 = .ok (.iaload, 1) := by decide +kernel
theorem dX9_line_87 : decode cX9_line 87 = .ok (.bipush 20, 2) := by decide +kernel
theorem dX9_line_89 : decode cX9_line 89 = .ok (.if_icmp .ne 10, 3) := by decide +kernel
theorem dX9_line_92 : decode cX9_line 92 = .ok (.aload_n 0, 1) := by decide +kernel
theorem dX9_line_93 : decode cX9_line 93 = .ok (.bipush (-96), 2) := by decide +kernel
theorem dX9_line_95 : decode cX9_line 95 = .ok (.invokevirtual 60, 3) := by decide +kernel
theorem dX9_line_98 : decode cX9_line 98 = .ok (.ireturn, 1) := by decide +kernel
theorem dX9_line_99 : decode cX9_line 99 = .ok (.sipush 251, 3) := by decide +kernel
theorem dX9_line_102 : decode cX9_line 102 = .ok (.aload_n 0, 1) := by decide +kernel
theorem dX9_line_103 : decode cX9_line 103 = .ok (.getfield 13, 3) := by decide +kernel
theorem dX9_line_106 : decode cX9_line 106 = .ok (.sipush 5020, 3) := by decide +kernel
theorem dX9_line_109 : decode cX9_line 109 = .ok (.iaload, 1) := by decide +kernel
theorem dX9_line_110 : decode cX9_line 110 = .ok (.imul, 1) := by decide +kernel
theorem dX9_line_111 : decode cX9_line 111 = .ok (.istore_n 1, 1) := by decide +kernel
theorem dX9_line_112 : decode cX9_line 112 = .ok (.aload_n 0, 1) := by decide +kernel
theorem dX9_line_113 : decode cX9_line 113 = .ok (.getfield 13, 3) := by decide +kernel
theorem dX9_line_116 : decode cX9_line 116 = .ok (.iload_n 1, 1) := by decide +kernel
theorem dX9_line_117 : decode cX9_line 117 = .ok (.aload_n 0, 1) := by decide +kernel
theorem dX9_line_118 : decode cX9_line 118 = .ok (.getfield 70, 3) := by decide +kernel
theorem dX9_line_121 : decode cX9_line 121 = .ok (.iastore, 1) := by decide +kernel
theorem dX9_line_122 : decode cX9_line 122 = .ok (.iconst 0, 1) := by decide +kernel
theorem dX9_line_123 : decode cX9_line 123 = .ok (.istore_n 2, 1) := by decide +kernel
theorem dX9_line_124 : decode cX9_line 124 = .ok (.iload_n 2, 1) := by decide +kernel
theorem dX9_line_125 : decode cX9_line 125 = .ok (.aload_n 0, 1) := by decide +kernel
theorem dX9_line_126 : decode cX9_line 126 = .ok (.getfield 70, 3) := by decide +kernel
theorem dX9_line_129 : decode cX9_line 129 = .ok (.if_icmp .ge 25, 3) := by decide +kernel
theorem dX9_line_132 : decode cX9_line 132 = .ok (.aload_n 0, 1) := by decide +kernel
theorem dX9_line_133 : decode cX9_line 133 = .ok (.getfield 13, 3) := by decide +kernel
theorem dX9_line_136 : decode cX9_line 136 = .ok (.iload_n 1, 1) := by decide +kernel
theorem dX9_line_137 : decode cX9_line 137 = .ok (.iconst 1, 1) := by decide +kernel
theorem dX9_line_138 : decode cX9_line 138 = .ok (.iadd, 1) := by decide +kernel
theorem dX9_line_139 : decode cX9_line 139 = .ok (.iload_n 2, 1) := by decide +kernel
theorem dX9_line_140 : decode cX9_line 140 = .ok (.iadd, 1) := by decide +kernel
theorem dX9_line_141 : decode cX9_line 141 = .ok (.aload_n 0, 1) := by decide +kernel
theorem dX9_line_142 : decode cX9_line 142 = .ok (.getfield 22, 3) := by decide +kernel
theorem dX9_line_145 : decode cX9_line 145 = .ok (.iload_n 2, 1) := by decide +kernel
theorem dX9_line_146 : decode cX9_line 146 = .ok (.iaload, 1) := by decide +kernel
theorem dX9_line_147 : decode cX9_line 147 = .ok (.iastore, 1) := by decide +kernel
theorem dX9_line_148 : decode cX9_line 148 = .ok (.iinc 2 1, 3) := by decide +kernel
theorem dX9_line_151 : decode cX9_line 151 = .ok (.goto (-27), 3) := by decide +kernel
theorem dX9_line_154 : decode cX9_line 154 = .ok (.aload_n 0, 1) := by decide +kernel
theorem dX9_line_155 : decode cX9_line 155 = .ok (.getfield 13, 3) := by decide +kernel
theorem dX9_line_158 : decode cX9_line 158 = .ok (.sipush 5020, 3) := by decide +kernel
theorem dX9_line_161 : decode cX9_line 161 = .ok (.dup2, 1) := by decide +kernel
theorem dX9_line_162 : decode cX9_line 162 = .ok (.iaload, 1) := by decide +kernel
theorem dX9_line_163 : decode cX9_line 163 = .ok (.iconst 1, 1) := by decide +kernel
theorem dX9_line_164 : decode cX9_line 164 = .ok (.iadd, 1) := by decide +kernel
theorem dX9_line_165 : decode cX9_line 165 = .ok (.iastore, 1) := by decide +kernel
theorem dX9_line_166 : decode cX9_line 166 = .ok (.aload_n 0, 1) := by decide +kernel
theorem dX9_line_167 : decode cX9_line 167 = .ok (.getfield 13, 3) := by decide +kernel
theorem dX9_line_170 : decode cX9_line 170 = .ok (.sipush 5020, 3) := by decide +kernel
theorem dX9_line_173 : decode cX9_line 173 = .ok (.iaload, 1) := by decide +kernel
theorem dX9_line_174 : decode cX9_line 174 = .ok (.iconst 1, 1) := by decide +kernel
theorem dX9_line_175 : decode cX9_line 175 = .ok (.isub, 1) := by decide +kernel
theorem dX9_line_176 : decode cX9_line 176 = .ok (.ireturn, 1) := by decide +kernel
theorem dX9_drop_0 : decode cX9_drop 0 = .ok (.aload_n 0, 1) := by decide +kernel
theorem dX9_drop_1 : decode cX9_drop 1 = .ok (.getfield 13, 3) := by decide +kernel
theorem dX9_drop_4 : decode cX9_drop 4 = .ok (.sipush 5020, 3) := by decide +kernel
theorem dX9_drop_7 : decode cX9_drop 7 = .ok (.iaload, 1) := by decide +kernel
theorem dX9_drop_8 : decode cX9_drop 8 = .ok (.ifCond .ne 10, 3) := by decide +kernel
theorem dX9_drop_11 : decode cX9_drop 11 = .ok (.aload_n 0, 1) := by decide +kernel
theorem dX9_drop_12 : decode cX9_drop 12 = .ok (.bipush (-95), 2) := by decide +kernel
theorem dX9_drop_14 : decode cX9_drop 14 = .ok (.invokevirtual 60, 3) := by decide +kernel
theorem dX9_drop_17 : decode cX9_drop 17 = .ok (.ireturn, 1) := by decide +kernel
theorem dX9_drop_18 : decode cX9_drop 18 = .ok (.aload_n 0, 1) := by decide +kernel
theorem dX9_drop_19 : decode cX9_drop 19 = .ok (.getfield 13, 3) := by decide +kernel
theorem dX9_drop_22 : decode cX9_drop 22 = .ok (.sipush 5020, 3) := by decide +kernel
theorem dX9_drop_25 : decode cX9_drop 25 = .ok (.dup2, 1) := by decide +kernel
theorem dX9_drop_26 : decode cX9_drop 26 = .ok (.iaload, 1) := by decide +kernel
theorem dX9_drop_27 : decode cX9_drop 27 = .ok (.iconst 1, 1) := by decide +kernel
theorem dX9_drop_28 : decode cX9_drop 28 = .ok (.isub, 1) := by decide +kernel
theorem dX9_drop_29 : decode cX9_drop 29 = .ok (.iastore, 1) := by decide +kernel
theorem dX9_drop_30 : decode cX9_drop 30 = .ok (.aload_n 0, 1) := by decide +kernel
theorem dX9_drop_31 : decode cX9_drop 31 = .ok (.getfield 13, 3) := by decide +kernel
theorem dX9_drop_34 : decode cX9_drop 34 = .ok (.sipush 5020, 3) := by decide +kernel
theorem dX9_drop_37 : decode cX9_drop 37 = .ok (.iaload, 1) := by decide +kernel
theorem dX9_drop_38 : decode cX9_drop 38 = .ok (.ireturn, 1) := by decide +kernel
theorem dX9_lineOf_0 : decode cX9_lineOf 0 = .ok (.aload_n 0, 1) := by decide +kernel
theorem dX9_lineOf_1 : decode cX9_lineOf 1 = .ok (.iload_n 1, 1) := by decide +kernel
theorem dX9_lineOf_2 : decode cX9_lineOf 2 = .ok (.invokevirtual 124, 3) := by decide +kernel
theorem dX9_lineOf_5 : decode cX9_lineOf 5 = .ok (.ifCond .eq 15, 3) := by decide +kernel
theorem dX9_lineOf_8 : decode cX9_lineOf 8 = .ok (.iload_n 2, 1) := by decide +kernel
theorem dX9_lineOf_9 : decode cX9_lineOf 9 = .ok (.i2l, 1) := by decide +kernel
theorem dX9_lineOf_10 : decode cX9_lineOf 10 = .ok (.lconst 0, 1) := by decide +kernel
theorem dX9_lineOf_11 : decode cX9_lineOf 11 = .ok (.ldc2_w 127, 3) := by decide +kernel
theorem dX9_lineOf_14 : decode cX9_lineOf 14 = .ok (.invokestatic 56, 3) := by decide +kernel
theorem dX9_lineOf_17 : decode cX9_lineOf 17 = .ok (.ifCond .ne 10, 3) := by decide +kernel
theorem dX9_lineOf_20 : decode cX9_lineOf 20 = .ok (.aload_n 0, 1) := by decide +kernel
theorem dX9_lineOf_21 : decode cX9_lineOf 21 = .ok (.bipush (-92), 2) := by decide +kernel
theorem dX9_lineOf_23 : decode cX9_lineOf 23 = .ok (.invokevirtual 60, 3) := by decide +kernel
theorem dX9_lineOf_26 : decode cX9_lineOf 26 = .ok (.ireturn, 1) := by decide +kernel
theorem dX9_lineOf_27 : decode cX9_lineOf 27 = .ok (.aload_n 0, 1) := by decide +kernel
theorem dX9_lineOf_28 : decode cX9_lineOf 28 = .ok (.iload_n 1, 1) := by decide +kernel
theorem dX9_lineOf_29 : decode cX9_lineOf 29 = .ok (.invokevirtual 129, 3) := by decide +kernel
theorem dX9_lineOf_32 : decode cX9_lineOf 32 = .ok (.aload_n 0, 1) := by decide +kernel
theorem dX9_lineOf_33 : decode cX9_lineOf 33 = .ok (.invokevirtual 121, 3) := by decide +kernel
theorem dX9_lineOf_36 : decode cX9_lineOf 36 = .ok (.iload_n 2, 1) := by decide +kernel
theorem dX9_lineOf_37 : decode cX9_lineOf 37 = .ok (.ifCond .ne 10, 3) := by decide +kernel
theorem dX9_lineOf_40 : decode cX9_lineOf 40 = .ok (.aload_n 0, 1) := by decide +kernel
theorem dX9_lineOf_41 : decode cX9_lineOf 41 = .ok (.getfield 97, 3) := by decide +kernel
theorem dX9_lineOf_44 : decode cX9_lineOf 44 = .ok (.goto 39, 3) := by decide +kernel
theorem dX9_lineOf_47 : decode cX9_lineOf 47 = .ok (.iload_n 2, 1) := by decide +kernel
theorem dX9_lineOf_48 : decode cX9_lineOf 48 = .ok (.iconst 1, 1) := by decide +kernel
theorem dX9_lineOf_49 : decode cX9_lineOf 49 = .ok (.if_icmp .ne 10, 3) := by decide +kernel
theorem dX9_lineOf_52 : decode cX9_lineOf 52 = .ok (.aload_n 0, 1) := by decide +kernel
theorem dX9_lineOf_53 : decode cX9_lineOf 53 = .ok (.getfield 100, 3) := by decide +kernel
theorem dX9_lineOf_56 : decode cX9_lineOf 56 = .ok (.goto 27, 3) := by decide +kernel
theorem dX9_lineOf_59 : decode cX9_lineOf 59 = .ok (.iload_n 2, 1) := by decide +kernel
theorem dX9_lineOf_60 : decode cX9_lineOf 60 = .ok (.iconst 2, 1) := by decide +kernel
theorem dX9_lineOf_61 : decode cX9_lineOf 61 = .ok (.if_icmp .ne 10, 3) := by decide +kernel
theorem dX9_lineOf_64 : decode cX9_lineOf 64 = .ok (.aload_n 0, 1) := by decide +kernel
theorem dX9_lineOf_65 : decode cX9_lineOf 65 = .ok (.getfield 70, 3) := by decide +kernel
theorem dX9_lineOf_68 : decode cX9_lineOf 68 = .ok (.goto 15, 3) := by decide +kernel
theorem dX9_lineOf_71 : decode cX9_lineOf 71 = .ok (.aload_n 0, 1) := by decide +kernel
theorem dX9_lineOf_72 : decode cX9_lineOf 72 = .ok (.getfield 108, 3) := by decide +kernel
theorem dX9_lineOf_75 : decode cX9_lineOf 75 = .ok (.ifCond .eq 7, 3) := by decide +kernel
theorem dX9_lineOf_78 : decode cX9_lineOf 78 = .ok (.iconst 1, 1) := by decide +kernel
theorem dX9_lineOf_79 : decode cX9_lineOf 79 = .ok (.goto 4, 3) := by decide +kernel
theorem dX9_lineOf_82 : decode cX9_lineOf 82 = .ok (.iconst 0, 1) := by decide +kernel
theorem dX9_lineOf_83 : decode cX9_lineOf 83 = .ok (.ireturn, 1) := by decide +kernel
theorem dX9_text_0 : decode cX9_text 0 = .ok (.aload_n 0, 1) := by decide +kernel
theorem dX9_text_1 : decode cX9_text 1 = .ok (.iload_n 1, 1) := by decide +kernel
theorem dX9_text_2 : decode cX9_text 2 = .ok (.invokevirtual 124, 3) := by decide +kernel
theorem dX9_text_5 : decode cX9_text 5 = .ok (.ifCond .ne 10, 3) := by decide +kernel
theorem dX9_text_8 : decode cX9_text 8 = .ok (.aload_n 0, 1) := by decide +kernel
theorem dX9_text_9 : decode cX9_text 9 = .ok (.bipush (-92), 2) := by decide +kernel
theorem dX9_text_11 : decode cX9_text 11 = .ok (.invokevirtual 60, 3) := by decide +kernel
theorem dX9_text_14 : decode cX9_text 14 = .ok (.ireturn, 1) := by decide +kernel
theorem dX9_text_15 : decode cX9_text 15 = .ok (.iload_n 2, 1) := by decide +kernel
theorem dX9_text_16 : decode cX9_text 16 = .ok (.i2l, 1) := by decide +kernel
theorem dX9_text_17 : decode cX9_text 17 = .ok (.lconst 0, 1) := by decide +kernel
theorem dX9_text_18 : decode cX9_text 18 = .ok (.aload_n 0, 1) := by decide +kernel
theorem dX9_text_19 : decode cX9_text 19 = .ok (.getfield 13, 3) := by decide +kernel
theorem dX9_text_22 : decode cX9_text 22 = .ok (.sipush 251, 3) := by decide +kernel
theorem dX9_text_25 : decode cX9_text 25 = .ok (.iload_n 1, 1) := by decide +kernel
theorem dX9_text_26 : decode cX9_text 26 = .ok (.imul, 1) := by decide +kernel
theorem dX9_text_27 : decode cX9_text 27 = .ok (.iaload, 1) := by decide +kernel
theorem dX9_text_28 : decode cX9_text 28 = .ok (.iconst 1, 1) := by decide +kernel
theorem dX9_text_29 : decode cX9_text 29 = .ok (.isub, 1) := by decide +kernel
theorem dX9_text_30 : decode cX9_text 30 = .ok (.i2l, 1) := by decide +kernel
theorem dX9_text_31 : decode cX9_text 31 = .ok (.invokestatic 56, 3) := by decide +kernel
theorem dX9_text_34 : decode cX9_text 34 = .ok (.ifCond .eq 20, 3) := by decide +kernel
theorem dX9_text_37 : decode cX9_text 37 = .ok (.aload_n 0, 1) := by decide +kernel
theorem dX9_text_38 : decode cX9_text 38 = .ok (.getfield 13, 3) := by decide +kernel
theorem dX9_text_41 : decode cX9_text 41 = .ok (.sipush 251, 3) := by decide +kernel
theorem dX9_text_44 : decode cX9_text 44 = .ok (.iload_n 1, 1) := by decide +kernel
theorem dX9_text_45 : decode cX9_text 45 = .ok (.imul, 1) := by decide +kernel
theorem dX9_text_46 : decode cX9_text 46 = .ok (.iconst 1, 1) := by decide +kernel
theorem dX9_text_47 : decode cX9_text 47 = .ok (.iadd, 1) := by decide +kernel
theorem dX9_text_48 : decode cX9_text 48 = .ok (.iload_n 2, 1) := by decide +kernel
theorem dX9_text_49 : decode cX9_text 49 = .ok (.iadd, 1) := by decide +kernel
theorem dX9_text_50 : decode cX9_text 50 = .ok (.iaload, 1) := by decide +kernel
theorem dX9_text_51 : decode cX9_text 51 = .ok (.goto 4, 3) := by decide +kernel
theorem dX9_text_54 : decode cX9_text 54 = .ok (.iconst (-1), 1) := by decide +kernel
theorem dX9_text_55 : decode cX9_text 55 = .ok (.ireturn, 1) := by decide +kernel
theorem dX9_hits_0 : decode cX9_hits 0 = .ok (.aload_n 0, 1) := by decide +kernel
theorem dX9_hits_1 : decode cX9_hits 1 = .ok (.iload_n 1, 1) := by decide +kernel
theorem dX9_hits_2 : decode cX9_hits 2 = .ok (.putfield 132, 3) := by decide +kernel
theorem dX9_hits_5 : decode cX9_hits 5 = .ok (.aload_n 0, 1) := by decide +kernel
theorem dX9_hits_6 : decode cX9_hits 6 = .ok (.iload_n 2, 1) := by decide +kernel
theorem dX9_hits_7 : decode cX9_hits 7 = .ok (.putfield 135, 3) := by decide +kernel
theorem dX9_hits_10 : decode cX9_hits 10 = .ok (.aload_n 0, 1) := by decide +kernel
theorem dX9_hits_11 : decode cX9_hits 11 = .ok (.iload_n 3, 1) := by decide +kernel
theorem dX9_hits_12 : decode cX9_hits 12 = .ok (.putfield 138, 3) := by decide +kernel
theorem dX9_hits_15 : decode cX9_hits 15 = .ok (.return_, 1) := by decide +kernel
theorem dX9_end_0 : decode cX9_end 0 = .ok (.iconst 0, 1) := by decide +kernel
theorem dX9_end_1 : decode cX9_end 1 = .ok (.istore_n 2, 1) := by decide +kernel
theorem dX9_end_2 : decode cX9_end 2 = .ok (.iload_n 1, 1) := by decide +kernel
theorem dX9_end_3 : decode cX9_end 3 = .ok (.istore_n 3, 1) := by decide +kernel
theorem dX9_end_4 : decode cX9_end 4 = .ok (.iload_n 3, 1) := by decide +kernel
theorem dX9_end_5 : decode cX9_end 5 = .ok (.aload_n 0, 1) := by decide +kernel
theorem dX9_end_6 : decode cX9_end 6 = .ok (.getfield 70, 3) := by decide +kernel
theorem dX9_end_9 : decode cX9_end 9 = .ok (.if_icmp .ge 91, 3) := by decide +kernel
theorem dX9_end_12 : decode cX9_end 12 = .ok (.iload_n 2, 1) := by decide +kernel
theorem dX9_end_13 : decode cX9_end 13 = .ok (.ifCond .gt 25, 3) := by decide +kernel
theorem dX9_end_16 : decode cX9_end 16 = .ok (.aload_n 0, 1) := by decide +kernel
theorem dX9_end_17 : decode cX9_end 17 = .ok (.getfield 22, 3) := by decide +kernel
theorem dX9_end_20 : decode cX9_end 20 = .ok (.iload_n 3, 1) := by decide +kernel
theorem dX9_end_21 : decode cX9_end 21 = .ok (.iaload, 1) := by decide +kernel
theorem dX9_end_22 : decode cX9_end 22 = .ok (.bipush 41, 2) := by decide +kernel
theorem dX9_end_24 : decode cX9_end 24 = .ok (.if_icmp .eq 76, 3) := by decide +kernel
theorem dX9_end_27 : decode cX9_end 27 = .ok (.aload_n 0, 1) := by decide +kernel
theorem dX9_end_28 : decode cX9_end 28 = .ok (.getfield 22, 3) := by decide +kernel
theorem dX9_end_31 : decode cX9_end 31 = .ok (.iload_n 3, 1) := by decide +kernel
theorem dX9_end_32 : decode cX9_end 32 = .ok (.iaload, 1) := by decide +kernel
theorem dX9_end_33 : decode cX9_end 33 = .ok (.bipush 62, 2) := by decide +kernel
theorem dX9_end_35 : decode cX9_end 35 = .ok (.if_icmp .eq 65, 3) := by decide +kernel
theorem dX9_end_38 : decode cX9_end 38 = .ok (.iload_n 2, 1) := by decide +kernel
theorem dX9_end_39 : decode cX9_end 39 = .ok (.aload_n 0, 1) := by decide +kernel
theorem dX9_end_40 : decode cX9_end 40 = .ok (.getfield 22, 3) := by decide +kernel
theorem dX9_end_43 : decode cX9_end 43 = .ok (.iload_n 3, 1) := by decide +kernel
theorem dX9_end_44 : decode cX9_end 44 = .ok (.iaload, 1) := by decide +kernel
theorem dX9_end_45 : decode cX9_end 45 = .ok (.bipush 40, 2) := by decide +kernel
theorem dX9_end_47 : decode cX9_end 47 = .ok (.if_icmp .eq 14, 3) := by decide +kernel
theorem dX9_end_50 : decode cX9_end 50 = .ok (.aload_n 0, 1) := by decide +kernel
theorem dX9_end_51 : decode cX9_end 51 = .ok (.getfield 22, 3) := by decide +kernel
theorem dX9_end_54 : decode cX9_end 54 = .ok (.iload_n 3, 1) := by decide +kernel
theorem dX9_end_55 : decode cX9_end 55 = .ok (.iaload, 1) := by decide +kernel
theorem dX9_end_56 : decode cX9_end 56 = .ok (.bipush 60, 2) := by decide +kernel
theorem dX9_end_58 : decode cX9_end 58 = .ok (.if_icmp .ne 7, 3) := by decide +kernel
theorem dX9_end_61 : decode cX9_end 61 = .ok (.iconst 1, 1) := by decide +kernel
theorem dX9_end_62 : decode cX9_end 62 = .ok (.goto 30, 3) := by decide +kernel
theorem dX9_end_65 : decode cX9_end 65 = .ok (.aload_n 0, 1) := by decide +kernel
theorem dX9_end_66 : decode cX9_end 66 = .ok (.getfield 22, 3) := by decide +kernel
theorem dX9_end_69 : decode cX9_end 69 = .ok (.iload_n 3, 1) := by decide +kernel
theorem dX9_end_70 : decode cX9_end 70 = .ok (.iaload, 1) := by decide +kernel
theorem dX9_end_71 : decode cX9_end 71 = .ok (.bipush 41, 2) := by decide +kernel
theorem dX9_end_73 : decode cX9_end 73 = .ok (.if_icmp .eq 14, 3) := by decide +kernel
theorem dX9_end_76 : decode cX9_end 76 = .ok (.aload_n 0, 1) := by decide +kernel
theorem dX9_end_77 : decode cX9_end 77 = .ok (.getfield 22, 3) := by decide +kernel
theorem dX9_end_80 : decode cX9_end 80 = .ok (.iload_n 3, 1) := by decide +kernel
theorem dX9_end_81 : decode cX9_end 81 = .ok (.iaload, 1) := by decide +kernel
theorem dX9_end_82 : decode cX9_end 82 = .ok (.bipush 62, 2) := by decide +kernel
theorem dX9_end_84 : decode cX9_end 84 = .ok (.if_icmp .ne 7, 3) := by decide +kernel
theorem dX9_end_87 : decode cX9_end 87 = .ok (.iconst (-1), 1) := by decide +kernel
theorem dX9_end_88 : decode cX9_end 88 = .ok (.goto 4, 3) := by decide +kernel
theorem dX9_end_91 : decode cX9_end 91 = .ok (.iconst 0, 1) := by decide +kernel
theorem dX9_end_92 : decode cX9_end 92 = .ok (.iadd, 1) := by decide +kernel
theorem dX9_end_93 : decode cX9_end 93 = .ok (.istore_n 2, 1) := by decide +kernel
theorem dX9_end_94 : decode cX9_end 94 = .ok (.iinc 3 1, 3) := by decide +kernel
theorem dX9_end_97 : decode cX9_end 97 = .ok (.goto (-93), 3) := by decide +kernel
theorem dX9_end_100 : decode cX9_end 100 = .ok (.iload_n 3, 1) := by decide +kernel
theorem dX9_end_101 : decode cX9_end 101 = .ok (.ireturn, 1) := by decide +kernel
theorem dX9_stitches_0 : decode cX9_stitches 0 = .ok (.iconst 0, 1) := by decide +kernel
theorem dX9_stitches_1 : decode cX9_stitches 1 = .ok (.istore 5, 2) := by decide +kernel
theorem dX9_stitches_3 : decode cX9_stitches 3 = .ok (.iload 5, 2) := by decide +kernel
theorem dX9_stitches_5 : decode cX9_stitches 5 = .ok (.iload_n 2, 1) := by decide +kernel
theorem dX9_stitches_6 : decode cX9_stitches 6 = .ok (.if_icmp .ge 130, 3) := by decide +kernel
theorem dX9_stitches_9 : decode cX9_stitches 9 = .ok (.aload_n 0, 1) := by decide +kernel
theorem dX9_stitches_10 : decode cX9_stitches 10 = .ok (.getfield 132, 3) := by decide +kernel
theorem dX9_stitches_13 : decode cX9_stitches 13 = .ok (.ifCond .ne 123, 3) := by decide +kernel
theorem dX9_stitches_16 : decode cX9_stitches 16 = .ok (.iload_n 1, 1) := by decide +kernel
theorem dX9_stitches_17 : decode cX9_stitches 17 = .ok (.invokestatic 141, 3) := by decide +kernel
theorem dX9_stitches_20 : decode cX9_stitches 20 = .ok (.aload_n 0, 1) := by decide +kernel
theorem dX9_stitches_21 : decode cX9_stitches 21 = .ok (.getfield 144, 3) := by decide +kernel
theorem dX9_stitches_24 : decode cX9_stitches 24 = .ok (.if_icmp .le 14, 3) := by decide +kernel
theorem dX9_stitches_27 : decode cX9_stitches 27 = .ok (.aload_n 0, 1) := by decide +kernel
theorem dX9_stitches_28 : decode cX9_stitches 28 = .ok (.iconst 1, 1) := by decide +kernel
theorem dX9_stitches_29 : decode cX9_stitches 29 = .ok (.iload_n 3, 1) := by decide +kernel
theorem dX9_stitches_30 : decode cX9_stitches 30 = .ok (.iload 4, 2) := by decide +kernel
theorem dX9_stitches_32 : decode cX9_stitches 32 = .ok (.invokevirtual 147, 3) := by decide +kernel
theorem dX9_stitches_35 : decode cX9_stitches 35 = .ok (.goto 95, 3) := by decide +kernel
theorem dX9_stitches_38 : decode cX9_stitches 38 = .ok (.aload_n 0, 1) := by decide +kernel
theorem dX9_stitches_39 : decode cX9_stitches 39 = .ok (.getfield 151, 3) := by decide +kernel
theorem dX9_stitches_42 : decode cX9_stitches 42 = .ok (.iload_n 1, 1) := by decide +kernel
theorem dX9_stitches_43 : decode cX9_stitches 43 = .ok (.invokestatic 154, 3) := by decide +kernel
theorem dX9_stitches_46 : decode cX9_stitches 46 = .ok (.iadd, 1) := by decide +kernel
theorem dX9_stitches_47 : decode cX9_stitches 47 = .ok (.bipush 60, 2) := by decide +kernel
theorem dX9_stitches_49 : decode cX9_stitches 49 = .ok (.if_icmp .le 14, 3) := by decide +kernel
theorem dX9_stitches_52 : decode cX9_stitches 52 = .ok (.aload_n 0, 1) := by decide +kernel
theorem dX9_stitches_53 : decode cX9_stitches 53 = .ok (.iconst 2, 1) := by decide +kernel
theorem dX9_stitches_54 : decode cX9_stitches 54 = .ok (.iload_n 3, 1) := by decide +kernel
theorem dX9_stitches_55 : decode cX9_stitches 55 = .ok (.iload 4, 2) := by decide +kernel
theorem dX9_stitches_57 : decode cX9_stitches 57 = .ok (.invokevirtual 147, 3) := by decide +kernel
theorem dX9_stitches_60 : decode cX9_stitches 60 = .ok (.goto 70, 3) := by decide +kernel
theorem dX9_stitches_63 : decode cX9_stitches 63 = .ok (.aload_n 0, 1) := by decide +kernel
theorem dX9_stitches_64 : decode cX9_stitches 64 = .ok (.getfield 157, 3) := by decide +kernel
theorem dX9_stitches_67 : decode cX9_stitches 67 = .ok (.sipush 200, 3) := by decide +kernel
theorem dX9_stitches_70 : decode cX9_stitches 70 = .ok (.if_icmp .ne 14, 3) := by decide +kernel
theorem dX9_stitches_73 : decode cX9_stitches 73 = .ok (.aload_n 0, 1) := by decide +kernel
theorem dX9_stitches_74 : decode cX9_stitches 74 = .ok (.iconst 3, 1) := by decide +kernel
theorem dX9_stitches_75 : decode cX9_stitches 75 = .ok (.iload_n 3, 1) := by decide +kernel
theorem dX9_stitches_76 : decode cX9_stitches 76 = .ok (.iload 4, 2) := by decide +kernel
theorem dX9_stitches_78 : decode cX9_stitches 78 = .ok (.invokevirtual 147, 3) := by decide +kernel
theorem dX9_stitches_81 : decode cX9_stitches 81 = .ok (.goto 49, 3) := by decide +kernel
theorem dX9_stitches_84 : decode cX9_stitches 84 = .ok (.aload_n 0, 1) := by decide +kernel
theorem dX9_stitches_85 : decode cX9_stitches 85 = .ok (.dup, 1) := by decide +kernel
theorem dX9_stitches_86 : decode cX9_stitches 86 = .ok (.getfield 144, 3) := by decide +kernel
theorem dX9_stitches_89 : decode cX9_stitches 89 = .ok (.iload_n 1, 1) := by decide +kernel
theorem dX9_stitches_90 : decode cX9_stitches 90 = .ok (.invokestatic 141, 3) := by decide +kernel
theorem dX9_stitches_93 : decode cX9_stitches 93 = .ok (.isub, 1) := by decide +kernel
theorem dX9_stitches_94 : decode cX9_stitches 94 = .ok (.putfield 144, 3) := by decide +kernel
theorem dX9_stitches_97 : decode cX9_stitches 97 = .ok (.aload_n 0, 1) := by decide +kernel
theorem dX9_stitches_98 : decode cX9_stitches 98 = .ok (.dup, 1) := by decide +kernel
theorem dX9_stitches_99 : decode cX9_stitches 99 = .ok (.getfield 151, 3) := by decide +kernel
theorem dX9_stitches_102 : decode cX9_stitches 102 = .ok (.iload_n 1, 1) := by decide +kernel
theorem dX9_stitches_103 : decode cX9_stitches 103 = .ok (.invokestatic 154, 3) := by decide +kernel
theorem dX9_stitches_106 : decode cX9_stitches 106 = .ok (.iadd, 1) := by decide +kernel
theorem dX9_stitches_107 : decode cX9_stitches 107 = .ok (.putfield 151, 3) := by decide +kernel
theorem dX9_stitches_110 : decode cX9_stitches 110 = .ok (.aload_n 0, 1) := by decide +kernel
theorem dX9_stitches_111 : decode cX9_stitches 111 = .ok (.getfield 25, 3) := by decide +kernel
theorem dX9_stitches_114 : decode cX9_stitches 114 = .ok (.aload_n 0, 1) := by decide +kernel
theorem dX9_stitches_115 : decode cX9_stitches 115 = .ok (.getfield 157, 3) := by decide +kernel
theorem dX9_stitches_118 : decode cX9_stitches 118 = .ok (.iload_n 1, 1) := by decide +kernel
theorem dX9_stitches_119 : decode cX9_stitches 119 = .ok (.iastore, 1) := by decide +kernel
theorem dX9_stitches_120 : decode cX9_stitches 120 = .ok (.aload_n 0, 1) := by decide +kernel
theorem dX9_stitches_121 : decode cX9_stitches 121 = .ok (.dup, 1) := by decide +kernel
theorem dX9_stitches_122 : decode cX9_stitches 122 = .ok (.getfield 157, 3) := by decide +kernel
theorem dX9_stitches_125 : decode cX9_stitches 125 = .ok (.iconst 1, 1) := by decide +kernel
theorem dX9_stitches_126 : decode cX9_stitches 126 = .ok (.iadd, 1) := by decide +kernel
theorem dX9_stitches_127 : decode cX9_stitches 127 = .ok (.putfield 157, 3) := by decide +kernel
theorem dX9_stitches_130 : decode cX9_stitches 130 = .ok (.iinc 5 1, 3) := by decide +kernel
theorem dX9_stitches_133 : decode cX9_stitches 133 = .ok (.goto (-130), 3) := by decide +kernel
theorem dX9_stitches_136 : decode cX9_stitches 136 = .ok (.return_, 1) := by decide +kernel
theorem dX9_once_0 : decode cX9_once 0 = .ok (.aload_n 0, 1) := by decide +kernel
theorem dX9_once_1 : decode cX9_once 1 = .ok (.getfield 28, 3) := by decide +kernel
theorem dX9_once_4 : decode cX9_once 4 = .ok (.iload 4, 2) := by decide +kernel
theorem dX9_once_6 : decode cX9_once 6 = .ok (.iload_n 2, 1) := by decide +kernel
theorem dX9_once_7 : decode cX9_once 7 = .ok (.iastore, 1) := by decide +kernel
theorem dX9_once_8 : decode cX9_once 8 = .ok (.aload_n 0, 1) := by decide +kernel
theorem dX9_once_9 : decode cX9_once 9 = .ok (.getfield 31, 3) := by decide +kernel
theorem dX9_once_12 : decode cX9_once 12 = .ok (.iload 4, 2) := by decide +kernel
theorem dX9_once_14 : decode cX9_once 14 = .ok (.iload_n 3, 1) := by decide +kernel
theorem dX9_once_15 : decode cX9_once 15 = .ok (.iastore, 1) := by decide +kernel
theorem dX9_once_16 : decode cX9_once 16 = .ok (.aload_n 0, 1) := by decide +kernel
theorem dX9_once_17 : decode cX9_once 17 = .ok (.iload_n 1, 1) := by decide +kernel
theorem dX9_once_18 : decode cX9_once 18 = .ok (.putfield 67, 3) := by decide +kernel
theorem dX9_once_21 : decode cX9_once 21 = .ok (.aload_n 0, 1) := by decide +kernel
theorem dX9_once_22 : decode cX9_once 22 = .ok (.iload 4, 2) := by decide +kernel
theorem dX9_once_24 : decode cX9_once 24 = .ok (.iconst 1, 1) := by decide +kernel
theorem dX9_once_25 : decode cX9_once 25 = .ok (.iadd, 1) := by decide +kernel
theorem dX9_once_26 : decode cX9_once 26 = .ok (.invokevirtual 160, 3) := by decide +kernel
theorem dX9_once_29 : decode cX9_once 29 = .ok (.return_, 1) := by decide +kernel
theorem dX9_works_0 : decode cX9_works 0 = .ok (.iconst 1, 1) := by decide +kernel
theorem dX9_works_1 : decode cX9_works 1 = .ok (.istore_n 2, 1) := by decide +kernel
theorem dX9_works_2 : decode cX9_works 2 = .ok (.iload_n 2, 1) := by decide +kernel
theorem dX9_works_3 : decode cX9_works 3 = .ok (.ifCond .eq 250, 3) := by decide +kernel
theorem dX9_works_6 : decode cX9_works 6 = .ok (.aload_n 0, 1) := by decide +kernel
theorem dX9_works_7 : decode cX9_works 7 = .ok (.getfield 132, 3) := by decide +kernel
theorem dX9_works_10 : decode cX9_works 10 = .ok (.ifCond .ne 243, 3) := by decide +kernel
theorem dX9_works_13 : decode cX9_works 13 = .ok (.aload_n 0, 1) := by decide +kernel
theorem dX9_works_14 : decode cX9_works 14 = .ok (.getfield 67, 3) := by decide +kernel
theorem dX9_works_17 : decode cX9_works 17 = .ok (.istore_n 3, 1) := by decide +kernel
theorem dX9_works_18 : decode cX9_works 18 = .ok (.aload_n 0, 1) := by decide +kernel
theorem dX9_works_19 : decode cX9_works 19 = .ok (.invokevirtual 77, 3) := by decide +kernel
theorem dX9_works_22 : decode cX9_works 22 = .ok (.istore 4, 2) := by decide +kernel
theorem dX9_works_24 : decode cX9_works 24 = .ok (.iload 4, 2) := by decide +kernel
theorem dX9_works_26 : decode cX9_works 26 = .ok (.bipush 40, 2) := by decide +kernel
theorem dX9_works_28 : decode cX9_works 28 = .ok (.if_icmp .eq 10, 3) := by decide +kernel
theorem dX9_works_31 : decode cX9_works 31 = .ok (.iload 4, 2) := by decide +kernel
theorem dX9_works_33 : decode cX9_works 33 = .ok (.bipush 60, 2) := by decide +kernel
theorem dX9_works_35 : decode cX9_works 35 = .ok (.if_icmp .ne 136, 3) := by decide +kernel
theorem dX9_works_38 : decode cX9_works 38 = .ok (.aload_n 0, 1) := by decide +kernel
theorem dX9_works_39 : decode cX9_works 39 = .ok (.getfield 67, 3) := by decide +kernel
theorem dX9_works_42 : decode cX9_works 42 = .ok (.iconst 1, 1) := by decide +kernel
theorem dX9_works_43 : decode cX9_works 43 = .ok (.iadd, 1) := by decide +kernel
theorem dX9_works_44 : decode cX9_works 44 = .ok (.istore 5, 2) := by decide +kernel
theorem dX9_works_46 : decode cX9_works 46 = .ok (.aload_n 0, 1) := by decide +kernel
theorem dX9_works_47 : decode cX9_works 47 = .ok (.iload 5, 2) := by decide +kernel
theorem dX9_works_49 : decode cX9_works 49 = .ok (.invokevirtual 163, 3) := by decide +kernel
theorem dX9_works_52 : decode cX9_works 52 = .ok (.istore 6, 2) := by decide +kernel
theorem dX9_works_54 : decode cX9_works 54 = .ok (.aload_n 0, 1) := by decide +kernel
theorem dX9_works_55 : decode cX9_works 55 = .ok (.iload 6, 2) := by decide +kernel
theorem dX9_works_57 : decode cX9_works 57 = .ok (.iconst 1, 1) := by decide +kernel
theorem dX9_works_58 : decode cX9_works 58 = .ok (.iadd, 1) := by decide +kernel
theorem dX9_works_59 : decode cX9_works 59 = .ok (.putfield 67, 3) := by decide +kernel
theorem dX9_works_62 : decode cX9_works 62 = .ok (.aload_n 0, 1) := by decide +kernel
theorem dX9_works_63 : decode cX9_works 63 = .ok (.iconst 0, 1) := by decide +kernel
theorem dX9_works_64 : decode cX9_works 64 = .ok (.bipush 60, 2) := by decide +kernel
theorem dX9_works_66 : decode cX9_works 66 = .ok (.invokevirtual 115, 3) := by decide +kernel
theorem dX9_works_69 : decode cX9_works 69 = .ok (.istore 7, 2) := by decide +kernel
theorem dX9_works_71 : decode cX9_works 71 = .ok (.aload_n 0, 1) := by decide +kernel
theorem dX9_works_72 : decode cX9_works 72 = .ok (.getfield 67, 3) := by decide +kernel
theorem dX9_works_75 : decode cX9_works 75 = .ok (.istore 8, 2) := by decide +kernel
theorem dX9_works_77 : decode cX9_works 77 = .ok (.iload 4, 2) := by decide +kernel
theorem dX9_works_79 : decode cX9_works 79 = .ok (.bipush 40, 2) := by decide +kernel
theorem dX9_works_81 : decode cX9_works 81 = .ok (.if_icmp .ne 57, 3) := by decide +kernel
theorem dX9_works_84 : decode cX9_works 84 = .ok (.iconst (-1), 1) := by decide +kernel
theorem dX9_works_85 : decode cX9_works 85 = .ok (.istore 9, 2) := by decide +kernel
theorem dX9_works_87 : decode cX9_works 87 = .ok (.iconst 1, 1) := by decide +kernel
theorem dX9_works_88 : decode cX9_works 88 = .ok (.istore 10, 2) := by decide +kernel
theorem dX9_works_90 : decode cX9_works 90 = .ok (.iload 10, 2) := by decide +kernel
theorem dX9_works_92 : decode cX9_works 92 = .ok (.iload 7, 2) := by decide +kernel
theorem dX9_works_94 : decode cX9_works 94 = .ok (.if_icmp .gt 41, 3) := by decide +kernel
theorem dX9_works_97 : decode cX9_works 97 = .ok (.aload_n 0, 1) := by decide +kernel
theorem dX9_works_98 : decode cX9_works 98 = .ok (.getfield 132, 3) := by decide +kernel
theorem dX9_works_101 : decode cX9_works 101 = .ok (.ifCond .ne 34, 3) := by decide +kernel
theorem dX9_works_104 : decode cX9_works 104 = .ok (.aload_n 0, 1) := by decide +kernel
theorem dX9_works_105 : decode cX9_works 105 = .ok (.getfield 157, 3) := by decide +kernel
theorem dX9_works_108 : decode cX9_works 108 = .ok (.iload 9, 2) := by decide +kernel
theorem dX9_works_110 : decode cX9_works 110 = .ok (.if_icmp .eq 25, 3) := by decide +kernel
theorem dX9_works_113 : decode cX9_works 113 = .ok (.aload_n 0, 1) := by decide +kernel
theorem dX9_works_114 : decode cX9_works 114 = .ok (.getfield 157, 3) := by decide +kernel
theorem dX9_works_117 : decode cX9_works 117 = .ok (.istore 9, 2) := by decide +kernel
theorem dX9_works_119 : decode cX9_works 119 = .ok (.aload_n 0, 1) := by decide +kernel
theorem dX9_works_120 : decode cX9_works 120 = .ok (.iload 5, 2) := by decide +kernel
theorem dX9_works_122 : decode cX9_works 122 = .ok (.iload_n 3, 1) := by decide +kernel
theorem dX9_works_123 : decode cX9_works 123 = .ok (.iload 10, 2) := by decide +kernel
theorem dX9_works_125 : decode cX9_works 125 = .ok (.iload_n 1, 1) := by decide +kernel
theorem dX9_works_126 : decode cX9_works 126 = .ok (.invokevirtual 166, 3) := by decide +kernel
theorem dX9_works_129 : decode cX9_works 129 = .ok (.iinc 10 1, 3) := by decide +kernel
theorem dX9_works_132 : decode cX9_works 132 = .ok (.goto (-42), 3) := by decide +kernel
theorem dX9_works_135 : decode cX9_works 135 = .ok (.goto 13, 3) := by decide +kernel
theorem dX9_works_138 : decode cX9_works 138 = .ok (.aload_n 0, 1) := by decide +kernel
theorem dX9_works_139 : decode cX9_works 139 = .ok (.iload 5, 2) := by decide +kernel
theorem dX9_works_141 : decode cX9_works 141 = .ok (.iload_n 3, 1) := by decide +kernel
theorem dX9_works_142 : decode cX9_works 142 = .ok (.iload 7, 2) := by decide +kernel
theorem dX9_works_144 : decode cX9_works 144 = .ok (.iload_n 1, 1) := by decide +kernel
theorem dX9_works_145 : decode cX9_works 145 = .ok (.invokevirtual 170, 3) := by decide +kernel
theorem dX9_works_148 : decode cX9_works 148 = .ok (.aload_n 0, 1) := by decide +kernel
theorem dX9_works_149 : decode cX9_works 149 = .ok (.aload_n 0, 1) := by decide +kernel
theorem dX9_works_150 : decode cX9_works 150 = .ok (.getfield 132, 3) := by decide +kernel
theorem dX9_works_153 : decode cX9_works 153 = .ok (.ifCond .ne 8, 3) := by decide +kernel
theorem dX9_works_156 : decode cX9_works 156 = .ok (.iload 8, 2) := by decide +kernel
theorem dX9_works_158 : decode cX9_works 158 = .ok (.goto 7, 3) := by decide +kernel
theorem dX9_works_161 : decode cX9_works 161 = .ok (.aload_n 0, 1) := by decide +kernel
theorem dX9_works_162 : decode cX9_works 162 = .ok (.getfield 67, 3) := by decide +kernel
theorem dX9_works_165 : decode cX9_works 165 = .ok (.putfield 67, 3) := by decide +kernel
theorem dX9_works_168 : decode cX9_works 168 = .ok (.goto 42, 3) := by decide +kernel
theorem dX9_works_171 : decode cX9_works 171 = .ok (.aload_n 0, 1) := by decide +kernel
theorem dX9_works_172 : decode cX9_works 172 = .ok (.invokevirtual 118, 3) := by decide +kernel
theorem dX9_works_175 : decode cX9_works 175 = .ok (.istore 5, 2) := by decide +kernel
theorem dX9_works_177 : decode cX9_works 177 = .ok (.aload_n 0, 1) := by decide +kernel
theorem dX9_works_178 : decode cX9_works 178 = .ok (.invokevirtual 77, 3) := by decide +kernel
theorem dX9_works_181 : decode cX9_works 181 = .ok (.invokestatic 81, 3) := by decide +kernel
theorem dX9_works_184 : decode cX9_works 184 = .ok (.ifCond .eq 13, 3) := by decide +kernel
theorem dX9_works_187 : decode cX9_works 187 = .ok (.aload_n 0, 1) := by decide +kernel
theorem dX9_works_188 : decode cX9_works 188 = .ok (.iconst 1, 1) := by decide +kernel
theorem dX9_works_189 : decode cX9_works 189 = .ok (.bipush 60, 2) := by decide +kernel
theorem dX9_works_191 : decode cX9_works 191 = .ok (.invokevirtual 115, 3) := by decide +kernel
theorem dX9_works_194 : decode cX9_works 194 = .ok (.goto 4, 3) := by decide +kernel
theorem dX9_works_197 : decode cX9_works 197 = .ok (.iconst 1, 1) := by decide +kernel
theorem dX9_works_198 : decode cX9_works 198 = .ok (.istore 6, 2) := by decide +kernel
theorem dX9_works_200 : decode cX9_works 200 = .ok (.aload_n 0, 1) := by decide +kernel
theorem dX9_works_201 : decode cX9_works 201 = .ok (.iload 5, 2) := by decide +kernel
theorem dX9_works_203 : decode cX9_works 203 = .ok (.iload 6, 2) := by decide +kernel
theorem dX9_works_205 : decode cX9_works 205 = .ok (.iload_n 3, 1) := by decide +kernel
theorem dX9_works_206 : decode cX9_works 206 = .ok (.iload_n 1, 1) := by decide +kernel
theorem dX9_works_207 : decode cX9_works 207 = .ok (.invokevirtual 173, 3) := by decide +kernel
theorem dX9_works_210 : decode cX9_works 210 = .ok (.aload_n 0, 1) := by decide +kernel
theorem dX9_works_211 : decode cX9_works 211 = .ok (.getfield 132, 3) := by decide +kernel
theorem dX9_works_214 : decode cX9_works 214 = .ok (.ifCond .ne 16, 3) := by decide +kernel
theorem dX9_works_217 : decode cX9_works 217 = .ok (.aload_n 0, 1) := by decide +kernel
theorem dX9_works_218 : decode cX9_works 218 = .ok (.invokevirtual 77, 3) := by decide +kernel
theorem dX9_works_221 : decode cX9_works 221 = .ok (.bipush 44, 2) := by decide +kernel
theorem dX9_works_223 : decode cX9_works 223 = .ok (.if_icmp .ne 7, 3) := by decide +kernel
theorem dX9_works_226 : decode cX9_works 226 = .ok (.iconst 1, 1) := by decide +kernel
theorem dX9_works_227 : decode cX9_works 227 = .ok (.goto 4, 3) := by decide +kernel
theorem dX9_works_230 : decode cX9_works 230 = .ok (.iconst 0, 1) := by decide +kernel
theorem dX9_works_231 : decode cX9_works 231 = .ok (.istore_n 2, 1) := by decide +kernel
theorem dX9_works_232 : decode cX9_works 232 = .ok (.aload_n 0, 1) := by decide +kernel
theorem dX9_works_233 : decode cX9_works 233 = .ok (.dup, 1) := by decide +kernel
theorem dX9_works_234 : decode cX9_works 234 = .ok (.getfield 67, 3) := by decide +kernel
theorem dX9_works_237 : decode cX9_works 237 = .ok (.iload_n 2, 1) := by decide +kernel
theorem dX9_works_238 : decode cX9_works 238 = .ok (.ifCond .eq 7, 3) := by decide +kernel
theorem dX9_works_241 : decode cX9_works 241 = .ok (.iconst 1, 1) := by decide +kernel
theorem dX9_works_242 : decode cX9_works 242 = .ok (.goto 4, 3) := by decide +kernel
theorem dX9_works_245 : decode cX9_works 245 = .ok (.iconst 0, 1) := by decide +kernel
theorem dX9_works_246 : decode cX9_works 246 = .ok (.iadd, 1) := by decide +kernel
theorem dX9_works_247 : decode cX9_works 247 = .ok (.putfield 67, 3) := by decide +kernel
theorem dX9_works_250 : decode cX9_works 250 = .ok (.goto (-248), 3) := by decide +kernel
theorem dX9_works_253 : decode cX9_works 253 = .ok (.return_, 1) := by decide +kernel
theorem dX9_tillLeft_0 : decode cX9_tillLeft 0 = .ok (.iconst 1, 1) := by decide +kernel
theorem dX9_tillLeft_1 : decode cX9_tillLeft 1 = .ok (.istore 5, 2) := by decide +kernel
theorem dX9_tillLeft_3 : decode cX9_tillLeft 3 = .ok (.aload_n 0, 1) := by decide +kernel
theorem dX9_tillLeft_4 : decode cX9_tillLeft 4 = .ok (.getfield 132, 3) := by decide +kernel
theorem dX9_tillLeft_7 : decode cX9_tillLeft 7 = .ok (.ifCond .ne 57, 3) := by decide +kernel
theorem dX9_tillLeft_10 : decode cX9_tillLeft 10 = .ok (.aload_n 0, 1) := by decide +kernel
theorem dX9_tillLeft_11 : decode cX9_tillLeft 11 = .ok (.getfield 144, 3) := by decide +kernel
theorem dX9_tillLeft_14 : decode cX9_tillLeft 14 = .ok (.iload_n 3, 1) := by decide +kernel
theorem dX9_tillLeft_15 : decode cX9_tillLeft 15 = .ok (.if_icmp .le 49, 3) := by decide +kernel
theorem dX9_tillLeft_18 : decode cX9_tillLeft 18 = .ok (.aload_n 0, 1) := by decide +kernel
theorem dX9_tillLeft_19 : decode cX9_tillLeft 19 = .ok (.getfield 144, 3) := by decide +kernel
theorem dX9_tillLeft_22 : decode cX9_tillLeft 22 = .ok (.istore 6, 2) := by decide +kernel
theorem dX9_tillLeft_24 : decode cX9_tillLeft 24 = .ok (.aload_n 0, 1) := by decide +kernel
theorem dX9_tillLeft_25 : decode cX9_tillLeft 25 = .ok (.iload_n 1, 1) := by decide +kernel
theorem dX9_tillLeft_26 : decode cX9_tillLeft 26 = .ok (.iload_n 2, 1) := by decide +kernel
theorem dX9_tillLeft_27 : decode cX9_tillLeft 27 = .ok (.iload 5, 2) := by decide +kernel
theorem dX9_tillLeft_29 : decode cX9_tillLeft 29 = .ok (.iload 4, 2) := by decide +kernel
theorem dX9_tillLeft_31 : decode cX9_tillLeft 31 = .ok (.invokevirtual 166, 3) := by decide +kernel
theorem dX9_tillLeft_34 : decode cX9_tillLeft 34 = .ok (.aload_n 0, 1) := by decide +kernel
theorem dX9_tillLeft_35 : decode cX9_tillLeft 35 = .ok (.getfield 132, 3) := by decide +kernel
theorem dX9_tillLeft_38 : decode cX9_tillLeft 38 = .ok (.ifCond .ne 20, 3) := by decide +kernel
theorem dX9_tillLeft_41 : decode cX9_tillLeft 41 = .ok (.aload_n 0, 1) := by decide +kernel
theorem dX9_tillLeft_42 : decode cX9_tillLeft 42 = .ok (.getfield 144, 3) := by decide +kernel
theorem dX9_tillLeft_45 : decode cX9_tillLeft 45 = .ok (.iload 6, 2) := by decide +kernel
theorem dX9_tillLeft_47 : decode cX9_tillLeft 47 = .ok (.if_icmp .ne 11, 3) := by decide +kernel
theorem dX9_tillLeft_50 : decode cX9_tillLeft 50 = .ok (.aload_n 0, 1) := by decide +kernel
theorem dX9_tillLeft_51 : decode cX9_tillLeft 51 = .ok (.iconst 4, 1) := by decide +kernel
theorem dX9_tillLeft_52 : decode cX9_tillLeft 52 = .ok (.iload_n 2, 1) := by decide +kernel
theorem dX9_tillLeft_53 : decode cX9_tillLeft 53 = .ok (.iload 4, 2) := by decide +kernel
theorem dX9_tillLeft_55 : decode cX9_tillLeft 55 = .ok (.invokevirtual 147, 3) := by decide +kernel
theorem dX9_tillLeft_58 : decode cX9_tillLeft 58 = .ok (.iinc 5 1, 3) := by decide +kernel
theorem dX9_tillLeft_61 : decode cX9_tillLeft 61 = .ok (.goto (-58), 3) := by decide +kernel
theorem dX9_tillLeft_64 : decode cX9_tillLeft 64 = .ok (.aload_n 0, 1) := by decide +kernel
theorem dX9_tillLeft_65 : decode cX9_tillLeft 65 = .ok (.getfield 132, 3) := by decide +kernel
theorem dX9_tillLeft_68 : decode cX9_tillLeft 68 = .ok (.ifCond .ne 19, 3) := by decide +kernel
theorem dX9_tillLeft_71 : decode cX9_tillLeft 71 = .ok (.aload_n 0, 1) := by decide +kernel
theorem dX9_tillLeft_72 : decode cX9_tillLeft 72 = .ok (.getfield 144, 3) := by decide +kernel
theorem dX9_tillLeft_75 : decode cX9_tillLeft 75 = .ok (.iload_n 3, 1) := by decide +kernel
theorem dX9_tillLeft_76 : decode cX9_tillLeft 76 = .ok (.if_icmp .ge 11, 3) := by decide +kernel
theorem dX9_tillLeft_79 : decode cX9_tillLeft 79 = .ok (.aload_n 0, 1) := by decide +kernel
theorem dX9_tillLeft_80 : decode cX9_tillLeft 80 = .ok (.iconst 5, 1) := by decide +kernel
theorem dX9_tillLeft_81 : decode cX9_tillLeft 81 = .ok (.iload_n 2, 1) := by decide +kernel
theorem dX9_tillLeft_82 : decode cX9_tillLeft 82 = .ok (.iload 4, 2) := by decide +kernel
theorem dX9_tillLeft_84 : decode cX9_tillLeft 84 = .ok (.invokevirtual 147, 3) := by decide +kernel
theorem dX9_tillLeft_87 : decode cX9_tillLeft 87 = .ok (.return_, 1) := by decide +kernel
theorem dX9_tries_0 : decode cX9_tries 0 = .ok (.aload_n 0, 1) := by decide +kernel
theorem dX9_tries_1 : decode cX9_tries 1 = .ok (.iload_n 1, 1) := by decide +kernel
theorem dX9_tries_2 : decode cX9_tries 2 = .ok (.invokevirtual 129, 3) := by decide +kernel
theorem dX9_tries_5 : decode cX9_tries 5 = .ok (.aload_n 0, 1) := by decide +kernel
theorem dX9_tries_6 : decode cX9_tries 6 = .ok (.iconst 1, 1) := by decide +kernel
theorem dX9_tries_7 : decode cX9_tries 7 = .ok (.putfield 85, 3) := by decide +kernel
theorem dX9_tries_10 : decode cX9_tries 10 = .ok (.aload_n 0, 1) := by decide +kernel
theorem dX9_tries_11 : decode cX9_tries 11 = .ok (.iconst 0, 1) := by decide +kernel
theorem dX9_tries_12 : decode cX9_tries 12 = .ok (.putfield 67, 3) := by decide +kernel
theorem dX9_tries_15 : decode cX9_tries 15 = .ok (.aload_n 0, 1) := by decide +kernel
theorem dX9_tries_16 : decode cX9_tries 16 = .ok (.iload_n 2, 1) := by decide +kernel
theorem dX9_tries_17 : decode cX9_tries 17 = .ok (.putfield 144, 3) := by decide +kernel
theorem dX9_tries_20 : decode cX9_tries 20 = .ok (.aload_n 0, 1) := by decide +kernel
theorem dX9_tries_21 : decode cX9_tries 21 = .ok (.iconst 0, 1) := by decide +kernel
theorem dX9_tries_22 : decode cX9_tries 22 = .ok (.putfield 151, 3) := by decide +kernel
theorem dX9_tries_25 : decode cX9_tries 25 = .ok (.aload_n 0, 1) := by decide +kernel
theorem dX9_tries_26 : decode cX9_tries 26 = .ok (.iconst 0, 1) := by decide +kernel
theorem dX9_tries_27 : decode cX9_tries 27 = .ok (.putfield 157, 3) := by decide +kernel
theorem dX9_tries_30 : decode cX9_tries 30 = .ok (.aload_n 0, 1) := by decide +kernel
theorem dX9_tries_31 : decode cX9_tries 31 = .ok (.iconst 0, 1) := by decide +kernel
theorem dX9_tries_32 : decode cX9_tries 32 = .ok (.putfield 132, 3) := by decide +kernel
theorem dX9_tries_35 : decode cX9_tries 35 = .ok (.aload_n 0, 1) := by decide +kernel
theorem dX9_tries_36 : decode cX9_tries 36 = .ok (.iconst 0, 1) := by decide +kernel
theorem dX9_tries_37 : decode cX9_tries 37 = .ok (.putfield 138, 3) := by decide +kernel
theorem dX9_tries_40 : decode cX9_tries 40 = .ok (.aload_n 0, 1) := by decide +kernel
theorem dX9_tries_41 : decode cX9_tries 41 = .ok (.iconst 0, 1) := by decide +kernel
theorem dX9_tries_42 : decode cX9_tries 42 = .ok (.invokevirtual 160, 3) := by decide +kernel
theorem dX9_tries_45 : decode cX9_tries 45 = .ok (.aload_n 0, 1) := by decide +kernel
theorem dX9_tries_46 : decode cX9_tries 46 = .ok (.getfield 132, 3) := by decide +kernel
theorem dX9_tries_49 : decode cX9_tries 49 = .ok (.ifCond .ne 21, 3) := by decide +kernel
theorem dX9_tries_52 : decode cX9_tries 52 = .ok (.aload_n 0, 1) := by decide +kernel
theorem dX9_tries_53 : decode cX9_tries 53 = .ok (.getfield 144, 3) := by decide +kernel
theorem dX9_tries_56 : decode cX9_tries 56 = .ok (.ifCond .le 14, 3) := by decide +kernel
theorem dX9_tries_59 : decode cX9_tries 59 = .ok (.aload_n 0, 1) := by decide +kernel
theorem dX9_tries_60 : decode cX9_tries 60 = .ok (.bipush 6, 2) := by decide +kernel
theorem dX9_tries_62 : decode cX9_tries 62 = .ok (.aload_n 0, 1) := by decide +kernel
theorem dX9_tries_63 : decode cX9_tries 63 = .ok (.getfield 70, 3) := by decide +kernel
theorem dX9_tries_66 : decode cX9_tries 66 = .ok (.iconst 0, 1) := by decide +kernel
theorem dX9_tries_67 : decode cX9_tries 67 = .ok (.invokevirtual 147, 3) := by decide +kernel
theorem dX9_tries_70 : decode cX9_tries 70 = .ok (.return_, 1) := by decide +kernel
theorem dX9_triesNow_0 : decode cX9_triesNow 0 = .ok (.aload_n 0, 1) := by decide +kernel
theorem dX9_triesNow_1 : decode cX9_triesNow 1 = .ok (.getfield 13, 3) := by decide +kernel
theorem dX9_triesNow_4 : decode cX9_triesNow 4 = .ok (.sipush 5025, 3) := by decide +kernel
theorem dX9_triesNow_7 : decode cX9_triesNow 7 = .ok (.iaload, 1) := by decide +kernel
theorem dX9_triesNow_8 : decode cX9_triesNow 8 = .ok (.bipush 50, 2) := by decide +kernel
theorem dX9_triesNow_10 : decode cX9_triesNow 10 = .ok (.if_icmp .ne 31, 3) := by decide +kernel
theorem dX9_triesNow_13 : decode cX9_triesNow 13 = .ok (.aload_n 0, 1) := by decide +kernel
theorem dX9_triesNow_14 : decode cX9_triesNow 14 = .ok (.iconst 0, 1) := by decide +kernel
theorem dX9_triesNow_15 : decode cX9_triesNow 15 = .ok (.putfield 157, 3) := by decide +kernel
theorem dX9_triesNow_18 : decode cX9_triesNow 18 = .ok (.aload_n 0, 1) := by decide +kernel
theorem dX9_triesNow_19 : decode cX9_triesNow 19 = .ok (.aload_n 0, 1) := by decide +kernel
theorem dX9_triesNow_20 : decode cX9_triesNow 20 = .ok (.getfield 13, 3) := by decide +kernel
theorem dX9_triesNow_23 : decode cX9_triesNow 23 = .ok (.sipush 5023, 3) := by decide +kernel
theorem dX9_triesNow_26 : decode cX9_triesNow 26 = .ok (.iaload, 1) := by decide +kernel
theorem dX9_triesNow_27 : decode cX9_triesNow 27 = .ok (.putfield 144, 3) := by decide +kernel
theorem dX9_triesNow_30 : decode cX9_triesNow 30 = .ok (.aload_n 0, 1) := by decide +kernel
theorem dX9_triesNow_31 : decode cX9_triesNow 31 = .ok (.bipush 7, 2) := by decide +kernel
theorem dX9_triesNow_33 : decode cX9_triesNow 33 = .ok (.iconst 0, 1) := by decide +kernel
theorem dX9_triesNow_34 : decode cX9_triesNow 34 = .ok (.iconst 0, 1) := by decide +kernel
theorem dX9_triesNow_35 : decode cX9_triesNow 35 = .ok (.invokevirtual 147, 3) := by decide +kernel
theorem dX9_triesNow_38 : decode cX9_triesNow 38 = .ok (.goto 16, 3) := by decide +kernel
theorem dX9_triesNow_41 : decode cX9_triesNow 41 = .ok (.aload_n 0, 1) := by decide +kernel
theorem dX9_triesNow_42 : decode cX9_triesNow 42 = .ok (.iload_n 1, 1) := by decide +kernel
theorem dX9_triesNow_43 : decode cX9_triesNow 43 = .ok (.aload_n 0, 1) := by decide +kernel
theorem dX9_triesNow_44 : decode cX9_triesNow 44 = .ok (.getfield 13, 3) := by decide +kernel
theorem dX9_triesNow_47 : decode cX9_triesNow 47 = .ok (.sipush 5023, 3) := by decide +kernel
theorem dX9_triesNow_50 : decode cX9_triesNow 50 = .ok (.iaload, 1) := by decide +kernel
theorem dX9_triesNow_51 : decode cX9_triesNow 51 = .ok (.invokevirtual 176, 3) := by decide +kernel
theorem dX9_triesNow_54 : decode cX9_triesNow 54 = .ok (.return_, 1) := by decide +kernel
theorem dX9_done_0 : decode cX9_done 0 = .ok (.sipush 5026, 3) := by decide +kernel
theorem dX9_done_3 : decode cX9_done 3 = .ok (.sipush 204, 3) := by decide +kernel
theorem dX9_done_6 : decode cX9_done 6 = .ok (.aload_n 0, 1) := by decide +kernel
theorem dX9_done_7 : decode cX9_done 7 = .ok (.getfield 13, 3) := by decide +kernel
theorem dX9_done_10 : decode cX9_done 10 = .ok (.sipush 5025, 3) := by decide +kernel
theorem dX9_done_13 : decode cX9_done 13 = .ok (.iaload, 1) := by decide +kernel
theorem dX9_done_14 : decode cX9_done 14 = .ok (.imul, 1) := by decide +kernel
theorem dX9_done_15 : decode cX9_done 15 = .ok (.iadd, 1) := by decide +kernel
theorem dX9_done_16 : decode cX9_done 16 = .ok (.istore_n 2, 1) := by decide +kernel
theorem dX9_done_17 : decode cX9_done 17 = .ok (.aload_n 0, 1) := by decide +kernel
theorem dX9_done_18 : decode cX9_done 18 = .ok (.getfield 13, 3) := by decide +kernel
theorem dX9_done_21 : decode cX9_done 21 = .ok (.iload_n 2, 1) := by decide +kernel
theorem dX9_done_22 : decode cX9_done 22 = .ok (.aload_n 0, 1) := by decide +kernel
theorem dX9_done_23 : decode cX9_done 23 = .ok (.getfield 13, 3) := by decide +kernel
theorem dX9_done_26 : decode cX9_done 26 = .ok (.sipush 5022, 3) := by decide +kernel
theorem dX9_done_29 : decode cX9_done 29 = .ok (.iaload, 1) := by decide +kernel
theorem dX9_done_30 : decode cX9_done 30 = .ok (.iastore, 1) := by decide +kernel
theorem dX9_done_31 : decode cX9_done 31 = .ok (.aload_n 0, 1) := by decide +kernel
theorem dX9_done_32 : decode cX9_done 32 = .ok (.getfield 13, 3) := by decide +kernel
theorem dX9_done_35 : decode cX9_done 35 = .ok (.iload_n 2, 1) := by decide +kernel
theorem dX9_done_36 : decode cX9_done 36 = .ok (.iconst 1, 1) := by decide +kernel
theorem dX9_done_37 : decode cX9_done 37 = .ok (.iadd, 1) := by decide +kernel
theorem dX9_done_38 : decode cX9_done 38 = .ok (.iload_n 1, 1) := by decide +kernel
theorem dX9_done_39 : decode cX9_done 39 = .ok (.iastore, 1) := by decide +kernel
theorem dX9_done_40 : decode cX9_done 40 = .ok (.aload_n 0, 1) := by decide +kernel
theorem dX9_done_41 : decode cX9_done 41 = .ok (.getfield 13, 3) := by decide +kernel
theorem dX9_done_44 : decode cX9_done 44 = .ok (.iload_n 2, 1) := by decide +kernel
theorem dX9_done_45 : decode cX9_done 45 = .ok (.iconst 2, 1) := by decide +kernel
theorem dX9_done_46 : decode cX9_done 46 = .ok (.iadd, 1) := by decide +kernel
theorem dX9_done_47 : decode cX9_done 47 = .ok (.aload_n 0, 1) := by decide +kernel
theorem dX9_done_48 : decode cX9_done 48 = .ok (.getfield 157, 3) := by decide +kernel
theorem dX9_done_51 : decode cX9_done 51 = .ok (.iastore, 1) := by decide +kernel
theorem dX9_done_52 : decode cX9_done 52 = .ok (.aload_n 0, 1) := by decide +kernel
theorem dX9_done_53 : decode cX9_done 53 = .ok (.getfield 13, 3) := by decide +kernel
theorem dX9_done_56 : decode cX9_done 56 = .ok (.iload_n 2, 1) := by decide +kernel
theorem dX9_done_57 : decode cX9_done 57 = .ok (.iconst 3, 1) := by decide +kernel
theorem dX9_done_58 : decode cX9_done 58 = .ok (.iadd, 1) := by decide +kernel
theorem dX9_done_59 : decode cX9_done 59 = .ok (.aload_n 0, 1) := by decide +kernel
theorem dX9_done_60 : decode cX9_done 60 = .ok (.getfield 13, 3) := by decide +kernel
theorem dX9_done_63 : decode cX9_done 63 = .ok (.sipush 5023, 3) := by decide +kernel
theorem dX9_done_66 : decode cX9_done 66 = .ok (.iaload, 1) := by decide +kernel
theorem dX9_done_67 : decode cX9_done 67 = .ok (.iastore, 1) := by decide +kernel
theorem dX9_done_68 : decode cX9_done 68 = .ok (.iconst 0, 1) := by decide +kernel
theorem dX9_done_69 : decode cX9_done 69 = .ok (.istore_n 3, 1) := by decide +kernel
theorem dX9_done_70 : decode cX9_done 70 = .ok (.iload_n 3, 1) := by decide +kernel
theorem dX9_done_71 : decode cX9_done 71 = .ok (.aload_n 0, 1) := by decide +kernel
theorem dX9_done_72 : decode cX9_done 72 = .ok (.getfield 157, 3) := by decide +kernel
theorem dX9_done_75 : decode cX9_done 75 = .ok (.if_icmp .ge 25, 3) := by decide +kernel
theorem dX9_done_78 : decode cX9_done 78 = .ok (.aload_n 0, 1) := by decide +kernel
theorem dX9_done_79 : decode cX9_done 79 = .ok (.getfield 13, 3) := by decide +kernel
theorem dX9_done_82 : decode cX9_done 82 = .ok (.iload_n 2, 1) := by decide +kernel
theorem dX9_done_83 : decode cX9_done 83 = .ok (.iconst 4, 1) := by decide +kernel
theorem dX9_done_84 : decode cX9_done 84 = .ok (.iadd, 1) := by decide +kernel
theorem dX9_done_85 : decode cX9_done 85 = .ok (.iload_n 3, 1) := by decide +kernel
theorem dX9_done_86 : decode cX9_done 86 = .ok (.iadd, 1) := by decide +kernel
theorem dX9_done_87 : decode cX9_done 87 = .ok (.aload_n 0, 1) := by decide +kernel
theorem dX9_done_88 : decode cX9_done 88 = .ok (.getfield 25, 3) := by decide +kernel
theorem dX9_done_91 : decode cX9_done 91 = .ok (.iload_n 3, 1) := by decide +kernel
theorem dX9_done_92 : decode cX9_done 92 = .ok (.iaload, 1) := by decide +kernel
theorem dX9_done_93 : decode cX9_done 93 = .ok (.iastore, 1) := by decide +kernel
theorem dX9_done_94 : decode cX9_done 94 = .ok (.iinc 3 1, 3) := by decide +kernel
theorem dX9_done_97 : decode cX9_done 97 = .ok (.goto (-27), 3) := by decide +kernel
theorem dX9_done_100 : decode cX9_done 100 = .ok (.aload_n 0, 1) := by decide +kernel
theorem dX9_done_101 : decode cX9_done 101 = .ok (.getfield 13, 3) := by decide +kernel
theorem dX9_done_104 : decode cX9_done 104 = .ok (.sipush 5025, 3) := by decide +kernel
theorem dX9_done_107 : decode cX9_done 107 = .ok (.dup2, 1) := by decide +kernel
theorem dX9_done_108 : decode cX9_done 108 = .ok (.iaload, 1) := by decide +kernel
theorem dX9_done_109 : decode cX9_done 109 = .ok (.iconst 1, 1) := by decide +kernel
theorem dX9_done_110 : decode cX9_done 110 = .ok (.iadd, 1) := by decide +kernel
theorem dX9_done_111 : decode cX9_done 111 = .ok (.iastore, 1) := by decide +kernel
theorem dX9_done_112 : decode cX9_done 112 = .ok (.aload_n 0, 1) := by decide +kernel
theorem dX9_done_113 : decode cX9_done 113 = .ok (.getfield 13, 3) := by decide +kernel
theorem dX9_done_116 : decode cX9_done 116 = .ok (.sipush 5023, 3) := by decide +kernel
theorem dX9_done_119 : decode cX9_done 119 = .ok (.aload_n 0, 1) := by decide +kernel
theorem dX9_done_120 : decode cX9_done 120 = .ok (.getfield 151, 3) := by decide +kernel
theorem dX9_done_123 : decode cX9_done 123 = .ok (.iastore, 1) := by decide +kernel
theorem dX9_done_124 : decode cX9_done 124 = .ok (.aload_n 0, 1) := by decide +kernel
theorem dX9_done_125 : decode cX9_done 125 = .ok (.getfield 13, 3) := by decide +kernel
theorem dX9_done_128 : decode cX9_done 128 = .ok (.sipush 5022, 3) := by decide +kernel
theorem dX9_done_131 : decode cX9_done 131 = .ok (.aload_n 0, 1) := by decide +kernel
theorem dX9_done_132 : decode cX9_done 132 = .ok (.getfield 13, 3) := by decide +kernel
theorem dX9_done_135 : decode cX9_done 135 = .ok (.sipush 5021, 3) := by decide +kernel
theorem dX9_done_138 : decode cX9_done 138 = .ok (.iaload, 1) := by decide +kernel
theorem dX9_done_139 : decode cX9_done 139 = .ok (.ifCond .ne 16, 3) := by decide +kernel
theorem dX9_done_142 : decode cX9_done 142 = .ok (.iconst 1, 1) := by decide +kernel
theorem dX9_done_143 : decode cX9_done 143 = .ok (.aload_n 0, 1) := by decide +kernel
theorem dX9_done_144 : decode cX9_done 144 = .ok (.getfield 13, 3) := by decide +kernel
theorem dX9_done_147 : decode cX9_done 147 = .ok (.sipush 5022, 3) := by decide +kernel
theorem dX9_done_150 : decode cX9_done 150 = .ok (.iaload, 1) := by decide +kernel
theorem dX9_done_151 : decode cX9_done 151 = .ok (.isub, 1) := by decide +kernel
theorem dX9_done_152 : decode cX9_done 152 = .ok (.goto 11, 3) := by decide +kernel
theorem dX9_done_155 : decode cX9_done 155 = .ok (.aload_n 0, 1) := by decide +kernel
theorem dX9_done_156 : decode cX9_done 156 = .ok (.getfield 13, 3) := by decide +kernel
theorem dX9_done_159 : decode cX9_done 159 = .ok (.sipush 5022, 3) := by decide +kernel
theorem dX9_done_162 : decode cX9_done 162 = .ok (.iaload, 1) := by decide +kernel
theorem dX9_done_163 : decode cX9_done 163 = .ok (.iastore, 1) := by decide +kernel
theorem dX9_done_164 : decode cX9_done 164 = .ok (.return_, 1) := by decide +kernel
theorem dX9_adds_0 : decode cX9_adds 0 = .ok (.aload_n 0, 1) := by decide +kernel
theorem dX9_adds_1 : decode cX9_adds 1 = .ok (.getfield 34, 3) := by decide +kernel
theorem dX9_adds_4 : decode cX9_adds 4 = .ok (.iconst 3, 1) := by decide +kernel
theorem dX9_adds_5 : decode cX9_adds 5 = .ok (.aload_n 0, 1) := by decide +kernel
theorem dX9_adds_6 : decode cX9_adds 6 = .ok (.getfield 180, 3) := by decide +kernel
theorem dX9_adds_9 : decode cX9_adds 9 = .ok (.imul, 1) := by decide +kernel
theorem dX9_adds_10 : decode cX9_adds 10 = .ok (.iload_n 1, 1) := by decide +kernel
theorem dX9_adds_11 : decode cX9_adds 11 = .ok (.iastore, 1) := by decide +kernel
theorem dX9_adds_12 : decode cX9_adds 12 = .ok (.aload_n 0, 1) := by decide +kernel
theorem dX9_adds_13 : decode cX9_adds 13 = .ok (.getfield 34, 3) := by decide +kernel
theorem dX9_adds_16 : decode cX9_adds 16 = .ok (.iconst 3, 1) := by decide +kernel
theorem dX9_adds_17 : decode cX9_adds 17 = .ok (.aload_n 0, 1) := by decide +kernel
theorem dX9_adds_18 : decode cX9_adds 18 = .ok (.getfield 180, 3) := by decide +kernel
theorem dX9_adds_21 : decode cX9_adds 21 = .ok (.imul, 1) := by decide +kernel
theorem dX9_adds_22 : decode cX9_adds 22 = .ok (.iconst 1, 1) := by decide +kernel
theorem dX9_adds_23 : decode cX9_adds 23 = .ok (.iadd, 1) := by decide +kernel
theorem dX9_adds_24 : decode cX9_adds 24 = .ok (.iload_n 2, 1) := by decide +kernel
theorem dX9_adds_25 : decode cX9_adds 25 = .ok (.iastore, 1) := by decide +kernel
theorem dX9_adds_26 : decode cX9_adds 26 = .ok (.aload_n 0, 1) := by decide +kernel
theorem dX9_adds_27 : decode cX9_adds 27 = .ok (.getfield 34, 3) := by decide +kernel
theorem dX9_adds_30 : decode cX9_adds 30 = .ok (.iconst 3, 1) := by decide +kernel
theorem dX9_adds_31 : decode cX9_adds 31 = .ok (.aload_n 0, 1) := by decide +kernel
theorem dX9_adds_32 : decode cX9_adds 32 = .ok (.getfield 180, 3) := by decide +kernel
theorem dX9_adds_35 : decode cX9_adds 35 = .ok (.imul, 1) := by decide +kernel
theorem dX9_adds_36 : decode cX9_adds 36 = .ok (.iconst 2, 1) := by decide +kernel
theorem dX9_adds_37 : decode cX9_adds 37 = .ok (.iadd, 1) := by decide +kernel
theorem dX9_adds_38 : decode cX9_adds 38 = .ok (.iload_n 3, 1) := by decide +kernel
theorem dX9_adds_39 : decode cX9_adds 39 = .ok (.iastore, 1) := by decide +kernel
theorem dX9_adds_40 : decode cX9_adds 40 = .ok (.aload_n 0, 1) := by decide +kernel
theorem dX9_adds_41 : decode cX9_adds 41 = .ok (.dup, 1) := by decide +kernel
theorem dX9_adds_42 : decode cX9_adds 42 = .ok (.getfield 180, 3) := by decide +kernel
theorem dX9_adds_45 : decode cX9_adds 45 = .ok (.iconst 1, 1) := by decide +kernel
theorem dX9_adds_46 : decode cX9_adds 46 = .ok (.iadd, 1) := by decide +kernel
theorem dX9_adds_47 : decode cX9_adds 47 = .ok (.putfield 180, 3) := by decide +kernel
theorem dX9_adds_50 : decode cX9_adds 50 = .ok (.return_, 1) := by decide +kernel
theorem dX9_tellsWhy_0 : decode cX9_tellsWhy 0 = .ok (.aload_n 0, 1) := by decide +kernel
theorem dX9_tellsWhy_1 : decode cX9_tellsWhy 1 = .ok (.iconst 0, 1) := by decide +kernel
theorem dX9_tellsWhy_2 : decode cX9_tellsWhy 2 = .ok (.putfield 180, 3) := by decide +kernel
theorem dX9_tellsWhy_5 : decode cX9_tellsWhy 5 = .ok (.iload_n 2, 1) := by decide +kernel
theorem dX9_tellsWhy_6 : decode cX9_tellsWhy 6 = .ok (.ifCond .le 11, 3) := by decide +kernel
theorem dX9_tellsWhy_9 : decode cX9_tellsWhy 9 = .ok (.aload_n 0, 1) := by decide +kernel
theorem dX9_tellsWhy_10 : decode cX9_tellsWhy 10 = .ok (.bipush 12, 2) := by decide +kernel
theorem dX9_tellsWhy_12 : decode cX9_tellsWhy 12 = .ok (.iload_n 2, 1) := by decide +kernel
theorem dX9_tellsWhy_13 : decode cX9_tellsWhy 13 = .ok (.iload_n 1, 1) := by decide +kernel
theorem dX9_tellsWhy_14 : decode cX9_tellsWhy 14 = .ok (.invokevirtual 183, 3) := by decide +kernel
theorem dX9_tellsWhy_17 : decode cX9_tellsWhy 17 = .ok (.aload_n 0, 1) := by decide +kernel
theorem dX9_tellsWhy_18 : decode cX9_tellsWhy 18 = .ok (.bipush 11, 2) := by decide +kernel
theorem dX9_tellsWhy_20 : decode cX9_tellsWhy 20 = .ok (.iload_n 1, 1) := by decide +kernel
theorem dX9_tellsWhy_21 : decode cX9_tellsWhy 21 = .ok (.aload_n 0, 1) := by decide +kernel
theorem dX9_tellsWhy_22 : decode cX9_tellsWhy 22 = .ok (.getfield 157, 3) := by decide +kernel
theorem dX9_tellsWhy_25 : decode cX9_tellsWhy 25 = .ok (.invokevirtual 183, 3) := by decide +kernel
theorem dX9_tellsWhy_28 : decode cX9_tellsWhy 28 = .ok (.iconst 0, 1) := by decide +kernel
theorem dX9_tellsWhy_29 : decode cX9_tellsWhy 29 = .ok (.istore_n 3, 1) := by decide +kernel
theorem dX9_tellsWhy_30 : decode cX9_tellsWhy 30 = .ok (.iload_n 3, 1) := by decide +kernel
theorem dX9_tellsWhy_31 : decode cX9_tellsWhy 31 = .ok (.aload_n 0, 1) := by decide +kernel
theorem dX9_tellsWhy_32 : decode cX9_tellsWhy 32 = .ok (.getfield 138, 3) := by decide +kernel
theorem dX9_tellsWhy_35 : decode cX9_tellsWhy 35 = .ok (.if_icmp .ge 27, 3) := by decide +kernel
theorem dX9_tellsWhy_38 : decode cX9_tellsWhy 38 = .ok (.aload_n 0, 1) := by decide +kernel
theorem dX9_tellsWhy_39 : decode cX9_tellsWhy 39 = .ok (.bipush 10, 2) := by decide +kernel
theorem dX9_tellsWhy_41 : decode cX9_tellsWhy 41 = .ok (.aload_n 0, 1) := by decide +kernel
theorem dX9_tellsWhy_42 : decode cX9_tellsWhy 42 = .ok (.getfield 28, 3) := by decide +kernel
theorem dX9_tellsWhy_45 : decode cX9_tellsWhy 45 = .ok (.iload_n 3, 1) := by decide +kernel
theorem dX9_tellsWhy_46 : decode cX9_tellsWhy 46 = .ok (.iaload, 1) := by decide +kernel
theorem dX9_tellsWhy_47 : decode cX9_tellsWhy 47 = .ok (.aload_n 0, 1) := by decide +kernel
theorem dX9_tellsWhy_48 : decode cX9_tellsWhy 48 = .ok (.getfield 31, 3) := by decide +kernel
theorem dX9_tellsWhy_51 : decode cX9_tellsWhy 51 = .ok (.iload_n 3, 1) := by decide +kernel
theorem dX9_tellsWhy_52 : decode cX9_tellsWhy 52 = .ok (.iaload, 1) := by decide +kernel
theorem dX9_tellsWhy_53 : decode cX9_tellsWhy 53 = .ok (.invokevirtual 183, 3) := by decide +kernel
theorem dX9_tellsWhy_56 : decode cX9_tellsWhy 56 = .ok (.iinc 3 1, 3) := by decide +kernel
theorem dX9_tellsWhy_59 : decode cX9_tellsWhy 59 = .ok (.goto (-29), 3) := by decide +kernel
theorem dX9_tellsWhy_62 : decode cX9_tellsWhy 62 = .ok (.aload_n 0, 1) := by decide +kernel
theorem dX9_tellsWhy_63 : decode cX9_tellsWhy 63 = .ok (.aload_n 0, 1) := by decide +kernel
theorem dX9_tellsWhy_64 : decode cX9_tellsWhy 64 = .ok (.getfield 132, 3) := by decide +kernel
theorem dX9_tellsWhy_67 : decode cX9_tellsWhy 67 = .ok (.aload_n 0, 1) := by decide +kernel
theorem dX9_tellsWhy_68 : decode cX9_tellsWhy 68 = .ok (.getfield 135, 3) := by decide +kernel
theorem dX9_tellsWhy_71 : decode cX9_tellsWhy 71 = .ok (.aload_n 0, 1) := by decide +kernel
theorem dX9_tellsWhy_72 : decode cX9_tellsWhy 72 = .ok (.getfield 144, 3) := by decide +kernel
theorem dX9_tellsWhy_75 : decode cX9_tellsWhy 75 = .ok (.invokevirtual 183, 3) := by decide +kernel
theorem dX9_tellsWhy_78 : decode cX9_tellsWhy 78 = .ok (.return_, 1) := by decide +kernel
theorem dX9_work_0 : decode cX9_work 0 = .ok (.aload_n 0, 1) := by decide +kernel
theorem dX9_work_1 : decode cX9_work 1 = .ok (.iload_n 1, 1) := by decide +kernel
theorem dX9_work_2 : decode cX9_work 2 = .ok (.invokevirtual 124, 3) := by decide +kernel
theorem dX9_work_5 : decode cX9_work 5 = .ok (.ifCond .ne 10, 3) := by decide +kernel
theorem dX9_work_8 : decode cX9_work 8 = .ok (.aload_n 0, 1) := by decide +kernel
theorem dX9_work_9 : decode cX9_work 9 = .ok (.bipush (-92), 2) := by decide +kernel
theorem dX9_work_11 : decode cX9_work 11 = .ok (.invokevirtual 60, 3) := by decide +kernel
theorem dX9_work_14 : decode cX9_work 14 = .ok (.ireturn, 1) := by decide +kernel
theorem dX9_work_15 : decode cX9_work 15 = .ok (.aload_n 0, 1) := by decide +kernel
theorem dX9_work_16 : decode cX9_work 16 = .ok (.iconst 0, 1) := by decide +kernel
theorem dX9_work_17 : decode cX9_work 17 = .ok (.putfield 132, 3) := by decide +kernel
theorem dX9_work_20 : decode cX9_work 20 = .ok (.aload_n 0, 1) := by decide +kernel
theorem dX9_work_21 : decode cX9_work 21 = .ok (.iload_n 1, 1) := by decide +kernel
theorem dX9_work_22 : decode cX9_work 22 = .ok (.invokevirtual 186, 3) := by decide +kernel
theorem dX9_work_25 : decode cX9_work 25 = .ok (.aload_n 0, 1) := by decide +kernel
theorem dX9_work_26 : decode cX9_work 26 = .ok (.getfield 132, 3) := by decide +kernel
theorem dX9_work_29 : decode cX9_work 29 = .ok (.ifCond .eq 16, 3) := by decide +kernel
theorem dX9_work_32 : decode cX9_work 32 = .ok (.aload_n 0, 1) := by decide +kernel
theorem dX9_work_33 : decode cX9_work 33 = .ok (.iload_n 1, 1) := by decide +kernel
theorem dX9_work_34 : decode cX9_work 34 = .ok (.iconst 0, 1) := by decide +kernel
theorem dX9_work_35 : decode cX9_work 35 = .ok (.invokevirtual 189, 3) := by decide +kernel
theorem dX9_work_38 : decode cX9_work 38 = .ok (.aload_n 0, 1) := by decide +kernel
theorem dX9_work_39 : decode cX9_work 39 = .ok (.bipush (-95), 2) := by decide +kernel
theorem dX9_work_41 : decode cX9_work 41 = .ok (.invokevirtual 60, 3) := by decide +kernel
theorem dX9_work_44 : decode cX9_work 44 = .ok (.ireturn, 1) := by decide +kernel
theorem dX9_work_45 : decode cX9_work 45 = .ok (.aload_n 0, 1) := by decide +kernel
theorem dX9_work_46 : decode cX9_work 46 = .ok (.iload_n 1, 1) := by decide +kernel
theorem dX9_work_47 : decode cX9_work 47 = .ok (.invokevirtual 192, 3) := by decide +kernel
theorem dX9_work_50 : decode cX9_work 50 = .ok (.aload_n 0, 1) := by decide +kernel
theorem dX9_work_51 : decode cX9_work 51 = .ok (.getfield 13, 3) := by decide +kernel
theorem dX9_work_54 : decode cX9_work 54 = .ok (.sipush 5023, 3) := by decide +kernel
theorem dX9_work_57 : decode cX9_work 57 = .ok (.iaload, 1) := by decide +kernel
theorem dX9_work_58 : decode cX9_work 58 = .ok (.ireturn, 1) := by decide +kernel
theorem dX9_run_0 : decode cX9_run 0 = .ok (.aload_n 0, 1) := by decide +kernel
theorem dX9_run_1 : decode cX9_run 1 = .ok (.iload_n 1, 1) := by decide +kernel
theorem dX9_run_2 : decode cX9_run 2 = .ok (.invokevirtual 124, 3) := by decide +kernel
theorem dX9_run_5 : decode cX9_run 5 = .ok (.ifCond .eq 28, 3) := by decide +kernel
theorem dX9_run_8 : decode cX9_run 8 = .ok (.aload_n 0, 1) := by decide +kernel
theorem dX9_run_9 : decode cX9_run 9 = .ok (.iload_n 2, 1) := by decide +kernel
theorem dX9_run_10 : decode cX9_run 10 = .ok (.invokevirtual 124, 3) := by decide +kernel
theorem dX9_run_13 : decode cX9_run 13 = .ok (.ifCond .eq 20, 3) := by decide +kernel
theorem dX9_run_16 : decode cX9_run 16 = .ok (.iload_n 2, 1) := by decide +kernel
theorem dX9_run_17 : decode cX9_run 17 = .ok (.iload_n 1, 1) := by decide +kernel
theorem dX9_run_18 : decode cX9_run 18 = .ok (.if_icmp .lt 15, 3) := by decide +kernel
theorem dX9_run_21 : decode cX9_run 21 = .ok (.iload_n 3, 1) := by decide +kernel
theorem dX9_run_22 : decode cX9_run 22 = .ok (.i2l, 1) := by decide +kernel
theorem dX9_run_23 : decode cX9_run 23 = .ok (.lconst 1, 1) := by decide +kernel
theorem dX9_run_24 : decode cX9_run 24 = .ok (.ldc2_w 195, 3) := by decide +kernel
theorem dX9_run_27 : decode cX9_run 27 = .ok (.invokestatic 56, 3) := by decide +kernel
theorem dX9_run_30 : decode cX9_run 30 = .ok (.ifCond .ne 10, 3) := by decide +kernel
theorem dX9_run_33 : decode cX9_run 33 = .ok (.aload_n 0, 1) := by decide +kernel
theorem dX9_run_34 : decode cX9_run 34 = .ok (.bipush (-92), 2) := by decide +kernel
theorem dX9_run_36 : decode cX9_run 36 = .ok (.invokevirtual 60, 3) := by decide +kernel
theorem dX9_run_39 : decode cX9_run 39 = .ok (.ireturn, 1) := by decide +kernel
theorem dX9_run_40 : decode cX9_run 40 = .ok (.iconst 0, 1) := by decide +kernel
theorem dX9_run_41 : decode cX9_run 41 = .ok (.istore 4, 2) := by decide +kernel
theorem dX9_run_43 : decode cX9_run 43 = .ok (.iconst 1, 1) := by decide +kernel
theorem dX9_run_44 : decode cX9_run 44 = .ok (.istore 5, 2) := by decide +kernel
theorem dX9_run_46 : decode cX9_run 46 = .ok (.iload 5, 2) := by decide +kernel
theorem dX9_run_48 : decode cX9_run 48 = .ok (.iload_n 3, 1) := by decide +kernel
theorem dX9_run_49 : decode cX9_run 49 = .ok (.if_icmp .gt 66, 3) := by decide +kernel
theorem dX9_run_52 : decode cX9_run 52 = .ok (.iload_n 1, 1) := by decide +kernel
theorem dX9_run_53 : decode cX9_run 53 = .ok (.istore 6, 2) := by decide +kernel
theorem dX9_run_55 : decode cX9_run 55 = .ok (.iload 6, 2) := by decide +kernel
theorem dX9_run_57 : decode cX9_run 57 = .ok (.iload_n 2, 1) := by decide +kernel
theorem dX9_run_58 : decode cX9_run 58 = .ok (.if_icmp .gt 51, 3) := by decide +kernel
theorem dX9_run_61 : decode cX9_run 61 = .ok (.aload_n 0, 1) := by decide +kernel
theorem dX9_run_62 : decode cX9_run 62 = .ok (.iconst 0, 1) := by decide +kernel
theorem dX9_run_63 : decode cX9_run 63 = .ok (.putfield 132, 3) := by decide +kernel
theorem dX9_run_66 : decode cX9_run 66 = .ok (.aload_n 0, 1) := by decide +kernel
theorem dX9_run_67 : decode cX9_run 67 = .ok (.iload 6, 2) := by decide +kernel
theorem dX9_run_69 : decode cX9_run 69 = .ok (.invokevirtual 186, 3) := by decide +kernel
theorem dX9_run_72 : decode cX9_run 72 = .ok (.aload_n 0, 1) := by decide +kernel
theorem dX9_run_73 : decode cX9_run 73 = .ok (.getfield 132, 3) := by decide +kernel
theorem dX9_run_76 : decode cX9_run 76 = .ok (.ifCond .eq 18, 3) := by decide +kernel
theorem dX9_run_79 : decode cX9_run 79 = .ok (.aload_n 0, 1) := by decide +kernel
theorem dX9_run_80 : decode cX9_run 80 = .ok (.iload 6, 2) := by decide +kernel
theorem dX9_run_82 : decode cX9_run 82 = .ok (.iload 5, 2) := by decide +kernel
theorem dX9_run_84 : decode cX9_run 84 = .ok (.invokevirtual 189, 3) := by decide +kernel
theorem dX9_run_87 : decode cX9_run 87 = .ok (.aload_n 0, 1) := by decide +kernel
theorem dX9_run_88 : decode cX9_run 88 = .ok (.bipush (-95), 2) := by decide +kernel
theorem dX9_run_90 : decode cX9_run 90 = .ok (.invokevirtual 60, 3) := by decide +kernel
theorem dX9_run_93 : decode cX9_run 93 = .ok (.ireturn, 1) := by decide +kernel
theorem dX9_run_94 : decode cX9_run 94 = .ok (.aload_n 0, 1) := by decide +kernel
theorem dX9_run_95 : decode cX9_run 95 = .ok (.iload 6, 2) := by decide +kernel
theorem dX9_run_97 : decode cX9_run 97 = .ok (.invokevirtual 192, 3) := by decide +kernel
theorem dX9_run_100 : decode cX9_run 100 = .ok (.iinc 4 1, 3) := by decide +kernel
theorem dX9_run_103 : decode cX9_run 103 = .ok (.iinc 6 1, 3) := by decide +kernel
theorem dX9_run_106 : decode cX9_run 106 = .ok (.goto (-51), 3) := by decide +kernel
theorem dX9_run_109 : decode cX9_run 109 = .ok (.iinc 5 1, 3) := by decide +kernel
theorem dX9_run_112 : decode cX9_run 112 = .ok (.goto (-66), 3) := by decide +kernel
theorem dX9_run_115 : decode cX9_run 115 = .ok (.iload 4, 2) := by decide +kernel
theorem dX9_run_117 : decode cX9_run 117 = .ok (.ireturn, 1) := by decide +kernel
theorem dX9_mode_0 : decode cX9_mode 0 = .ok (.iload_n 1, 1) := by decide +kernel
theorem dX9_mode_1 : decode cX9_mode 1 = .ok (.i2l, 1) := by decide +kernel
theorem dX9_mode_2 : decode cX9_mode 2 = .ok (.lconst 0, 1) := by decide +kernel
theorem dX9_mode_3 : decode cX9_mode 3 = .ok (.lconst 1, 1) := by decide +kernel
theorem dX9_mode_4 : decode cX9_mode 4 = .ok (.invokestatic 56, 3) := by decide +kernel
theorem dX9_mode_7 : decode cX9_mode 7 = .ok (.ifCond .ne 10, 3) := by decide +kernel
theorem dX9_mode_10 : decode cX9_mode 10 = .ok (.aload_n 0, 1) := by decide +kernel
theorem dX9_mode_11 : decode cX9_mode 11 = .ok (.bipush (-92), 2) := by decide +kernel
theorem dX9_mode_13 : decode cX9_mode 13 = .ok (.invokevirtual 60, 3) := by decide +kernel
theorem dX9_mode_16 : decode cX9_mode 16 = .ok (.ireturn, 1) := by decide +kernel
theorem dX9_mode_17 : decode cX9_mode 17 = .ok (.aload_n 0, 1) := by decide +kernel
theorem dX9_mode_18 : decode cX9_mode 18 = .ok (.getfield 13, 3) := by decide +kernel
theorem dX9_mode_21 : decode cX9_mode 21 = .ok (.sipush 5025, 3) := by decide +kernel
theorem dX9_mode_24 : decode cX9_mode 24 = .ok (.iaload, 1) := by decide +kernel
theorem dX9_mode_25 : decode cX9_mode 25 = .ok (.ifCond .le 10, 3) := by decide +kernel
theorem dX9_mode_28 : decode cX9_mode 28 = .ok (.aload_n 0, 1) := by decide +kernel
theorem dX9_mode_29 : decode cX9_mode 29 = .ok (.bipush (-95), 2) := by decide +kernel
theorem dX9_mode_31 : decode cX9_mode 31 = .ok (.invokevirtual 60, 3) := by decide +kernel
theorem dX9_mode_34 : decode cX9_mode 34 = .ok (.ireturn, 1) := by decide +kernel
theorem dX9_mode_35 : decode cX9_mode 35 = .ok (.aload_n 0, 1) := by decide +kernel
theorem dX9_mode_36 : decode cX9_mode 36 = .ok (.getfield 13, 3) := by decide +kernel
theorem dX9_mode_39 : decode cX9_mode 39 = .ok (.sipush 5021, 3) := by decide +kernel
theorem dX9_mode_42 : decode cX9_mode 42 = .ok (.iaload, 1) := by decide +kernel
theorem dX9_mode_43 : decode cX9_mode 43 = .ok (.istore_n 2, 1) := by decide +kernel
theorem dX9_mode_44 : decode cX9_mode 44 = .ok (.aload_n 0, 1) := by decide +kernel
theorem dX9_mode_45 : decode cX9_mode 45 = .ok (.getfield 13, 3) := by decide +kernel
theorem dX9_mode_48 : decode cX9_mode 48 = .ok (.sipush 5021, 3) := by decide +kernel
theorem dX9_mode_51 : decode cX9_mode 51 = .ok (.iload_n 1, 1) := by decide +kernel
theorem dX9_mode_52 : decode cX9_mode 52 = .ok (.iastore, 1) := by decide +kernel
theorem dX9_mode_53 : decode cX9_mode 53 = .ok (.iload_n 2, 1) := by decide +kernel
theorem dX9_mode_54 : decode cX9_mode 54 = .ok (.ireturn, 1) := by decide +kernel
theorem dX9_cast_0 : decode cX9_cast 0 = .ok (.iload_n 1, 1) := by decide +kernel
theorem dX9_cast_1 : decode cX9_cast 1 = .ok (.i2l, 1) := by decide +kernel
theorem dX9_cast_2 : decode cX9_cast 2 = .ok (.lconst 1, 1) := by decide +kernel
theorem dX9_cast_3 : decode cX9_cast 3 = .ok (.ldc2_w 197, 3) := by decide +kernel
theorem dX9_cast_6 : decode cX9_cast 6 = .ok (.invokestatic 56, 3) := by decide +kernel
theorem dX9_cast_9 : decode cX9_cast 9 = .ok (.ifCond .ne 10, 3) := by decide +kernel
theorem dX9_cast_12 : decode cX9_cast 12 = .ok (.aload_n 0, 1) := by decide +kernel
theorem dX9_cast_13 : decode cX9_cast 13 = .ok (.bipush (-92), 2) := by decide +kernel
theorem dX9_cast_15 : decode cX9_cast 15 = .ok (.invokevirtual 60, 3) := by decide +kernel
theorem dX9_cast_18 : decode cX9_cast 18 = .ok (.ireturn, 1) := by decide +kernel
theorem dX9_cast_19 : decode cX9_cast 19 = .ok (.aload_n 0, 1) := by decide +kernel
theorem dX9_cast_20 : decode cX9_cast 20 = .ok (.getfield 13, 3) := by decide +kernel
theorem dX9_cast_23 : decode cX9_cast 23 = .ok (.sipush 5023, 3) := by decide +kernel
theorem dX9_cast_26 : decode cX9_cast 26 = .ok (.iaload, 1) := by decide +kernel
theorem dX9_cast_27 : decode cX9_cast 27 = .ok (.ifCond .gt 14, 3) := by decide +kernel
theorem dX9_cast_30 : decode cX9_cast 30 = .ok (.aload_n 0, 1) := by decide +kernel
theorem dX9_cast_31 : decode cX9_cast 31 = .ok (.getfield 13, 3) := by decide +kernel
theorem dX9_cast_34 : decode cX9_cast 34 = .ok (.sipush 5025, 3) := by decide +kernel
theorem dX9_cast_37 : decode cX9_cast 37 = .ok (.iaload, 1) := by decide +kernel
theorem dX9_cast_38 : decode cX9_cast 38 = .ok (.ifCond .le 10, 3) := by decide +kernel
theorem dX9_cast_41 : decode cX9_cast 41 = .ok (.aload_n 0, 1) := by decide +kernel
theorem dX9_cast_42 : decode cX9_cast 42 = .ok (.bipush (-95), 2) := by decide +kernel
theorem dX9_cast_44 : decode cX9_cast 44 = .ok (.invokevirtual 60, 3) := by decide +kernel
theorem dX9_cast_47 : decode cX9_cast 47 = .ok (.ireturn, 1) := by decide +kernel
theorem dX9_cast_48 : decode cX9_cast 48 = .ok (.aload_n 0, 1) := by decide +kernel
theorem dX9_cast_49 : decode cX9_cast 49 = .ok (.getfield 13, 3) := by decide +kernel
theorem dX9_cast_52 : decode cX9_cast 52 = .ok (.sipush 5023, 3) := by decide +kernel
theorem dX9_cast_55 : decode cX9_cast 55 = .ok (.iload_n 1, 1) := by decide +kernel
theorem dX9_cast_56 : decode cX9_cast 56 = .ok (.iastore, 1) := by decide +kernel
theorem dX9_cast_57 : decode cX9_cast 57 = .ok (.aload_n 0, 1) := by decide +kernel
theorem dX9_cast_58 : decode cX9_cast 58 = .ok (.getfield 13, 3) := by decide +kernel
theorem dX9_cast_61 : decode cX9_cast 61 = .ok (.sipush 5022, 3) := by decide +kernel
theorem dX9_cast_64 : decode cX9_cast 64 = .ok (.iconst 0, 1) := by decide +kernel
theorem dX9_cast_65 : decode cX9_cast 65 = .ok (.iastore, 1) := by decide +kernel
theorem dX9_cast_66 : decode cX9_cast 66 = .ok (.iload_n 1, 1) := by decide +kernel
theorem dX9_cast_67 : decode cX9_cast 67 = .ok (.ireturn, 1) := by decide +kernel
theorem dX9_rips_0 : decode cX9_rips 0 = .ok (.aload_n 0, 1) := by decide +kernel
theorem dX9_rips_1 : decode cX9_rips 1 = .ok (.getfield 13, 3) := by decide +kernel
theorem dX9_rips_4 : decode cX9_rips 4 = .ok (.sipush 5025, 3) := by decide +kernel
theorem dX9_rips_7 : decode cX9_rips 7 = .ok (.dup2, 1) := by decide +kernel
theorem dX9_rips_8 : decode cX9_rips 8 = .ok (.iaload, 1) := by decide +kernel
theorem dX9_rips_9 : decode cX9_rips 9 = .ok (.iload_n 1, 1) := by decide +kernel
theorem dX9_rips_10 : decode cX9_rips 10 = .ok (.isub, 1) := by decide +kernel
theorem dX9_rips_11 : decode cX9_rips 11 = .ok (.iastore, 1) := by decide +kernel
theorem dX9_rips_12 : decode cX9_rips 12 = .ok (.aload_n 0, 1) := by decide +kernel
theorem dX9_rips_13 : decode cX9_rips 13 = .ok (.getfield 13, 3) := by decide +kernel
theorem dX9_rips_16 : decode cX9_rips 16 = .ok (.sipush 5023, 3) := by decide +kernel
theorem dX9_rips_19 : decode cX9_rips 19 = .ok (.aload_n 0, 1) := by decide +kernel
theorem dX9_rips_20 : decode cX9_rips 20 = .ok (.getfield 13, 3) := by decide +kernel
theorem dX9_rips_23 : decode cX9_rips 23 = .ok (.sipush 5026, 3) := by decide +kernel
theorem dX9_rips_26 : decode cX9_rips 26 = .ok (.sipush 204, 3) := by decide +kernel
theorem dX9_rips_29 : decode cX9_rips 29 = .ok (.aload_n 0, 1) := by decide +kernel
theorem dX9_rips_30 : decode cX9_rips 30 = .ok (.getfield 13, 3) := by decide +kernel
theorem dX9_rips_33 : decode cX9_rips 33 = .ok (.sipush 5025, 3) := by decide +kernel
theorem dX9_rips_36 : decode cX9_rips 36 = .ok (.iaload, 1) := by decide +kernel
theorem dX9_rips_37 : decode cX9_rips 37 = .ok (.imul, 1) := by decide +kernel
theorem dX9_rips_38 : decode cX9_rips 38 = .ok (.iadd, 1) := by decide +kernel
theorem dX9_rips_39 : decode cX9_rips 39 = .ok (.iconst 3, 1) := by decide +kernel
theorem dX9_rips_40 : decode cX9_rips 40 = .ok (.iadd, 1) := by decide +kernel
theorem dX9_rips_41 : decode cX9_rips 41 = .ok (.iaload, 1) := by decide +kernel
theorem dX9_rips_42 : decode cX9_rips 42 = .ok (.iastore, 1) := by decide +kernel
theorem dX9_rips_43 : decode cX9_rips 43 = .ok (.aload_n 0, 1) := by decide +kernel
theorem dX9_rips_44 : decode cX9_rips 44 = .ok (.getfield 13, 3) := by decide +kernel
theorem dX9_rips_47 : decode cX9_rips 47 = .ok (.sipush 5022, 3) := by decide +kernel
theorem dX9_rips_50 : decode cX9_rips 50 = .ok (.aload_n 0, 1) := by decide +kernel
theorem dX9_rips_51 : decode cX9_rips 51 = .ok (.getfield 13, 3) := by decide +kernel
theorem dX9_rips_54 : decode cX9_rips 54 = .ok (.sipush 5026, 3) := by decide +kernel
theorem dX9_rips_57 : decode cX9_rips 57 = .ok (.sipush 204, 3) := by decide +kernel
theorem dX9_rips_60 : decode cX9_rips 60 = .ok (.aload_n 0, 1) := by decide +kernel
theorem dX9_rips_61 : decode cX9_rips 61 = .ok (.getfield 13, 3) := by decide +kernel
theorem dX9_rips_64 : decode cX9_rips 64 = .ok (.sipush 5025, 3) := by decide +kernel
theorem dX9_rips_67 : decode cX9_rips 67 = .ok (.iaload, 1) := by decide +kernel
theorem dX9_rips_68 : decode cX9_rips 68 = .ok (.imul, 1) := by decide +kernel
theorem dX9_rips_69 : decode cX9_rips 69 = .ok (.iadd, 1) := by decide +kernel
theorem dX9_rips_70 : decode cX9_rips 70 = .ok (.iaload, 1) := by decide +kernel
theorem dX9_rips_71 : decode cX9_rips 71 = .ok (.iastore, 1) := by decide +kernel
theorem dX9_rips_72 : decode cX9_rips 72 = .ok (.return_, 1) := by decide +kernel
theorem dX9_rip_0 : decode cX9_rip 0 = .ok (.iload_n 1, 1) := by decide +kernel
theorem dX9_rip_1 : decode cX9_rip 1 = .ok (.i2l, 1) := by decide +kernel
theorem dX9_rip_2 : decode cX9_rip 2 = .ok (.lconst 1, 1) := by decide +kernel
theorem dX9_rip_3 : decode cX9_rip 3 = .ok (.aload_n 0, 1) := by decide +kernel
theorem dX9_rip_4 : decode cX9_rip 4 = .ok (.getfield 13, 3) := by decide +kernel
theorem dX9_rip_7 : decode cX9_rip 7 = .ok (.sipush 5025, 3) := by decide +kernel
theorem dX9_rip_10 : decode cX9_rip 10 = .ok (.iaload, 1) := by decide +kernel
theorem dX9_rip_11 : decode cX9_rip 11 = .ok (.i2l, 1) := by decide +kernel
theorem dX9_rip_12 : decode cX9_rip 12 = .ok (.invokestatic 56, 3) := by decide +kernel
theorem dX9_rip_15 : decode cX9_rip 15 = .ok (.ifCond .ne 10, 3) := by decide +kernel
theorem dX9_rip_18 : decode cX9_rip 18 = .ok (.aload_n 0, 1) := by decide +kernel
theorem dX9_rip_19 : decode cX9_rip 19 = .ok (.bipush (-92), 2) := by decide +kernel
theorem dX9_rip_21 : decode cX9_rip 21 = .ok (.invokevirtual 60, 3) := by decide +kernel
theorem dX9_rip_24 : decode cX9_rip 24 = .ok (.ireturn, 1) := by decide +kernel
theorem dX9_rip_25 : decode cX9_rip 25 = .ok (.aload_n 0, 1) := by decide +kernel
theorem dX9_rip_26 : decode cX9_rip 26 = .ok (.iload_n 1, 1) := by decide +kernel
theorem dX9_rip_27 : decode cX9_rip 27 = .ok (.invokevirtual 199, 3) := by decide +kernel
theorem dX9_rip_30 : decode cX9_rip 30 = .ok (.aload_n 0, 1) := by decide +kernel
theorem dX9_rip_31 : decode cX9_rip 31 = .ok (.getfield 13, 3) := by decide +kernel
theorem dX9_rip_34 : decode cX9_rip 34 = .ok (.sipush 5025, 3) := by decide +kernel
theorem dX9_rip_37 : decode cX9_rip 37 = .ok (.iaload, 1) := by decide +kernel
theorem dX9_rip_38 : decode cX9_rip 38 = .ok (.ireturn, 1) := by decide +kernel
theorem dX9_causes_0 : decode cX9_causes 0 = .ok (.aload_n 0, 1) := by decide +kernel
theorem dX9_causes_1 : decode cX9_causes 1 = .ok (.getfield 180, 3) := by decide +kernel
theorem dX9_causes_4 : decode cX9_causes 4 = .ok (.ireturn, 1) := by decide +kernel
theorem dX9_why_0 : decode cX9_why 0 = .ok (.iload_n 1, 1) := by decide +kernel
theorem dX9_why_1 : decode cX9_why 1 = .ok (.i2l, 1) := by decide +kernel
theorem dX9_why_2 : decode cX9_why 2 = .ok (.lconst 0, 1) := by decide +kernel
theorem dX9_why_3 : decode cX9_why 3 = .ok (.aload_n 0, 1) := by decide +kernel
theorem dX9_why_4 : decode cX9_why 4 = .ok (.getfield 180, 3) := by decide +kernel
theorem dX9_why_7 : decode cX9_why 7 = .ok (.iconst 1, 1) := by decide +kernel
theorem dX9_why_8 : decode cX9_why 8 = .ok (.isub, 1) := by decide +kernel
theorem dX9_why_9 : decode cX9_why 9 = .ok (.i2l, 1) := by decide +kernel
theorem dX9_why_10 : decode cX9_why 10 = .ok (.invokestatic 56, 3) := by decide +kernel
theorem dX9_why_13 : decode cX9_why 13 = .ok (.ifCond .eq 28, 3) := by decide +kernel
theorem dX9_why_16 : decode cX9_why 16 = .ok (.iload_n 2, 1) := by decide +kernel
theorem dX9_why_17 : decode cX9_why 17 = .ok (.i2l, 1) := by decide +kernel
theorem dX9_why_18 : decode cX9_why 18 = .ok (.lconst 0, 1) := by decide +kernel
