/-! decode rows (printed by the program of the task) -/
theorem dX0_init_0 : decode cX0_init 0 = .ok (.aload_n 0, 1) := by decide +kernel
theorem dX0_init_1 : decode cX0_init 1 = .ok (.invokespecial 3, 3) := by decide +kernel
theorem dX0_init_4 : decode cX0_init 4 = .ok (.aload_n 0, 1) := by decide +kernel
theorem dX0_init_5 : decode cX0_init 5 = .ok (.bipush 24, 2) := by decide +kernel
theorem dX0_init_7 : decode cX0_init 7 = .ok (.newarray .int, 2) := by decide +kernel
theorem dX0_init_9 : decode cX0_init 9 = .ok (.putfield 11, 3) := by decide +kernel
theorem dX0_init_12 : decode cX0_init 12 = .ok (.return_, 1) := by decide +kernel
theorem dX0_begin_0 : decode cX0_begin 0 = .ok (.aload_n 0, 1) := by decide +kernel
theorem dX0_begin_1 : decode cX0_begin 1 = .ok (.iconst 0, 1) := by decide +kernel
theorem dX0_begin_2 : decode cX0_begin 2 = .ok (.putfield 15, 3) := by decide +kernel
theorem dX0_begin_5 : decode cX0_begin 5 = .ok (.return_, 1) := by decide +kernel
theorem dX0_addLink_0 : decode cX0_addLink 0 = .ok (.aload_n 0, 1) := by decide +kernel
theorem dX0_addLink_1 : decode cX0_addLink 1 = .ok (.getfield 15, 3) := by decide +kernel
theorem dX0_addLink_4 : decode cX0_addLink 4 = .ok (.iconst 3, 1) := by decide +kernel
theorem dX0_addLink_5 : decode cX0_addLink 5 = .ok (.imul, 1) := by decide +kernel
theorem dX0_addLink_6 : decode cX0_addLink 6 = .ok (.istore 4, 2) := by decide +kernel
theorem dX0_addLink_8 : decode cX0_addLink 8 = .ok (.iload 4, 2) := by decide +kernel
theorem dX0_addLink_10 : decode cX0_addLink 10 = .ok (.ifCond .lt 53, 3) := by decide +kernel
theorem dX0_addLink_13 : decode cX0_addLink 13 = .ok (.iload 4, 2) := by decide +kernel
theorem dX0_addLink_15 : decode cX0_addLink 15 = .ok (.iconst 2, 1) := by decide +kernel
theorem dX0_addLink_16 : decode cX0_addLink 16 = .ok (.iadd, 1) := by decide +kernel
theorem dX0_addLink_17 : decode cX0_addLink 17 = .ok (.aload_n 0, 1) := by decide +kernel
theorem dX0_addLink_18 : decode cX0_addLink 18 = .ok (.getfield 11, 3) := by decide +kernel
theorem dX0_addLink_21 : decode cX0_addLink 21 = .ok (.arraylength, 1) := by decide +kernel
theorem dX0_addLink_22 : decode cX0_addLink 22 = .ok (.if_icmp .ge 41, 3) := by decide +kernel
theorem dX0_addLink_25 : decode cX0_addLink 25 = .ok (.aload_n 0, 1) := by decide +kernel
theorem dX0_addLink_26 : decode cX0_addLink 26 = .ok (.getfield 11, 3) := by decide +kernel
theorem dX0_addLink_29 : decode cX0_addLink 29 = .ok (.iload 4, 2) := by decide +kernel
theorem dX0_addLink_31 : decode cX0_addLink 31 = .ok (.iload_n 1, 1) := by decide +kernel
theorem dX0_addLink_32 : decode cX0_addLink 32 = .ok (.iastore, 1) := by decide +kernel
theorem dX0_addLink_33 : decode cX0_addLink 33 = .ok (.aload_n 0, 1) := by decide +kernel
theorem dX0_addLink_34 : decode cX0_addLink 34 = .ok (.getfield 11, 3) := by decide +kernel
theorem dX0_addLink_37 : decode cX0_addLink 37 = .ok (.iload 4, 2) := by decide +kernel
theorem dX0_addLink_39 : decode cX0_addLink 39 = .ok (.iconst 1, 1) := by decide +kernel
theorem dX0_addLink_40 : decode cX0_addLink 40 = .ok (.iadd, 1) := by decide +kernel
theorem dX0_addLink_41 : decode cX0_addLink 41 = .ok (.iload_n 2, 1) := by decide +kernel
theorem dX0_addLink_42 : decode cX0_addLink 42 = .ok (.iastore, 1) := by decide +kernel
theorem dX0_addLink_43 : decode cX0_addLink 43 = .ok (.aload_n 0, 1) := by decide +kernel
theorem dX0_addLink_44 : decode cX0_addLink 44 = .ok (.getfield 11, 3) := by decide +kernel
theorem dX0_addLink_47 : decode cX0_addLink 47 = .ok (.iload 4, 2) := by decide +kernel
theorem dX0_addLink_49 : decode cX0_addLink 49 = .ok (.iconst 2, 1) := by decide +kernel
theorem dX0_addLink_50 : decode cX0_addLink 50 = .ok (.iadd, 1) := by decide +kernel
theorem dX0_addLink_51 : decode cX0_addLink 51 = .ok (.iload_n 3, 1) := by decide +kernel
theorem dX0_addLink_52 : decode cX0_addLink 52 = .ok (.iastore, 1) := by decide +kernel
theorem dX0_addLink_53 : decode cX0_addLink 53 = .ok (.aload_n 0, 1) := by decide +kernel
theorem dX0_addLink_54 : decode cX0_addLink 54 = .ok (.dup, 1) := by decide +kernel
theorem dX0_addLink_55 : decode cX0_addLink 55 = .ok (.getfield 15, 3) := by decide +kernel
theorem dX0_addLink_58 : decode cX0_addLink 58 = .ok (.iconst 1, 1) := by decide +kernel
theorem dX0_addLink_59 : decode cX0_addLink 59 = .ok (.iadd, 1) := by decide +kernel
theorem dX0_addLink_60 : decode cX0_addLink 60 = .ok (.putfield 15, 3) := by decide +kernel
theorem dX0_addLink_63 : decode cX0_addLink 63 = .ok (.return_, 1) := by decide +kernel
theorem dX0_hasNumber_0 : decode cX0_hasNumber 0 = .ok (.iload_n 1, 1) := by decide +kernel
theorem dX0_hasNumber_1 : decode cX0_hasNumber 1 = .ok (.ifCond .lt 24, 3) := by decide +kernel
theorem dX0_hasNumber_4 : decode cX0_hasNumber 4 = .ok (.iload_n 1, 1) := by decide +kernel
theorem dX0_hasNumber_5 : decode cX0_hasNumber 5 = .ok (.aload_n 0, 1) := by decide +kernel
theorem dX0_hasNumber_6 : decode cX0_hasNumber 6 = .ok (.getfield 15, 3) := by decide +kernel
theorem dX0_hasNumber_9 : decode cX0_hasNumber 9 = .ok (.if_icmp .ge 16, 3) := by decide +kernel
theorem dX0_hasNumber_12 : decode cX0_hasNumber 12 = .ok (.iload_n 2, 1) := by decide +kernel
theorem dX0_hasNumber_13 : decode cX0_hasNumber 13 = .ok (.ifCond .lt 12, 3) := by decide +kernel
theorem dX0_hasNumber_16 : decode cX0_hasNumber 16 = .ok (.iload_n 2, 1) := by decide +kernel
theorem dX0_hasNumber_17 : decode cX0_hasNumber 17 = .ok (.iconst 3, 1) := by decide +kernel
theorem dX0_hasNumber_18 : decode cX0_hasNumber 18 = .ok (.if_icmp .ge 7, 3) := by decide +kernel
theorem dX0_hasNumber_21 : decode cX0_hasNumber 21 = .ok (.iconst 1, 1) := by decide +kernel
theorem dX0_hasNumber_22 : decode cX0_hasNumber 22 = .ok (.goto 4, 3) := by decide +kernel
theorem dX0_hasNumber_25 : decode cX0_hasNumber 25 = .ok (.iconst 0, 1) := by decide +kernel
theorem dX0_hasNumber_26 : decode cX0_hasNumber 26 = .ok (.ireturn, 1) := by decide +kernel
theorem dX0_numberAt_0 : decode cX0_numberAt 0 = .ok (.iload_n 1, 1) := by decide +kernel
theorem dX0_numberAt_1 : decode cX0_numberAt 1 = .ok (.iconst 3, 1) := by decide +kernel
theorem dX0_numberAt_2 : decode cX0_numberAt 2 = .ok (.imul, 1) := by decide +kernel
theorem dX0_numberAt_3 : decode cX0_numberAt 3 = .ok (.iload_n 2, 1) := by decide +kernel
theorem dX0_numberAt_4 : decode cX0_numberAt 4 = .ok (.iadd, 1) := by decide +kernel
theorem dX0_numberAt_5 : decode cX0_numberAt 5 = .ok (.istore_n 3, 1) := by decide +kernel
theorem dX0_numberAt_6 : decode cX0_numberAt 6 = .ok (.iload_n 3, 1) := by decide +kernel
theorem dX0_numberAt_7 : decode cX0_numberAt 7 = .ok (.ifCond .lt 21, 3) := by decide +kernel
theorem dX0_numberAt_10 : decode cX0_numberAt 10 = .ok (.iload_n 3, 1) := by decide +kernel
theorem dX0_numberAt_11 : decode cX0_numberAt 11 = .ok (.aload_n 0, 1) := by decide +kernel
theorem dX0_numberAt_12 : decode cX0_numberAt 12 = .ok (.getfield 11, 3) := by decide +kernel
theorem dX0_numberAt_15 : decode cX0_numberAt 15 = .ok (.arraylength, 1) := by decide +kernel
theorem dX0_numberAt_16 : decode cX0_numberAt 16 = .ok (.if_icmp .ge 12, 3) := by decide +kernel
theorem dX0_numberAt_19 : decode cX0_numberAt 19 = .ok (.aload_n 0, 1) := by decide +kernel
theorem dX0_numberAt_20 : decode cX0_numberAt 20 = .ok (.getfield 11, 3) := by decide +kernel
theorem dX0_numberAt_23 : decode cX0_numberAt 23 = .ok (.iload_n 3, 1) := by decide +kernel
theorem dX0_numberAt_24 : decode cX0_numberAt 24 = .ok (.iaload, 1) := by decide +kernel
theorem dX0_numberAt_25 : decode cX0_numberAt 25 = .ok (.goto 4, 3) := by decide +kernel
theorem dX0_numberAt_28 : decode cX0_numberAt 28 = .ok (.iconst 0, 1) := by decide +kernel
theorem dX0_numberAt_29 : decode cX0_numberAt 29 = .ok (.ireturn, 1) := by decide +kernel
theorem dX1_init_0 : decode cX1_init 0 = .ok (.aload_n 0, 1) := by decide +kernel
theorem dX1_init_1 : decode cX1_init 1 = .ok (.invokespecial 3, 3) := by decide +kernel
theorem dX1_init_4 : decode cX1_init 4 = .ok (.aload_n 0, 1) := by decide +kernel
theorem dX1_init_5 : decode cX1_init 5 = .ok (.new 9, 3) := by decide +kernel
theorem dX1_init_8 : decode cX1_init 8 = .ok (.dup, 1) := by decide +kernel
theorem dX1_init_9 : decode cX1_init 9 = .ok (.invokespecial 11, 3) := by decide +kernel
theorem dX1_init_12 : decode cX1_init 12 = .ok (.putfield 12, 3) := by decide +kernel
theorem dX1_init_15 : decode cX1_init 15 = .ok (.return_, 1) := by decide +kernel
theorem dX1_takeFrom_0 : decode cX1_takeFrom 0 = .ok (.aload_n 0, 1) := by decide +kernel
theorem dX1_takeFrom_1 : decode cX1_takeFrom 1 = .ok (.getfield 12, 3) := by decide +kernel
theorem dX1_takeFrom_4 : decode cX1_takeFrom 4 = .ok (.aload_n 1, 1) := by decide +kernel
theorem dX1_takeFrom_5 : decode cX1_takeFrom 5 = .ok (.getfield 12, 3) := by decide +kernel
theorem dX1_takeFrom_8 : decode cX1_takeFrom 8 = .ok (.invokevirtual 18, 3) := by decide +kernel
theorem dX1_takeFrom_11 : decode cX1_takeFrom 11 = .ok (.aload_n 0, 1) := by decide +kernel
theorem dX1_takeFrom_12 : decode cX1_takeFrom 12 = .ok (.aload_n 1, 1) := by decide +kernel
theorem dX1_takeFrom_13 : decode cX1_takeFrom 13 = .ok (.getfield 22, 3) := by decide +kernel
theorem dX1_takeFrom_16 : decode cX1_takeFrom 16 = .ok (.putfield 22, 3) := by decide +kernel
theorem dX1_takeFrom_19 : decode cX1_takeFrom 19 = .ok (.aload_n 0, 1) := by decide +kernel
theorem dX1_takeFrom_20 : decode cX1_takeFrom 20 = .ok (.aload_n 1, 1) := by decide +kernel
theorem dX1_takeFrom_21 : decode cX1_takeFrom 21 = .ok (.getfield 26, 3) := by decide +kernel
theorem dX1_takeFrom_24 : decode cX1_takeFrom 24 = .ok (.putfield 26, 3) := by decide +kernel
theorem dX1_takeFrom_27 : decode cX1_takeFrom 27 = .ok (.return_, 1) := by decide +kernel
theorem dX1_chartAt_0 : decode cX1_chartAt 0 = .ok (.aload_n 0, 1) := by decide +kernel
theorem dX1_chartAt_1 : decode cX1_chartAt 1 = .ok (.getfield 22, 3) := by decide +kernel
theorem dX1_chartAt_4 : decode cX1_chartAt 4 = .ok (.ifCond .ne 12, 3) := by decide +kernel
theorem dX1_chartAt_7 : decode cX1_chartAt 7 = .ok (.aload_n 0, 1) := by decide +kernel
theorem dX1_chartAt_8 : decode cX1_chartAt 8 = .ok (.getfield 12, 3) := by decide +kernel
theorem dX1_chartAt_11 : decode cX1_chartAt 11 = .ok (.iload_n 1, 1) := by decide +kernel
theorem dX1_chartAt_12 : decode cX1_chartAt 12 = .ok (.invokevirtual 29, 3) := by decide +kernel
theorem dX1_chartAt_15 : decode cX1_chartAt 15 = .ok (.ireturn, 1) := by decide +kernel
theorem dX1_chartAt_16 : decode cX1_chartAt 16 = .ok (.aload_n 0, 1) := by decide +kernel
theorem dX1_chartAt_17 : decode cX1_chartAt 17 = .ok (.getfield 12, 3) := by decide +kernel
theorem dX1_chartAt_20 : decode cX1_chartAt 20 = .ok (.aload_n 0, 1) := by decide +kernel
theorem dX1_chartAt_21 : decode cX1_chartAt 21 = .ok (.getfield 12, 3) := by decide +kernel
theorem dX1_chartAt_24 : decode cX1_chartAt 24 = .ok (.getfield 33, 3) := by decide +kernel
theorem dX1_chartAt_27 : decode cX1_chartAt 27 = .ok (.iconst 1, 1) := by decide +kernel
theorem dX1_chartAt_28 : decode cX1_chartAt 28 = .ok (.isub, 1) := by decide +kernel
theorem dX1_chartAt_29 : decode cX1_chartAt 29 = .ok (.iload_n 1, 1) := by decide +kernel
theorem dX1_chartAt_30 : decode cX1_chartAt 30 = .ok (.isub, 1) := by decide +kernel
theorem dX1_chartAt_31 : decode cX1_chartAt 31 = .ok (.invokevirtual 29, 3) := by decide +kernel
theorem dX1_chartAt_34 : decode cX1_chartAt 34 = .ok (.invokestatic 36, 3) := by decide +kernel
theorem dX1_chartAt_37 : decode cX1_chartAt 37 = .ok (.ireturn, 1) := by decide +kernel
theorem dX2_isKind_0 : decode cX2_isKind 0 = .ok (.iload_n 0, 1) := by decide +kernel
theorem dX2_isKind_1 : decode cX2_isKind 1 = .ok (.ifCond .lt 13, 3) := by decide +kernel
theorem dX2_isKind_4 : decode cX2_isKind 4 = .ok (.iload_n 0, 1) := by decide +kernel
theorem dX2_isKind_5 : decode cX2_isKind 5 = .ok (.bipush 12, 2) := by decide +kernel
theorem dX2_isKind_7 : decode cX2_isKind 7 = .ok (.if_icmp .gt 7, 3) := by decide +kernel
theorem dX2_isKind_10 : decode cX2_isKind 10 = .ok (.iconst 1, 1) := by decide +kernel
theorem dX2_isKind_11 : decode cX2_isKind 11 = .ok (.goto 4, 3) := by decide +kernel
theorem dX2_isKind_14 : decode cX2_isKind 14 = .ok (.iconst 0, 1) := by decide +kernel
theorem dX2_isKind_15 : decode cX2_isKind 15 = .ok (.ireturn, 1) := by decide +kernel
theorem dX2_takenBy_0 : decode cX2_takenBy 0 = .ok (.iload_n 0, 1) := by decide +kernel
theorem dX2_takenBy_1 : decode cX2_takenBy 1 = .ok (.ifCond .lt 19, 3) := by decide +kernel
theorem dX2_takenBy_4 : decode cX2_takenBy 4 = .ok (.iload_n 0, 1) := by decide +kernel
theorem dX2_takenBy_5 : decode cX2_takenBy 5 = .ok (.getstatic 11, 3) := by decide +kernel
theorem dX2_takenBy_8 : decode cX2_takenBy 8 = .ok (.arraylength, 1) := by decide +kernel
theorem dX2_takenBy_9 : decode cX2_takenBy 9 = .ok (.if_icmp .ge 11, 3) := by decide +kernel
theorem dX2_takenBy_12 : decode cX2_takenBy 12 = .ok (.getstatic 11, 3) := by decide +kernel
theorem dX2_takenBy_15 : decode cX2_takenBy 15 = .ok (.iload_n 0, 1) := by decide +kernel
theorem dX2_takenBy_16 : decode cX2_takenBy 16 = .ok (.iaload, 1) := by decide +kernel
theorem dX2_takenBy_17 : decode cX2_takenBy 17 = .ok (.goto 4, 3) := by decide +kernel
theorem dX2_takenBy_20 : decode cX2_takenBy 20 = .ok (.iconst 0, 1) := by decide +kernel
theorem dX2_takenBy_21 : decode cX2_takenBy 21 = .ok (.ireturn, 1) := by decide +kernel
theorem dX2_madeBy_0 : decode cX2_madeBy 0 = .ok (.iload_n 0, 1) := by decide +kernel
theorem dX2_madeBy_1 : decode cX2_madeBy 1 = .ok (.ifCond .lt 19, 3) := by decide +kernel
theorem dX2_madeBy_4 : decode cX2_madeBy 4 = .ok (.iload_n 0, 1) := by decide +kernel
theorem dX2_madeBy_5 : decode cX2_madeBy 5 = .ok (.getstatic 15, 3) := by decide +kernel
theorem dX2_madeBy_8 : decode cX2_madeBy 8 = .ok (.arraylength, 1) := by decide +kernel
theorem dX2_madeBy_9 : decode cX2_madeBy 9 = .ok (.if_icmp .ge 11, 3) := by decide +kernel
theorem dX2_madeBy_12 : decode cX2_madeBy 12 = .ok (.getstatic 15, 3) := by decide +kernel
theorem dX2_madeBy_15 : decode cX2_madeBy 15 = .ok (.iload_n 0, 1) := by decide +kernel
theorem dX2_madeBy_16 : decode cX2_madeBy 16 = .ok (.iaload, 1) := by decide +kernel
theorem dX2_madeBy_17 : decode cX2_madeBy 17 = .ok (.goto 4, 3) := by decide +kernel
theorem dX2_madeBy_20 : decode cX2_madeBy 20 = .ok (.iconst 0, 1) := by decide +kernel
theorem dX2_madeBy_21 : decode cX2_madeBy 21 = .ok (.ireturn, 1) := by decide +kernel
theorem dX2_yarnOf_0 : decode cX2_yarnOf 0 = .ok (.iload_n 0, 1) := by decide +kernel
theorem dX2_yarnOf_1 : decode cX2_yarnOf 1 = .ok (.ifCond .lt 19, 3) := by decide +kernel
theorem dX2_yarnOf_4 : decode cX2_yarnOf 4 = .ok (.iload_n 0, 1) := by decide +kernel
theorem dX2_yarnOf_5 : decode cX2_yarnOf 5 = .ok (.getstatic 18, 3) := by decide +kernel
theorem dX2_yarnOf_8 : decode cX2_yarnOf 8 = .ok (.arraylength, 1) := by decide +kernel
theorem dX2_yarnOf_9 : decode cX2_yarnOf 9 = .ok (.if_icmp .ge 11, 3) := by decide +kernel
theorem dX2_yarnOf_12 : decode cX2_yarnOf 12 = .ok (.getstatic 18, 3) := by decide +kernel
theorem dX2_yarnOf_15 : decode cX2_yarnOf 15 = .ok (.iload_n 0, 1) := by decide +kernel
theorem dX2_yarnOf_16 : decode cX2_yarnOf 16 = .ok (.iaload, 1) := by decide +kernel
theorem dX2_yarnOf_17 : decode cX2_yarnOf 17 = .ok (.goto 4, 3) := by decide +kernel
theorem dX2_yarnOf_20 : decode cX2_yarnOf 20 = .ok (.iconst 0, 1) := by decide +kernel
theorem dX2_yarnOf_21 : decode cX2_yarnOf 21 = .ok (.ireturn, 1) := by decide +kernel
theorem dX2_isUnder_0 : decode cX2_isUnder 0 = .ok (.iload_n 0, 1) := by decide +kernel
theorem dX2_isUnder_1 : decode cX2_isUnder 1 = .ok (.istore_n 2, 1) := by decide +kernel
theorem dX2_isUnder_2 : decode cX2_isUnder 2 = .ok (.iconst 0, 1) := by decide +kernel
theorem dX2_isUnder_3 : decode cX2_isUnder 3 = .ok (.istore_n 3, 1) := by decide +kernel
theorem dX2_isUnder_4 : decode cX2_isUnder 4 = .ok (.iload_n 3, 1) := by decide +kernel
theorem dX2_isUnder_5 : decode cX2_isUnder 5 = .ok (.iconst 4, 1) := by decide +kernel
theorem dX2_isUnder_6 : decode cX2_isUnder 6 = .ok (.if_icmp .ge 41, 3) := by decide +kernel
theorem dX2_isUnder_9 : decode cX2_isUnder 9 = .ok (.iload_n 2, 1) := by decide +kernel
theorem dX2_isUnder_10 : decode cX2_isUnder 10 = .ok (.invokestatic 21, 3) := by decide +kernel
theorem dX2_isUnder_13 : decode cX2_isUnder 13 = .ok (.ifCond .eq 34, 3) := by decide +kernel
theorem dX2_isUnder_16 : decode cX2_isUnder 16 = .ok (.iload_n 2, 1) := by decide +kernel
theorem dX2_isUnder_17 : decode cX2_isUnder 17 = .ok (.iload_n 1, 1) := by decide +kernel
theorem dX2_isUnder_18 : decode cX2_isUnder 18 = .ok (.if_icmp .ne 5, 3) := by decide +kernel
theorem dX2_isUnder_21 : decode cX2_isUnder 21 = .ok (.iconst 1, 1) := by decide +kernel
theorem dX2_isUnder_22 : decode cX2_isUnder 22 = .ok (.ireturn, 1) := by decide +kernel
theorem dX2_isUnder_23 : decode cX2_isUnder 23 = .ok (.iload_n 2, 1) := by decide +kernel
theorem dX2_isUnder_24 : decode cX2_isUnder 24 = .ok (.getstatic 25, 3) := by decide +kernel
theorem dX2_isUnder_27 : decode cX2_isUnder 27 = .ok (.arraylength, 1) := by decide +kernel
theorem dX2_isUnder_28 : decode cX2_isUnder 28 = .ok (.if_icmp .ge 11, 3) := by decide +kernel
theorem dX2_isUnder_31 : decode cX2_isUnder 31 = .ok (.getstatic 25, 3) := by decide +kernel
theorem dX2_isUnder_34 : decode cX2_isUnder 34 = .ok (.iload_n 2, 1) := by decide +kernel
theorem dX2_isUnder_35 : decode cX2_isUnder 35 = .ok (.iaload, 1) := by decide +kernel
theorem dX2_isUnder_36 : decode cX2_isUnder 36 = .ok (.goto 4, 3) := by decide +kernel
theorem dX2_isUnder_39 : decode cX2_isUnder 39 = .ok (.iconst (-1), 1) := by decide +kernel
theorem dX2_isUnder_40 : decode cX2_isUnder 40 = .ok (.istore_n 2, 1) := by decide +kernel
theorem dX2_isUnder_41 : decode cX2_isUnder 41 = .ok (.iinc 3 1, 3) := by decide +kernel
theorem dX2_isUnder_44 : decode cX2_isUnder 44 = .ok (.goto (-40), 3) := by decide +kernel
theorem dX2_isUnder_47 : decode cX2_isUnder 47 = .ok (.iconst 0, 1) := by decide +kernel
theorem dX2_isUnder_48 : decode cX2_isUnder 48 = .ok (.ireturn, 1) := by decide +kernel
theorem dX2_mirroredTo_0 : decode cX2_mirroredTo 0 = .ok (.iload_n 0, 1) := by decide +kernel
theorem dX2_mirroredTo_1 : decode cX2_mirroredTo 1 = .ok (.lookupswitch 33 #[(9, 27), (10, 30)], 27) := by decide +kernel
theorem dX2_mirroredTo_28 : decode cX2_mirroredTo 28 = .ok (.bipush 10, 2) := by decide +kernel
theorem dX2_mirroredTo_30 : decode cX2_mirroredTo 30 = .ok (.ireturn, 1) := by decide +kernel
theorem dX2_mirroredTo_31 : decode cX2_mirroredTo 31 = .ok (.bipush 9, 2) := by decide +kernel
theorem dX2_mirroredTo_33 : decode cX2_mirroredTo 33 = .ok (.ireturn, 1) := by decide +kernel
theorem dX2_mirroredTo_34 : decode cX2_mirroredTo 34 = .ok (.iload_n 0, 1) := by decide +kernel
theorem dX2_mirroredTo_35 : decode cX2_mirroredTo 35 = .ok (.ireturn, 1) := by decide +kernel
theorem dX2_turnedTo_0 : decode cX2_turnedTo 0 = .ok (.iload_n 0, 1) := by decide +kernel
theorem dX2_turnedTo_1 : decode cX2_turnedTo 1 = .ok (.lookupswitch 31 #[(4, 27), (5, 29)], 27) := by decide +kernel
theorem dX2_turnedTo_28 : decode cX2_turnedTo 28 = .ok (.iconst 5, 1) := by decide +kernel
theorem dX2_turnedTo_29 : decode cX2_turnedTo 29 = .ok (.ireturn, 1) := by decide +kernel
theorem dX2_turnedTo_30 : decode cX2_turnedTo 30 = .ok (.iconst 4, 1) := by decide +kernel
theorem dX2_turnedTo_31 : decode cX2_turnedTo 31 = .ok (.ireturn, 1) := by decide +kernel
theorem dX2_turnedTo_32 : decode cX2_turnedTo 32 = .ok (.iload_n 0, 1) := by decide +kernel
theorem dX2_turnedTo_33 : decode cX2_turnedTo 33 = .ok (.invokestatic 28, 3) := by decide +kernel
theorem dX2_turnedTo_36 : decode cX2_turnedTo 36 = .ok (.ireturn, 1) := by decide +kernel
theorem dX2_saying_0 : decode cX2_saying 0 = .ok (.iload_n 1, 1) := by decide +kernel
theorem dX2_saying_1 : decode cX2_saying 1 = .ok (.tableswitch 97 0 12 #[67, 72, 74, 79, 97, 97, 89, 91, 91, 97, 97, 93, 95], 67) := by decide +kernel
theorem dX2_saying_68 : decode cX2_saying 68 = .ok (.iload_n 0, 1) := by decide +kernel
theorem dX2_saying_69 : decode cX2_saying 69 = .ok (.invokestatic 32, 3) := by decide +kernel
theorem dX2_saying_72 : decode cX2_saying 72 = .ok (.ireturn, 1) := by decide +kernel
theorem dX2_saying_73 : decode cX2_saying 73 = .ok (.iconst 1, 1) := by decide +kernel
theorem dX2_saying_74 : decode cX2_saying 74 = .ok (.ireturn, 1) := by decide +kernel
theorem dX2_saying_75 : decode cX2_saying 75 = .ok (.iload_n 0, 1) := by decide +kernel
theorem dX2_saying_76 : decode cX2_saying 76 = .ok (.invokestatic 35, 3) := by decide +kernel
theorem dX2_saying_79 : decode cX2_saying 79 = .ok (.ireturn, 1) := by decide +kernel
theorem dX2_saying_80 : decode cX2_saying 80 = .ok (.iload_n 0, 1) := by decide +kernel
theorem dX2_saying_81 : decode cX2_saying 81 = .ok (.invokestatic 38, 3) := by decide +kernel
theorem dX2_saying_84 : decode cX2_saying 84 = .ok (.iload_n 0, 1) := by decide +kernel
theorem dX2_saying_85 : decode cX2_saying 85 = .ok (.invokestatic 35, 3) := by decide +kernel
theorem dX2_saying_88 : decode cX2_saying 88 = .ok (.isub, 1) := by decide +kernel
theorem dX2_saying_89 : decode cX2_saying 89 = .ok (.ireturn, 1) := by decide +kernel
theorem dX2_saying_90 : decode cX2_saying 90 = .ok (.iconst 4, 1) := by decide +kernel
theorem dX2_saying_91 : decode cX2_saying 91 = .ok (.ireturn, 1) := by decide +kernel
theorem dX2_saying_92 : decode cX2_saying 92 = .ok (.iload_n 0, 1) := by decide +kernel
theorem dX2_saying_93 : decode cX2_saying 93 = .ok (.ireturn, 1) := by decide +kernel
theorem dX2_saying_94 : decode cX2_saying 94 = .ok (.iconst 0, 1) := by decide +kernel
theorem dX2_saying_95 : decode cX2_saying 95 = .ok (.ireturn, 1) := by decide +kernel
theorem dX2_saying_96 : decode cX2_saying 96 = .ok (.iconst 2, 1) := by decide +kernel
theorem dX2_saying_97 : decode cX2_saying 97 = .ok (.ireturn, 1) := by decide +kernel
theorem dX2_saying_98 : decode cX2_saying 98 = .ok (.iload_n 0, 1) := by decide +kernel
theorem dX2_saying_99 : decode cX2_saying 99 = .ok (.invokestatic 41, 3) := by decide +kernel
theorem dX2_saying_102 : decode cX2_saying 102 = .ok (.ireturn, 1) := by decide +kernel
theorem dX2_wordOf_0 : decode cX2_wordOf 0 = .ok (.iload_n 0, 1) := by decide +kernel
theorem dX2_wordOf_1 : decode cX2_wordOf 1 = .ok (.tableswitch 78 4 12 #[51, 54, 57, 60, 63, 66, 69, 72, 75], 51) := by decide +kernel
theorem dX2_wordOf_52 : decode cX2_wordOf 52 = .ok (.ldc 44, 2) := by decide +kernel
theorem dX2_wordOf_54 : decode cX2_wordOf 54 = .ok (.areturn, 1) := by decide +kernel
theorem dX2_wordOf_55 : decode cX2_wordOf 55 = .ok (.ldc 46, 2) := by decide +kernel
theorem dX2_wordOf_57 : decode cX2_wordOf 57 = .ok (.areturn, 1) := by decide +kernel
theorem dX2_wordOf_58 : decode cX2_wordOf 58 = .ok (.ldc 48, 2) := by decide +kernel
theorem dX2_wordOf_60 : decode cX2_wordOf 60 = .ok (.areturn, 1) := by decide +kernel
theorem dX2_wordOf_61 : decode cX2_wordOf 61 = .ok (.ldc 50, 2) := by decide +kernel
theorem dX2_wordOf_63 : decode cX2_wordOf 63 = .ok (.areturn, 1) := by decide +kernel
theorem dX2_wordOf_64 : decode cX2_wordOf 64 = .ok (.ldc 52, 2) := by decide +kernel
theorem dX2_wordOf_66 : decode cX2_wordOf 66 = .ok (.areturn, 1) := by decide +kernel
theorem dX2_wordOf_67 : decode cX2_wordOf 67 = .ok (.ldc 54, 2) := by decide +kernel
theorem dX2_wordOf_69 : decode cX2_wordOf 69 = .ok (.areturn, 1) := by decide +kernel
theorem dX2_wordOf_70 : decode cX2_wordOf 70 = .ok (.ldc 56, 2) := by decide +kernel
theorem dX2_wordOf_72 : decode cX2_wordOf 72 = .ok (.areturn, 1) := by decide +kernel
theorem dX2_wordOf_73 : decode cX2_wordOf 73 = .ok (.ldc 58, 2) := by decide +kernel
theorem dX2_wordOf_75 : decode cX2_wordOf 75 = .ok (.areturn, 1) := by decide +kernel
theorem dX2_wordOf_76 : decode cX2_wordOf 76 = .ok (.ldc 60, 2) := by decide +kernel
theorem dX2_wordOf_78 : decode cX2_wordOf 78 = .ok (.areturn, 1) := by decide +kernel
theorem dX2_wordOf_79 : decode cX2_wordOf 79 = .ok (.ldc 62, 2) := by decide +kernel
theorem dX2_wordOf_81 : decode cX2_wordOf 81 = .ok (.areturn, 1) := by decide +kernel
theorem dX3_init_0 : decode cX3_init 0 = .ok (.aload_n 0, 1) := by decide +kernel
theorem dX3_init_1 : decode cX3_init 1 = .ok (.invokespecial 3, 3) := by decide +kernel
theorem dX3_init_4 : decode cX3_init 4 = .ok (.aload_n 0, 1) := by decide +kernel
theorem dX3_init_5 : decode cX3_init 5 = .ok (.iconst (-1), 1) := by decide +kernel
theorem dX3_init_6 : decode cX3_init 6 = .ok (.putfield 9, 3) := by decide +kernel
theorem dX3_init_9 : decode cX3_init 9 = .ok (.iconst 0, 1) := by decide +kernel
theorem dX3_init_10 : decode cX3_init 10 = .ok (.iload_n 2, 1) := by decide +kernel
theorem dX3_init_11 : decode cX3_init 11 = .ok (.aload_n 1, 1) := by decide +kernel
theorem dX3_init_12 : decode cX3_init 12 = .ok (.arraylength, 1) := by decide +kernel
theorem dX3_init_13 : decode cX3_init 13 = .ok (.invokestatic 15, 3) := by decide +kernel
theorem dX3_init_16 : decode cX3_init 16 = .ok (.invokestatic 21, 3) := by decide +kernel
theorem dX3_init_19 : decode cX3_init 19 = .ok (.istore_n 3, 1) := by decide +kernel
theorem dX3_init_20 : decode cX3_init 20 = .ok (.aload_n 0, 1) := by decide +kernel
theorem dX3_init_21 : decode cX3_init 21 = .ok (.aload_n 1, 1) := by decide +kernel
theorem dX3_init_22 : decode cX3_init 22 = .ok (.iload_n 3, 1) := by decide +kernel
theorem dX3_init_23 : decode cX3_init 23 = .ok (.invokestatic 24, 3) := by decide +kernel
theorem dX3_init_26 : decode cX3_init 26 = .ok (.putfield 30, 3) := by decide +kernel
theorem dX3_init_29 : decode cX3_init 29 = .ok (.aload_n 0, 1) := by decide +kernel
theorem dX3_init_30 : decode cX3_init 30 = .ok (.iload_n 3, 1) := by decide +kernel
theorem dX3_init_31 : decode cX3_init 31 = .ok (.newarray .int, 2) := by decide +kernel
theorem dX3_init_33 : decode cX3_init 33 = .ok (.putfield 34, 3) := by decide +kernel
theorem dX3_init_36 : decode cX3_init 36 = .ok (.aload_n 0, 1) := by decide +kernel
theorem dX3_init_37 : decode cX3_init 37 = .ok (.iload_n 3, 1) := by decide +kernel
theorem dX3_init_38 : decode cX3_init 38 = .ok (.newarray .int, 2) := by decide +kernel
theorem dX3_init_40 : decode cX3_init 40 = .ok (.putfield 37, 3) := by decide +kernel
theorem dX3_init_43 : decode cX3_init 43 = .ok (.aload_n 0, 1) := by decide +kernel
theorem dX3_init_44 : decode cX3_init 44 = .ok (.iload_n 3, 1) := by decide +kernel
theorem dX3_init_45 : decode cX3_init 45 = .ok (.newarray .int, 2) := by decide +kernel
theorem dX3_init_47 : decode cX3_init 47 = .ok (.putfield 40, 3) := by decide +kernel
theorem dX3_init_50 : decode cX3_init 50 = .ok (.aload_n 0, 1) := by decide +kernel
theorem dX3_init_51 : decode cX3_init 51 = .ok (.iload_n 3, 1) := by decide +kernel
theorem dX3_init_52 : decode cX3_init 52 = .ok (.newarray .int, 2) := by decide +kernel
theorem dX3_init_54 : decode cX3_init 54 = .ok (.putfield 43, 3) := by decide +kernel
theorem dX3_init_57 : decode cX3_init 57 = .ok (.return_, 1) := by decide +kernel
theorem dX3_size_0 : decode cX3_size 0 = .ok (.aload_n 0, 1) := by decide +kernel
theorem dX3_size_1 : decode cX3_size 1 = .ok (.getfield 30, 3) := by decide +kernel
theorem dX3_size_4 : decode cX3_size 4 = .ok (.arraylength, 1) := by decide +kernel
theorem dX3_size_5 : decode cX3_size 5 = .ok (.ireturn, 1) := by decide +kernel
theorem dX3_byteAt_0 : decode cX3_byteAt 0 = .ok (.iload_n 1, 1) := by decide +kernel
theorem dX3_byteAt_1 : decode cX3_byteAt 1 = .ok (.ifCond .lt 21, 3) := by decide +kernel
theorem dX3_byteAt_4 : decode cX3_byteAt 4 = .ok (.iload_n 1, 1) := by decide +kernel
theorem dX3_byteAt_5 : decode cX3_byteAt 5 = .ok (.aload_n 0, 1) := by decide +kernel
theorem dX3_byteAt_6 : decode cX3_byteAt 6 = .ok (.getfield 30, 3) := by decide +kernel
theorem dX3_byteAt_9 : decode cX3_byteAt 9 = .ok (.arraylength, 1) := by decide +kernel
theorem dX3_byteAt_10 : decode cX3_byteAt 10 = .ok (.if_icmp .ge 12, 3) := by decide +kernel
theorem dX3_byteAt_13 : decode cX3_byteAt 13 = .ok (.aload_n 0, 1) := by decide +kernel
theorem dX3_byteAt_14 : decode cX3_byteAt 14 = .ok (.getfield 30, 3) := by decide +kernel
theorem dX3_byteAt_17 : decode cX3_byteAt 17 = .ok (.iload_n 1, 1) := by decide +kernel
theorem dX3_byteAt_18 : decode cX3_byteAt 18 = .ok (.iaload, 1) := by decide +kernel
theorem dX3_byteAt_19 : decode cX3_byteAt 19 = .ok (.goto 4, 3) := by decide +kernel
theorem dX3_byteAt_22 : decode cX3_byteAt 22 = .ok (.iconst (-1), 1) := by decide +kernel
theorem dX3_byteAt_23 : decode cX3_byteAt 23 = .ok (.ireturn, 1) := by decide +kernel
theorem dX3_sortOf_0 : decode cX3_sortOf 0 = .ok (.iload_n 1, 1) := by decide +kernel
theorem dX3_sortOf_1 : decode cX3_sortOf 1 = .ok (.ifCond .lt 21, 3) := by decide +kernel
theorem dX3_sortOf_4 : decode cX3_sortOf 4 = .ok (.iload_n 1, 1) := by decide +kernel
theorem dX3_sortOf_5 : decode cX3_sortOf 5 = .ok (.aload_n 0, 1) := by decide +kernel
theorem dX3_sortOf_6 : decode cX3_sortOf 6 = .ok (.getfield 34, 3) := by decide +kernel
theorem dX3_sortOf_9 : decode cX3_sortOf 9 = .ok (.arraylength, 1) := by decide +kernel
theorem dX3_sortOf_10 : decode cX3_sortOf 10 = .ok (.if_icmp .ge 12, 3) := by decide +kernel
theorem dX3_sortOf_13 : decode cX3_sortOf 13 = .ok (.aload_n 0, 1) := by decide +kernel
theorem dX3_sortOf_14 : decode cX3_sortOf 14 = .ok (.getfield 34, 3) := by decide +kernel
theorem dX3_sortOf_17 : decode cX3_sortOf 17 = .ok (.iload_n 1, 1) := by decide +kernel
theorem dX3_sortOf_18 : decode cX3_sortOf 18 = .ok (.iaload, 1) := by decide +kernel
theorem dX3_sortOf_19 : decode cX3_sortOf 19 = .ok (.goto 4, 3) := by decide +kernel
theorem dX3_sortOf_22 : decode cX3_sortOf 22 = .ok (.iconst (-1), 1) := by decide +kernel
theorem dX3_sortOf_23 : decode cX3_sortOf 23 = .ok (.ireturn, 1) := by decide +kernel
theorem dX3_placeOf_0 : decode cX3_placeOf 0 = .ok (.iload_n 1, 1) := by decide +kernel
theorem dX3_placeOf_1 : decode cX3_placeOf 1 = .ok (.ifCond .lt 21, 3) := by decide +kernel
theorem dX3_placeOf_4 : decode cX3_placeOf 4 = .ok (.iload_n 1, 1) := by decide +kernel
theorem dX3_placeOf_5 : decode cX3_placeOf 5 = .ok (.aload_n 0, 1) := by decide +kernel
theorem dX3_placeOf_6 : decode cX3_placeOf 6 = .ok (.getfield 37, 3) := by decide +kernel
theorem dX3_placeOf_9 : decode cX3_placeOf 9 = .ok (.arraylength, 1) := by decide +kernel
theorem dX3_placeOf_10 : decode cX3_placeOf 10 = .ok (.if_icmp .ge 12, 3) := by decide +kernel
theorem dX3_placeOf_13 : decode cX3_placeOf 13 = .ok (.aload_n 0, 1) := by decide +kernel
theorem dX3_placeOf_14 : decode cX3_placeOf 14 = .ok (.getfield 37, 3) := by decide +kernel
theorem dX3_placeOf_17 : decode cX3_placeOf 17 = .ok (.iload_n 1, 1) := by decide +kernel
theorem dX3_placeOf_18 : decode cX3_placeOf 18 = .ok (.iaload, 1) := by decide +kernel
theorem dX3_placeOf_19 : decode cX3_placeOf 19 = .ok (.goto 4, 3) := by decide +kernel
theorem dX3_placeOf_22 : decode cX3_placeOf 22 = .ok (.iconst 0, 1) := by decide +kernel
theorem dX3_placeOf_23 : decode cX3_placeOf 23 = .ok (.ireturn, 1) := by decide +kernel
theorem dX3_numberOf_0 : decode cX3_numberOf 0 = .ok (.iload_n 1, 1) := by decide +kernel
theorem dX3_numberOf_1 : decode cX3_numberOf 1 = .ok (.ifCond .lt 21, 3) := by decide +kernel
theorem dX3_numberOf_4 : decode cX3_numberOf 4 = .ok (.iload_n 1, 1) := by decide +kernel
theorem dX3_numberOf_5 : decode cX3_numberOf 5 = .ok (.aload_n 0, 1) := by decide +kernel
theorem dX3_numberOf_6 : decode cX3_numberOf 6 = .ok (.getfield 40, 3) := by decide +kernel
theorem dX3_numberOf_9 : decode cX3_numberOf 9 = .ok (.arraylength, 1) := by decide +kernel
theorem dX3_numberOf_10 : decode cX3_numberOf 10 = .ok (.if_icmp .ge 12, 3) := by decide +kernel
theorem dX3_numberOf_13 : decode cX3_numberOf 13 = .ok (.aload_n 0, 1) := by decide +kernel
theorem dX3_numberOf_14 : decode cX3_numberOf 14 = .ok (.getfield 40, 3) := by decide +kernel
theorem dX3_numberOf_17 : decode cX3_numberOf 17 = .ok (.iload_n 1, 1) := by decide +kernel
theorem dX3_numberOf_18 : decode cX3_numberOf 18 = .ok (.iaload, 1) := by decide +kernel
theorem dX3_numberOf_19 : decode cX3_numberOf 19 = .ok (.goto 4, 3) := by decide +kernel
theorem dX3_numberOf_22 : decode cX3_numberOf 22 = .ok (.iconst 0, 1) := by decide +kernel
theorem dX3_numberOf_23 : decode cX3_numberOf 23 = .ok (.ireturn, 1) := by decide +kernel
theorem dX3_endOf_0 : decode cX3_endOf 0 = .ok (.iload_n 1, 1) := by decide +kernel
theorem dX3_endOf_1 : decode cX3_endOf 1 = .ok (.ifCond .lt 21, 3) := by decide +kernel
theorem dX3_endOf_4 : decode cX3_endOf 4 = .ok (.iload_n 1, 1) := by decide +kernel
theorem dX3_endOf_5 : decode cX3_endOf 5 = .ok (.aload_n 0, 1) := by decide +kernel
theorem dX3_endOf_6 : decode cX3_endOf 6 = .ok (.getfield 43, 3) := by decide +kernel
theorem dX3_endOf_9 : decode cX3_endOf 9 = .ok (.arraylength, 1) := by decide +kernel
theorem dX3_endOf_10 : decode cX3_endOf 10 = .ok (.if_icmp .ge 12, 3) := by decide +kernel
theorem dX3_endOf_13 : decode cX3_endOf 13 = .ok (.aload_n 0, 1) := by decide +kernel
theorem dX3_endOf_14 : decode cX3_endOf 14 = .ok (.getfield 43, 3) := by decide +kernel
theorem dX3_endOf_17 : decode cX3_endOf 17 = .ok (.iload_n 1, 1) := by decide +kernel
theorem dX3_endOf_18 : decode cX3_endOf 18 = .ok (.iaload, 1) := by decide +kernel
theorem dX3_endOf_19 : decode cX3_endOf 19 = .ok (.goto 7, 3) := by decide +kernel
theorem dX3_endOf_22 : decode cX3_endOf 22 = .ok (.aload_n 0, 1) := by decide +kernel
theorem dX3_endOf_23 : decode cX3_endOf 23 = .ok (.getfield 46, 3) := by decide +kernel
theorem dX3_endOf_26 : decode cX3_endOf 26 = .ok (.ireturn, 1) := by decide +kernel
theorem dX3_readText_0 : decode cX3_readText 0 = .ok (.aload_n 0, 1) := by decide +kernel
theorem dX3_readText_1 : decode cX3_readText 1 = .ok (.iconst 0, 1) := by decide +kernel
theorem dX3_readText_2 : decode cX3_readText 2 = .ok (.invokevirtual 49, 3) := by decide +kernel
theorem dX3_readText_5 : decode cX3_readText 5 = .ok (.aload_n 0, 1) := by decide +kernel
theorem dX3_readText_6 : decode cX3_readText 6 = .ok (.getfield 9, 3) := by decide +kernel
theorem dX3_readText_9 : decode cX3_readText 9 = .ok (.iconst (-1), 1) := by decide +kernel
theorem dX3_readText_10 : decode cX3_readText 10 = .ok (.if_icmp .ne 23, 3) := by decide +kernel
theorem dX3_readText_13 : decode cX3_readText 13 = .ok (.aload_n 0, 1) := by decide +kernel
theorem dX3_readText_14 : decode cX3_readText 14 = .ok (.getfield 53, 3) := by decide +kernel
theorem dX3_readText_17 : decode cX3_readText 17 = .ok (.aload_n 0, 1) := by decide +kernel
theorem dX3_readText_18 : decode cX3_readText 18 = .ok (.getfield 30, 3) := by decide +kernel
theorem dX3_readText_21 : decode cX3_readText 21 = .ok (.arraylength, 1) := by decide +kernel
theorem dX3_readText_22 : decode cX3_readText 22 = .ok (.if_icmp .ge 11, 3) := by decide +kernel
theorem dX3_readText_25 : decode cX3_readText 25 = .ok (.aload_n 0, 1) := by decide +kernel
theorem dX3_readText_26 : decode cX3_readText 26 = .ok (.aload_n 0, 1) := by decide +kernel
theorem dX3_readText_27 : decode cX3_readText 27 = .ok (.getfield 53, 3) := by decide +kernel
theorem dX3_readText_30 : decode cX3_readText 30 = .ok (.putfield 9, 3) := by decide +kernel
theorem dX3_readText_33 : decode cX3_readText 33 = .ok (.return_, 1) := by decide +kernel
theorem dX3_readParts_0 : decode cX3_readParts 0 = .ok (.aload_n 0, 1) := by decide +kernel
theorem dX3_readParts_1 : decode cX3_readParts 1 = .ok (.iload_n 1, 1) := by decide +kernel
theorem dX3_readParts_2 : decode cX3_readParts 2 = .ok (.invokevirtual 56, 3) := by decide +kernel
theorem dX3_readParts_5 : decode cX3_readParts 5 = .ok (.iconst 0, 1) := by decide +kernel
theorem dX3_readParts_6 : decode cX3_readParts 6 = .ok (.istore_n 2, 1) := by decide +kernel
theorem dX3_readParts_7 : decode cX3_readParts 7 = .ok (.iload_n 2, 1) := by decide +kernel
theorem dX3_readParts_8 : decode cX3_readParts 8 = .ok (.aload_n 0, 1) := by decide +kernel
theorem dX3_readParts_9 : decode cX3_readParts 9 = .ok (.getfield 30, 3) := by decide +kernel
theorem dX3_readParts_12 : decode cX3_readParts 12 = .ok (.arraylength, 1) := by decide +kernel
theorem dX3_readParts_13 : decode cX3_readParts 13 = .ok (.if_icmp .ge 46, 3) := by decide +kernel
theorem dX3_readParts_16 : decode cX3_readParts 16 = .ok (.aload_n 0, 1) := by decide +kernel
theorem dX3_readParts_17 : decode cX3_readParts 17 = .ok (.getfield 9, 3) := by decide +kernel
theorem dX3_readParts_20 : decode cX3_readParts 20 = .ok (.iconst (-1), 1) := by decide +kernel
theorem dX3_readParts_21 : decode cX3_readParts 21 = .ok (.if_icmp .ne 16, 3) := by decide +kernel
theorem dX3_readParts_24 : decode cX3_readParts 24 = .ok (.aload_n 0, 1) := by decide +kernel
theorem dX3_readParts_25 : decode cX3_readParts 25 = .ok (.aload_n 0, 1) := by decide +kernel
theorem dX3_readParts_26 : decode cX3_readParts 26 = .ok (.getfield 53, 3) := by decide +kernel
theorem dX3_readParts_29 : decode cX3_readParts 29 = .ok (.invokevirtual 59, 3) := by decide +kernel
theorem dX3_readParts_32 : decode cX3_readParts 32 = .ok (.bipush 44, 2) := by decide +kernel
theorem dX3_readParts_34 : decode cX3_readParts 34 = .ok (.if_icmp .eq 4, 3) := by decide +kernel
theorem dX3_readParts_37 : decode cX3_readParts 37 = .ok (.return_, 1) := by decide +kernel
theorem dX3_readParts_38 : decode cX3_readParts 38 = .ok (.aload_n 0, 1) := by decide +kernel
theorem dX3_readParts_39 : decode cX3_readParts 39 = .ok (.dup, 1) := by decide +kernel
theorem dX3_readParts_40 : decode cX3_readParts 40 = .ok (.getfield 53, 3) := by decide +kernel
theorem dX3_readParts_43 : decode cX3_readParts 43 = .ok (.iconst 1, 1) := by decide +kernel
theorem dX3_readParts_44 : decode cX3_readParts 44 = .ok (.iadd, 1) := by decide +kernel
theorem dX3_readParts_45 : decode cX3_readParts 45 = .ok (.putfield 53, 3) := by decide +kernel
theorem dX3_readParts_48 : decode cX3_readParts 48 = .ok (.aload_n 0, 1) := by decide +kernel
theorem dX3_readParts_49 : decode cX3_readParts 49 = .ok (.iload_n 1, 1) := by decide +kernel
theorem dX3_readParts_50 : decode cX3_readParts 50 = .ok (.invokevirtual 56, 3) := by decide +kernel
theorem dX3_readParts_53 : decode cX3_readParts 53 = .ok (.iinc 2 1, 3) := by decide +kernel
theorem dX3_readParts_56 : decode cX3_readParts 56 = .ok (.goto (-49), 3) := by decide +kernel
theorem dX3_readParts_59 : decode cX3_readParts 59 = .ok (.return_, 1) := by decide +kernel
theorem dX3_readPart_0 : decode cX3_readPart 0 = .ok (.aload_n 0, 1) := by decide +kernel
theorem dX3_readPart_1 : decode cX3_readPart 1 = .ok (.aload_n 0, 1) := by decide +kernel
theorem dX3_readPart_2 : decode cX3_readPart 2 = .ok (.getfield 53, 3) := by decide +kernel
theorem dX3_readPart_5 : decode cX3_readPart 5 = .ok (.invokevirtual 59, 3) := by decide +kernel
theorem dX3_readPart_8 : decode cX3_readPart 8 = .ok (.istore_n 2, 1) := by decide +kernel
theorem dX3_readPart_9 : decode cX3_readPart 9 = .ok (.iload_n 2, 1) := by decide +kernel
theorem dX3_readPart_10 : decode cX3_readPart 10 = .ok (.invokestatic 63, 3) := by decide +kernel
theorem dX3_readPart_13 : decode cX3_readPart 13 = .ok (.ifCond .eq 11, 3) := by decide +kernel
theorem dX3_readPart_16 : decode cX3_readPart 16 = .ok (.aload_n 0, 1) := by decide +kernel
theorem dX3_readPart_17 : decode cX3_readPart 17 = .ok (.iload_n 1, 1) := by decide +kernel
theorem dX3_readPart_18 : decode cX3_readPart 18 = .ok (.invokevirtual 67, 3) := by decide +kernel
theorem dX3_readPart_21 : decode cX3_readPart 21 = .ok (.goto 52, 3) := by decide +kernel
theorem dX3_readPart_24 : decode cX3_readPart 24 = .ok (.iload_n 2, 1) := by decide +kernel
theorem dX3_readPart_25 : decode cX3_readPart 25 = .ok (.bipush 40, 2) := by decide +kernel
theorem dX3_readPart_27 : decode cX3_readPart 27 = .ok (.if_icmp .ne 15, 3) := by decide +kernel
theorem dX3_readPart_30 : decode cX3_readPart 30 = .ok (.aload_n 0, 1) := by decide +kernel
theorem dX3_readPart_31 : decode cX3_readPart 31 = .ok (.iconst 1, 1) := by decide +kernel
theorem dX3_readPart_32 : decode cX3_readPart 32 = .ok (.bipush 41, 2) := by decide +kernel
theorem dX3_readPart_34 : decode cX3_readPart 34 = .ok (.iconst 1, 1) := by decide +kernel
theorem dX3_readPart_35 : decode cX3_readPart 35 = .ok (.iload_n 1, 1) := by decide +kernel
theorem dX3_readPart_36 : decode cX3_readPart 36 = .ok (.invokevirtual 70, 3) := by decide +kernel
theorem dX3_readPart_39 : decode cX3_readPart 39 = .ok (.goto 34, 3) := by decide +kernel
theorem dX3_readPart_42 : decode cX3_readPart 42 = .ok (.iload_n 2, 1) := by decide +kernel
theorem dX3_readPart_43 : decode cX3_readPart 43 = .ok (.bipush 60, 2) := by decide +kernel
theorem dX3_readPart_45 : decode cX3_readPart 45 = .ok (.if_icmp .ne 20, 3) := by decide +kernel
theorem dX3_readPart_48 : decode cX3_readPart 48 = .ok (.aload_n 0, 1) := by decide +kernel
theorem dX3_readPart_49 : decode cX3_readPart 49 = .ok (.iconst 1, 1) := by decide +kernel
theorem dX3_readPart_50 : decode cX3_readPart 50 = .ok (.putfield 74, 3) := by decide +kernel
theorem dX3_readPart_53 : decode cX3_readPart 53 = .ok (.aload_n 0, 1) := by decide +kernel
theorem dX3_readPart_54 : decode cX3_readPart 54 = .ok (.iconst 2, 1) := by decide +kernel
theorem dX3_readPart_55 : decode cX3_readPart 55 = .ok (.bipush 62, 2) := by decide +kernel
theorem dX3_readPart_57 : decode cX3_readPart 57 = .ok (.iconst 0, 1) := by decide +kernel
theorem dX3_readPart_58 : decode cX3_readPart 58 = .ok (.iload_n 1, 1) := by decide +kernel
theorem dX3_readPart_59 : decode cX3_readPart 59 = .ok (.invokevirtual 70, 3) := by decide +kernel
theorem dX3_readPart_62 : decode cX3_readPart 62 = .ok (.goto 11, 3) := by decide +kernel
theorem dX3_readPart_65 : decode cX3_readPart 65 = .ok (.aload_n 0, 1) := by decide +kernel
theorem dX3_readPart_66 : decode cX3_readPart 66 = .ok (.aload_n 0, 1) := by decide +kernel
theorem dX3_readPart_67 : decode cX3_readPart 67 = .ok (.getfield 53, 3) := by decide +kernel
theorem dX3_readPart_70 : decode cX3_readPart 70 = .ok (.putfield 9, 3) := by decide +kernel
theorem dX3_readPart_73 : decode cX3_readPart 73 = .ok (.return_, 1) := by decide +kernel
theorem dX3_readWord_0 : decode cX3_readWord 0 = .ok (.aload_n 0, 1) := by decide +kernel
theorem dX3_readWord_1 : decode cX3_readWord 1 = .ok (.getfield 53, 3) := by decide +kernel
theorem dX3_readWord_4 : decode cX3_readWord 4 = .ok (.istore_n 2, 1) := by decide +kernel
theorem dX3_readWord_5 : decode cX3_readWord 5 = .ok (.aload_n 0, 1) := by decide +kernel
theorem dX3_readWord_6 : decode cX3_readWord 6 = .ok (.getfield 53, 3) := by decide +kernel
theorem dX3_readWord_9 : decode cX3_readWord 9 = .ok (.aload_n 0, 1) := by decide +kernel
theorem dX3_readWord_10 : decode cX3_readWord 10 = .ok (.getfield 30, 3) := by decide +kernel
theorem dX3_readWord_13 : decode cX3_readWord 13 = .ok (.arraylength, 1) := by decide +kernel
theorem dX3_readWord_14 : decode cX3_readWord 14 = .ok (.if_icmp .ge 30, 3) := by decide +kernel
theorem dX3_readWord_17 : decode cX3_readWord 17 = .ok (.aload_n 0, 1) := by decide +kernel
theorem dX3_readWord_18 : decode cX3_readWord 18 = .ok (.aload_n 0, 1) := by decide +kernel
theorem dX3_readWord_19 : decode cX3_readWord 19 = .ok (.getfield 53, 3) := by decide +kernel
theorem dX3_readWord_22 : decode cX3_readWord 22 = .ok (.invokevirtual 59, 3) := by decide +kernel
theorem dX3_readWord_25 : decode cX3_readWord 25 = .ok (.invokestatic 63, 3) := by decide +kernel
theorem dX3_readWord_28 : decode cX3_readWord 28 = .ok (.ifCond .eq 16, 3) := by decide +kernel
theorem dX3_readWord_31 : decode cX3_readWord 31 = .ok (.aload_n 0, 1) := by decide +kernel
theorem dX3_readWord_32 : decode cX3_readWord 32 = .ok (.dup, 1) := by decide +kernel
theorem dX3_readWord_33 : decode cX3_readWord 33 = .ok (.getfield 53, 3) := by decide +kernel
theorem dX3_readWord_36 : decode cX3_readWord 36 = .ok (.iconst 1, 1) := by decide +kernel
theorem dX3_readWord_37 : decode cX3_readWord 37 = .ok (.iadd, 1) := by decide +kernel
theorem dX3_readWord_38 : decode cX3_readWord 38 = .ok (.putfield 53, 3) := by decide +kernel
theorem dX3_readWord_41 : decode cX3_readWord 41 = .ok (.goto (-36), 3) := by decide +kernel
theorem dX3_readWord_44 : decode cX3_readWord 44 = .ok (.aload_n 0, 1) := by decide +kernel
theorem dX3_readWord_45 : decode cX3_readWord 45 = .ok (.iload_n 2, 1) := by decide +kernel
theorem dX3_readWord_46 : decode cX3_readWord 46 = .ok (.aload_n 0, 1) := by decide +kernel
theorem dX3_readWord_47 : decode cX3_readWord 47 = .ok (.getfield 53, 3) := by decide +kernel
theorem dX3_readWord_50 : decode cX3_readWord 50 = .ok (.invokevirtual 78, 3) := by decide +kernel
theorem dX3_readWord_53 : decode cX3_readWord 53 = .ok (.istore_n 3, 1) := by decide +kernel
theorem dX3_readWord_54 : decode cX3_readWord 54 = .ok (.iload_n 3, 1) := by decide +kernel
theorem dX3_readWord_55 : decode cX3_readWord 55 = .ok (.iconst (-1), 1) := by decide +kernel
theorem dX3_readWord_56 : decode cX3_readWord 56 = .ok (.if_icmp .ne 9, 3) := by decide +kernel
theorem dX3_readWord_59 : decode cX3_readWord 59 = .ok (.aload_n 0, 1) := by decide +kernel
theorem dX3_readWord_60 : decode cX3_readWord 60 = .ok (.iload_n 2, 1) := by decide +kernel
theorem dX3_readWord_61 : decode cX3_readWord 61 = .ok (.putfield 9, 3) := by decide +kernel
theorem dX3_readWord_64 : decode cX3_readWord 64 = .ok (.return_, 1) := by decide +kernel
theorem dX3_readWord_65 : decode cX3_readWord 65 = .ok (.aload_n 0, 1) := by decide +kernel
theorem dX3_readWord_66 : decode cX3_readWord 66 = .ok (.iload_n 3, 1) := by decide +kernel
theorem dX3_readWord_67 : decode cX3_readWord 67 = .ok (.iload_n 2, 1) := by decide +kernel
theorem dX3_readWord_68 : decode cX3_readWord 68 = .ok (.iload_n 1, 1) := by decide +kernel
theorem dX3_readWord_69 : decode cX3_readWord 69 = .ok (.invokevirtual 81, 3) := by decide +kernel
theorem dX3_readWord_72 : decode cX3_readWord 72 = .ok (.istore 4, 2) := by decide +kernel
theorem dX3_readWord_74 : decode cX3_readWord 74 = .ok (.aload_n 0, 1) := by decide +kernel
theorem dX3_readWord_75 : decode cX3_readWord 75 = .ok (.iload 4, 2) := by decide +kernel
theorem dX3_readWord_77 : decode cX3_readWord 77 = .ok (.aload_n 0, 1) := by decide +kernel
theorem dX3_readWord_78 : decode cX3_readWord 78 = .ok (.aload_n 0, 1) := by decide +kernel
theorem dX3_readWord_79 : decode cX3_readWord 79 = .ok (.getfield 53, 3) := by decide +kernel
theorem dX3_readWord_82 : decode cX3_readWord 82 = .ok (.invokevirtual 59, 3) := by decide +kernel
theorem dX3_readWord_85 : decode cX3_readWord 85 = .ok (.invokestatic 85, 3) := by decide +kernel
theorem dX3_readWord_88 : decode cX3_readWord 88 = .ok (.ifCond .eq 11, 3) := by decide +kernel
theorem dX3_readWord_91 : decode cX3_readWord 91 = .ok (.aload_n 0, 1) := by decide +kernel
theorem dX3_readWord_92 : decode cX3_readWord 92 = .ok (.iconst 1, 1) := by decide +kernel
theorem dX3_readWord_93 : decode cX3_readWord 93 = .ok (.invokevirtual 88, 3) := by decide +kernel
theorem dX3_readWord_96 : decode cX3_readWord 96 = .ok (.goto 4, 3) := by decide +kernel
theorem dX3_readWord_99 : decode cX3_readWord 99 = .ok (.iconst 1, 1) := by decide +kernel
theorem dX3_readWord_100 : decode cX3_readWord 100 = .ok (.invokevirtual 91, 3) := by decide +kernel
theorem dX3_readWord_103 : decode cX3_readWord 103 = .ok (.return_, 1) := by decide +kernel
theorem dX3_readGroup_0 : decode cX3_readGroup 0 = .ok (.iload 4, 2) := by decide +kernel
theorem dX3_readGroup_2 : decode cX3_readGroup 2 = .ok (.iconst 4, 1) := by decide +kernel
theorem dX3_readGroup_3 : decode cX3_readGroup 3 = .ok (.if_icmp .le 12, 3) := by decide +kernel
theorem dX3_readGroup_6 : decode cX3_readGroup 6 = .ok (.aload_n 0, 1) := by decide +kernel
theorem dX3_readGroup_7 : decode cX3_readGroup 7 = .ok (.aload_n 0, 1) := by decide +kernel
theorem dX3_readGroup_8 : decode cX3_readGroup 8 = .ok (.getfield 53, 3) := by decide +kernel
theorem dX3_readGroup_11 : decode cX3_readGroup 11 = .ok (.putfield 9, 3) := by decide +kernel
theorem dX3_readGroup_14 : decode cX3_readGroup 14 = .ok (.return_, 1) := by decide +kernel
theorem dX3_readGroup_15 : decode cX3_readGroup 15 = .ok (.aload_n 0, 1) := by decide +kernel
theorem dX3_readGroup_16 : decode cX3_readGroup 16 = .ok (.iload_n 1, 1) := by decide +kernel
theorem dX3_readGroup_17 : decode cX3_readGroup 17 = .ok (.aload_n 0, 1) := by decide +kernel
theorem dX3_readGroup_18 : decode cX3_readGroup 18 = .ok (.getfield 53, 3) := by decide +kernel
theorem dX3_readGroup_21 : decode cX3_readGroup 21 = .ok (.iload 4, 2) := by decide +kernel
theorem dX3_readGroup_23 : decode cX3_readGroup 23 = .ok (.invokevirtual 81, 3) := by decide +kernel
theorem dX3_readGroup_26 : decode cX3_readGroup 26 = .ok (.istore 5, 2) := by decide +kernel
theorem dX3_readGroup_28 : decode cX3_readGroup 28 = .ok (.aload_n 0, 1) := by decide +kernel
theorem dX3_readGroup_29 : decode cX3_readGroup 29 = .ok (.dup, 1) := by decide +kernel
theorem dX3_readGroup_30 : decode cX3_readGroup 30 = .ok (.getfield 53, 3) := by decide +kernel
theorem dX3_readGroup_33 : decode cX3_readGroup 33 = .ok (.iconst 1, 1) := by decide +kernel
theorem dX3_readGroup_34 : decode cX3_readGroup 34 = .ok (.iadd, 1) := by decide +kernel
theorem dX3_readGroup_35 : decode cX3_readGroup 35 = .ok (.putfield 53, 3) := by decide +kernel
theorem dX3_readGroup_38 : decode cX3_readGroup 38 = .ok (.aload_n 0, 1) := by decide +kernel
theorem dX3_readGroup_39 : decode cX3_readGroup 39 = .ok (.iload 4, 2) := by decide +kernel
theorem dX3_readGroup_41 : decode cX3_readGroup 41 = .ok (.iconst 1, 1) := by decide +kernel
theorem dX3_readGroup_42 : decode cX3_readGroup 42 = .ok (.iadd, 1) := by decide +kernel
theorem dX3_readGroup_43 : decode cX3_readGroup 43 = .ok (.invokevirtual 49, 3) := by decide +kernel
theorem dX3_readGroup_46 : decode cX3_readGroup 46 = .ok (.aload_n 0, 1) := by decide +kernel
theorem dX3_readGroup_47 : decode cX3_readGroup 47 = .ok (.getfield 9, 3) := by decide +kernel
theorem dX3_readGroup_50 : decode cX3_readGroup 50 = .ok (.iconst (-1), 1) := by decide +kernel
theorem dX3_readGroup_51 : decode cX3_readGroup 51 = .ok (.if_icmp .eq 4, 3) := by decide +kernel
theorem dX3_readGroup_54 : decode cX3_readGroup 54 = .ok (.return_, 1) := by decide +kernel
theorem dX3_readGroup_55 : decode cX3_readGroup 55 = .ok (.aload_n 0, 1) := by decide +kernel
theorem dX3_readGroup_56 : decode cX3_readGroup 56 = .ok (.aload_n 0, 1) := by decide +kernel
theorem dX3_readGroup_57 : decode cX3_readGroup 57 = .ok (.getfield 53, 3) := by decide +kernel
theorem dX3_readGroup_60 : decode cX3_readGroup 60 = .ok (.invokevirtual 59, 3) := by decide +kernel
theorem dX3_readGroup_63 : decode cX3_readGroup 63 = .ok (.iload_n 2, 1) := by decide +kernel
theorem dX3_readGroup_64 : decode cX3_readGroup 64 = .ok (.if_icmp .eq 12, 3) := by decide +kernel
theorem dX3_readGroup_67 : decode cX3_readGroup 67 = .ok (.aload_n 0, 1) := by decide +kernel
theorem dX3_readGroup_68 : decode cX3_readGroup 68 = .ok (.aload_n 0, 1) := by decide +kernel
theorem dX3_readGroup_69 : decode cX3_readGroup 69 = .ok (.getfield 53, 3) := by decide +kernel
theorem dX3_readGroup_72 : decode cX3_readGroup 72 = .ok (.putfield 9, 3) := by decide +kernel
theorem dX3_readGroup_75 : decode cX3_readGroup 75 = .ok (.return_, 1) := by decide +kernel
theorem dX3_readGroup_76 : decode cX3_readGroup 76 = .ok (.aload_n 0, 1) := by decide +kernel
theorem dX3_readGroup_77 : decode cX3_readGroup 77 = .ok (.dup, 1) := by decide +kernel
theorem dX3_readGroup_78 : decode cX3_readGroup 78 = .ok (.getfield 53, 3) := by decide +kernel
theorem dX3_readGroup_81 : decode cX3_readGroup 81 = .ok (.iconst 1, 1) := by decide +kernel
theorem dX3_readGroup_82 : decode cX3_readGroup 82 = .ok (.iadd, 1) := by decide +kernel
theorem dX3_readGroup_83 : decode cX3_readGroup 83 = .ok (.putfield 53, 3) := by decide +kernel
theorem dX3_readGroup_86 : decode cX3_readGroup 86 = .ok (.aload_n 0, 1) := by decide +kernel
theorem dX3_readGroup_87 : decode cX3_readGroup 87 = .ok (.iload 5, 2) := by decide +kernel
theorem dX3_readGroup_89 : decode cX3_readGroup 89 = .ok (.aload_n 0, 1) := by decide +kernel
theorem dX3_readGroup_90 : decode cX3_readGroup 90 = .ok (.iload_n 3, 1) := by decide +kernel
theorem dX3_readGroup_91 : decode cX3_readGroup 91 = .ok (.invokevirtual 88, 3) := by decide +kernel
theorem dX3_readGroup_94 : decode cX3_readGroup 94 = .ok (.invokevirtual 91, 3) := by decide +kernel
theorem dX3_readGroup_97 : decode cX3_readGroup 97 = .ok (.return_, 1) := by decide +kernel
theorem dX3_readNumber_0 : decode cX3_readNumber 0 = .ok (.aload_n 0, 1) := by decide +kernel
theorem dX3_readNumber_1 : decode cX3_readNumber 1 = .ok (.getfield 53, 3) := by decide +kernel
theorem dX3_readNumber_4 : decode cX3_readNumber 4 = .ok (.istore_n 2, 1) := by decide +kernel
theorem dX3_readNumber_5 : decode cX3_readNumber 5 = .ok (.iconst 0, 1) := by decide +kernel
theorem dX3_readNumber_6 : decode cX3_readNumber 6 = .ok (.istore_n 3, 1) := by decide +kernel
theorem dX3_readNumber_7 : decode cX3_readNumber 7 = .ok (.aload_n 0, 1) := by decide +kernel
theorem dX3_readNumber_8 : decode cX3_readNumber 8 = .ok (.getfield 53, 3) := by decide +kernel
theorem dX3_readNumber_11 : decode cX3_readNumber 11 = .ok (.iload_n 2, 1) := by decide +kernel
theorem dX3_readNumber_12 : decode cX3_readNumber 12 = .ok (.iconst 2, 1) := by decide +kernel
theorem dX3_readNumber_13 : decode cX3_readNumber 13 = .ok (.iadd, 1) := by decide +kernel
theorem dX3_readNumber_14 : decode cX3_readNumber 14 = .ok (.if_icmp .ge 47, 3) := by decide +kernel
theorem dX3_readNumber_17 : decode cX3_readNumber 17 = .ok (.aload_n 0, 1) := by decide +kernel
theorem dX3_readNumber_18 : decode cX3_readNumber 18 = .ok (.aload_n 0, 1) := by decide +kernel
theorem dX3_readNumber_19 : decode cX3_readNumber 19 = .ok (.getfield 53, 3) := by decide +kernel
theorem dX3_readNumber_22 : decode cX3_readNumber 22 = .ok (.invokevirtual 59, 3) := by decide +kernel
theorem dX3_readNumber_25 : decode cX3_readNumber 25 = .ok (.invokestatic 85, 3) := by decide +kernel
theorem dX3_readNumber_28 : decode cX3_readNumber 28 = .ok (.ifCond .eq 33, 3) := by decide +kernel
theorem dX3_readNumber_31 : decode cX3_readNumber 31 = .ok (.iload_n 3, 1) := by decide +kernel
theorem dX3_readNumber_32 : decode cX3_readNumber 32 = .ok (.bipush 10, 2) := by decide +kernel
theorem dX3_readNumber_34 : decode cX3_readNumber 34 = .ok (.imul, 1) := by decide +kernel
theorem dX3_readNumber_35 : decode cX3_readNumber 35 = .ok (.aload_n 0, 1) := by decide +kernel
theorem dX3_readNumber_36 : decode cX3_readNumber 36 = .ok (.aload_n 0, 1) := by decide +kernel
theorem dX3_readNumber_37 : decode cX3_readNumber 37 = .ok (.getfield 53, 3) := by decide +kernel
theorem dX3_readNumber_40 : decode cX3_readNumber 40 = .ok (.invokevirtual 59, 3) := by decide +kernel
theorem dX3_readNumber_43 : decode cX3_readNumber 43 = .ok (.iadd, 1) := by decide +kernel
theorem dX3_readNumber_44 : decode cX3_readNumber 44 = .ok (.bipush 48, 2) := by decide +kernel
theorem dX3_readNumber_46 : decode cX3_readNumber 46 = .ok (.isub, 1) := by decide +kernel
theorem dX3_readNumber_47 : decode cX3_readNumber 47 = .ok (.istore_n 3, 1) := by decide +kernel
theorem dX3_readNumber_48 : decode cX3_readNumber 48 = .ok (.aload_n 0, 1) := by decide +kernel
theorem dX3_readNumber_49 : decode cX3_readNumber 49 = .ok (.dup, 1) := by decide +kernel
theorem dX3_readNumber_50 : decode cX3_readNumber 50 = .ok (.getfield 53, 3) := by decide +kernel
theorem dX3_readNumber_53 : decode cX3_readNumber 53 = .ok (.iconst 1, 1) := by decide +kernel
theorem dX3_readNumber_54 : decode cX3_readNumber 54 = .ok (.iadd, 1) := by decide +kernel
theorem dX3_readNumber_55 : decode cX3_readNumber 55 = .ok (.putfield 53, 3) := by decide +kernel
theorem dX3_readNumber_58 : decode cX3_readNumber 58 = .ok (.goto (-51), 3) := by decide +kernel
theorem dX3_readNumber_61 : decode cX3_readNumber 61 = .ok (.aload_n 0, 1) := by decide +kernel
theorem dX3_readNumber_62 : decode cX3_readNumber 62 = .ok (.getfield 53, 3) := by decide +kernel
theorem dX3_readNumber_65 : decode cX3_readNumber 65 = .ok (.iload_n 2, 1) := by decide +kernel
theorem dX3_readNumber_66 : decode cX3_readNumber 66 = .ok (.if_icmp .eq 14, 3) := by decide +kernel
theorem dX3_readNumber_69 : decode cX3_readNumber 69 = .ok (.iload_n 3, 1) := by decide +kernel
theorem dX3_readNumber_70 : decode cX3_readNumber 70 = .ok (.iload_n 1, 1) := by decide +kernel
theorem dX3_readNumber_71 : decode cX3_readNumber 71 = .ok (.if_icmp .lt 9, 3) := by decide +kernel
theorem dX3_readNumber_74 : decode cX3_readNumber 74 = .ok (.iload_n 3, 1) := by decide +kernel
theorem dX3_readNumber_75 : decode cX3_readNumber 75 = .ok (.bipush 60, 2) := by decide +kernel
theorem dX3_readNumber_77 : decode cX3_readNumber 77 = .ok (.if_icmp .le 8, 3) := by decide +kernel
theorem dX3_readNumber_80 : decode cX3_readNumber 80 = .ok (.aload_n 0, 1) := by decide +kernel
theorem dX3_readNumber_81 : decode cX3_readNumber 81 = .ok (.iload_n 2, 1) := by decide +kernel
theorem dX3_readNumber_82 : decode cX3_readNumber 82 = .ok (.putfield 9, 3) := by decide +kernel
theorem dX3_readNumber_85 : decode cX3_readNumber 85 = .ok (.iload_n 3, 1) := by decide +kernel
theorem dX3_readNumber_86 : decode cX3_readNumber 86 = .ok (.ireturn, 1) := by decide +kernel
theorem dX3_openPart_0 : decode cX3_openPart 0 = .ok (.aload_n 0, 1) := by decide +kernel
theorem dX3_openPart_1 : decode cX3_openPart 1 = .ok (.getfield 46, 3) := by decide +kernel
theorem dX3_openPart_4 : decode cX3_openPart 4 = .ok (.istore 4, 2) := by decide +kernel
theorem dX3_openPart_6 : decode cX3_openPart 6 = .ok (.iload 4, 2) := by decide +kernel
theorem dX3_openPart_8 : decode cX3_openPart 8 = .ok (.ifCond .lt 49, 3) := by decide +kernel
theorem dX3_openPart_11 : decode cX3_openPart 11 = .ok (.iload 4, 2) := by decide +kernel
theorem dX3_openPart_13 : decode cX3_openPart 13 = .ok (.aload_n 0, 1) := by decide +kernel
theorem dX3_openPart_14 : decode cX3_openPart 14 = .ok (.getfield 34, 3) := by decide +kernel
theorem dX3_openPart_17 : decode cX3_openPart 17 = .ok (.arraylength, 1) := by decide +kernel
theorem dX3_openPart_18 : decode cX3_openPart 18 = .ok (.if_icmp .ge 39, 3) := by decide +kernel
theorem dX3_openPart_21 : decode cX3_openPart 21 = .ok (.iload 4, 2) := by decide +kernel
theorem dX3_openPart_23 : decode cX3_openPart 23 = .ok (.aload_n 0, 1) := by decide +kernel
theorem dX3_openPart_24 : decode cX3_openPart 24 = .ok (.getfield 37, 3) := by decide +kernel
theorem dX3_openPart_27 : decode cX3_openPart 27 = .ok (.arraylength, 1) := by decide +kernel
theorem dX3_openPart_28 : decode cX3_openPart 28 = .ok (.if_icmp .ge 29, 3) := by decide +kernel
theorem dX3_openPart_31 : decode cX3_openPart 31 = .ok (.aload_n 0, 1) := by decide +kernel
theorem dX3_openPart_32 : decode cX3_openPart 32 = .ok (.getfield 34, 3) := by decide +kernel
theorem dX3_openPart_35 : decode cX3_openPart 35 = .ok (.iload 4, 2) := by decide +kernel
theorem dX3_openPart_37 : decode cX3_openPart 37 = .ok (.iload_n 1, 1) := by decide +kernel
theorem dX3_openPart_38 : decode cX3_openPart 38 = .ok (.iastore, 1) := by decide +kernel
theorem dX3_openPart_39 : decode cX3_openPart 39 = .ok (.aload_n 0, 1) := by decide +kernel
theorem dX3_openPart_40 : decode cX3_openPart 40 = .ok (.getfield 37, 3) := by decide +kernel
theorem dX3_openPart_43 : decode cX3_openPart 43 = .ok (.iload 4, 2) := by decide +kernel
theorem dX3_openPart_45 : decode cX3_openPart 45 = .ok (.iload_n 2, 1) := by decide +kernel
theorem dX3_openPart_46 : decode cX3_openPart 46 = .ok (.iastore, 1) := by decide +kernel
theorem dX3_openPart_47 : decode cX3_openPart 47 = .ok (.aload_n 0, 1) := by decide +kernel
theorem dX3_openPart_48 : decode cX3_openPart 48 = .ok (.dup, 1) := by decide +kernel
theorem dX3_openPart_49 : decode cX3_openPart 49 = .ok (.getfield 46, 3) := by decide +kernel
theorem dX3_openPart_52 : decode cX3_openPart 52 = .ok (.iconst 1, 1) := by decide +kernel
theorem dX3_openPart_53 : decode cX3_openPart 53 = .ok (.iadd, 1) := by decide +kernel
theorem dX3_openPart_54 : decode cX3_openPart 54 = .ok (.putfield 46, 3) := by decide +kernel
theorem dX3_openPart_57 : decode cX3_openPart 57 = .ok (.aload_n 0, 1) := by decide +kernel
theorem dX3_openPart_58 : decode cX3_openPart 58 = .ok (.aload_n 0, 1) := by decide +kernel
theorem dX3_openPart_59 : decode cX3_openPart 59 = .ok (.getfield 95, 3) := by decide +kernel
theorem dX3_openPart_62 : decode cX3_openPart 62 = .ok (.iload_n 3, 1) := by decide +kernel
theorem dX3_openPart_63 : decode cX3_openPart 63 = .ok (.invokestatic 21, 3) := by decide +kernel
theorem dX3_openPart_66 : decode cX3_openPart 66 = .ok (.putfield 95, 3) := by decide +kernel
theorem dX3_openPart_69 : decode cX3_openPart 69 = .ok (.iload 4, 2) := by decide +kernel
theorem dX3_openPart_71 : decode cX3_openPart 71 = .ok (.ireturn, 1) := by decide +kernel
theorem dX3_closePart_0 : decode cX3_closePart 0 = .ok (.iload_n 1, 1) := by decide +kernel
theorem dX3_closePart_1 : decode cX3_closePart 1 = .ok (.ifCond .lt 38, 3) := by decide +kernel
theorem dX3_closePart_4 : decode cX3_closePart 4 = .ok (.iload_n 1, 1) := by decide +kernel
theorem dX3_closePart_5 : decode cX3_closePart 5 = .ok (.aload_n 0, 1) := by decide +kernel
theorem dX3_closePart_6 : decode cX3_closePart 6 = .ok (.getfield 40, 3) := by decide +kernel
theorem dX3_closePart_9 : decode cX3_closePart 9 = .ok (.arraylength, 1) := by decide +kernel
theorem dX3_closePart_10 : decode cX3_closePart 10 = .ok (.if_icmp .ge 29, 3) := by decide +kernel
theorem dX3_closePart_13 : decode cX3_closePart 13 = .ok (.iload_n 1, 1) := by decide +kernel
theorem dX3_closePart_14 : decode cX3_closePart 14 = .ok (.aload_n 0, 1) := by decide +kernel
theorem dX3_closePart_15 : decode cX3_closePart 15 = .ok (.getfield 43, 3) := by decide +kernel
theorem dX3_closePart_18 : decode cX3_closePart 18 = .ok (.arraylength, 1) := by decide +kernel
theorem dX3_closePart_19 : decode cX3_closePart 19 = .ok (.if_icmp .ge 20, 3) := by decide +kernel
theorem dX3_closePart_22 : decode cX3_closePart 22 = .ok (.aload_n 0, 1) := by decide +kernel
theorem dX3_closePart_23 : decode cX3_closePart 23 = .ok (.getfield 40, 3) := by decide +kernel
theorem dX3_closePart_26 : decode cX3_closePart 26 = .ok (.iload_n 1, 1) := by decide +kernel
theorem dX3_closePart_27 : decode cX3_closePart 27 = .ok (.iload_n 2, 1) := by decide +kernel
theorem dX3_closePart_28 : decode cX3_closePart 28 = .ok (.iastore, 1) := by decide +kernel
theorem dX3_closePart_29 : decode cX3_closePart 29 = .ok (.aload_n 0, 1) := by decide +kernel
theorem dX3_closePart_30 : decode cX3_closePart 30 = .ok (.getfield 43, 3) := by decide +kernel
theorem dX3_closePart_33 : decode cX3_closePart 33 = .ok (.iload_n 1, 1) := by decide +kernel
theorem dX3_closePart_34 : decode cX3_closePart 34 = .ok (.aload_n 0, 1) := by decide +kernel
theorem dX3_closePart_35 : decode cX3_closePart 35 = .ok (.getfield 46, 3) := by decide +kernel
theorem dX3_closePart_38 : decode cX3_closePart 38 = .ok (.iastore, 1) := by decide +kernel
theorem dX3_closePart_39 : decode cX3_closePart 39 = .ok (.return_, 1) := by decide +kernel
theorem dX3_kindSpelled_0 : decode cX3_kindSpelled 0 = .ok (.iconst 4, 1) := by decide +kernel
theorem dX3_kindSpelled_1 : decode cX3_kindSpelled 1 = .ok (.istore_n 3, 1) := by decide +kernel
theorem dX3_kindSpelled_2 : decode cX3_kindSpelled 2 = .ok (.iload_n 3, 1) := by decide +kernel
theorem dX3_kindSpelled_3 : decode cX3_kindSpelled 3 = .ok (.bipush 12, 2) := by decide +kernel
theorem dX3_kindSpelled_5 : decode cX3_kindSpelled 5 = .ok (.if_icmp .gt 24, 3) := by decide +kernel
theorem dX3_kindSpelled_8 : decode cX3_kindSpelled 8 = .ok (.aload_n 0, 1) := by decide +kernel
theorem dX3_kindSpelled_9 : decode cX3_kindSpelled 9 = .ok (.iload_n 3, 1) := by decide +kernel
theorem dX3_kindSpelled_10 : decode cX3_kindSpelled 10 = .ok (.invokestatic 100, 3) := by decide +kernel
theorem dX3_kindSpelled_13 : decode cX3_kindSpelled 13 = .ok (.iload_n 1, 1) := by decide +kernel
theorem dX3_kindSpelled_14 : decode cX3_kindSpelled 14 = .ok (.iload_n 2, 1) := by decide +kernel
theorem dX3_kindSpelled_15 : decode cX3_kindSpelled 15 = .ok (.invokevirtual 104, 3) := by decide +kernel
theorem dX3_kindSpelled_18 : decode cX3_kindSpelled 18 = .ok (.ifCond .eq 5, 3) := by decide +kernel
theorem dX3_kindSpelled_21 : decode cX3_kindSpelled 21 = .ok (.iload_n 3, 1) := by decide +kernel
theorem dX3_kindSpelled_22 : decode cX3_kindSpelled 22 = .ok (.ireturn, 1) := by decide +kernel
theorem dX3_kindSpelled_23 : decode cX3_kindSpelled 23 = .ok (.iinc 3 1, 3) := by decide +kernel
theorem dX3_kindSpelled_26 : decode cX3_kindSpelled 26 = .ok (.goto (-24), 3) := by decide +kernel
theorem dX3_kindSpelled_29 : decode cX3_kindSpelled 29 = .ok (.iconst (-1), 1) := by decide +kernel
theorem dX3_kindSpelled_30 : decode cX3_kindSpelled 30 = .ok (.ireturn, 1) := by decide +kernel
theorem dX3_isSpelled_0 : decode cX3_isSpelled 0 = .ok (.aload_n 1, 1) := by decide +kernel
theorem dX3_isSpelled_1 : decode cX3_isSpelled 1 = .ok (.invokevirtual 108, 3) := by decide +kernel
theorem dX3_isSpelled_4 : decode cX3_isSpelled 4 = .ok (.iload_n 3, 1) := by decide +kernel
theorem dX3_isSpelled_5 : decode cX3_isSpelled 5 = .ok (.iload_n 2, 1) := by decide +kernel
theorem dX3_isSpelled_6 : decode cX3_isSpelled 6 = .ok (.isub, 1) := by decide +kernel
theorem dX3_isSpelled_7 : decode cX3_isSpelled 7 = .ok (.if_icmp .ne 16, 3) := by decide +kernel
theorem dX3_isSpelled_10 : decode cX3_isSpelled 10 = .ok (.iload_n 2, 1) := by decide +kernel
theorem dX3_isSpelled_11 : decode cX3_isSpelled 11 = .ok (.ifCond .lt 12, 3) := by decide +kernel
theorem dX3_isSpelled_14 : decode cX3_isSpelled 14 = .ok (.iload_n 3, 1) := by decide +kernel
theorem dX3_isSpelled_15 : decode cX3_isSpelled 15 = .ok (.aload_n 0, 1) := by decide +kernel
theorem dX3_isSpelled_16 : decode cX3_isSpelled 16 = .ok (.getfield 30, 3) := by decide +kernel
theorem dX3_isSpelled_19 : decode cX3_isSpelled 19 = .ok (.arraylength, 1) := by decide +kernel
theorem dX3_isSpelled_20 : decode cX3_isSpelled 20 = .ok (.if_icmp .le 5, 3) := by decide +kernel
theorem dX3_isSpelled_23 : decode cX3_isSpelled 23 = .ok (.iconst 0, 1) := by decide +kernel
theorem dX3_isSpelled_24 : decode cX3_isSpelled 24 = .ok (.ireturn, 1) := by decide +kernel
theorem dX3_isSpelled_25 : decode cX3_isSpelled 25 = .ok (.iconst 0, 1) := by decide +kernel
theorem dX3_isSpelled_26 : decode cX3_isSpelled 26 = .ok (.istore 4, 2) := by decide +kernel
theorem dX3_isSpelled_28 : decode cX3_isSpelled 28 = .ok (.iload 4, 2) := by decide +kernel
theorem dX3_isSpelled_30 : decode cX3_isSpelled 30 = .ok (.aload_n 1, 1) := by decide +kernel
theorem dX3_isSpelled_31 : decode cX3_isSpelled 31 = .ok (.invokevirtual 108, 3) := by decide +kernel
theorem dX3_isSpelled_34 : decode cX3_isSpelled 34 = .ok (.if_icmp .ge 29, 3) := by decide +kernel
theorem dX3_isSpelled_37 : decode cX3_isSpelled 37 = .ok (.aload_n 1, 1) := by decide +kernel
theorem dX3_isSpelled_38 : decode cX3_isSpelled 38 = .ok (.iload 4, 2) := by decide +kernel
theorem dX3_isSpelled_40 : decode cX3_isSpelled 40 = .ok (.invokevirtual 114, 3) := by decide +kernel
theorem dX3_isSpelled_43 : decode cX3_isSpelled 43 = .ok (.aload_n 0, 1) := by decide +kernel
theorem dX3_isSpelled_44 : decode cX3_isSpelled 44 = .ok (.getfield 30, 3) := by decide +kernel
theorem dX3_isSpelled_47 : decode cX3_isSpelled 47 = .ok (.iload_n 2, 1) := by decide +kernel
theorem dX3_isSpelled_48 : decode cX3_isSpelled 48 = .ok (.iload 4, 2) := by decide +kernel
theorem dX3_isSpelled_50 : decode cX3_isSpelled 50 = .ok (.iadd, 1) := by decide +kernel
theorem dX3_isSpelled_51 : decode cX3_isSpelled 51 = .ok (.iaload, 1) := by decide +kernel
theorem dX3_isSpelled_52 : decode cX3_isSpelled 52 = .ok (.if_icmp .eq 5, 3) := by decide +kernel
theorem dX3_isSpelled_55 : decode cX3_isSpelled 55 = .ok (.iconst 0, 1) := by decide +kernel
theorem dX3_isSpelled_56 : decode cX3_isSpelled 56 = .ok (.ireturn, 1) := by decide +kernel
theorem dX3_isSpelled_57 : decode cX3_isSpelled 57 = .ok (.iinc 4 1, 3) := by decide +kernel
theorem dX3_isSpelled_60 : decode cX3_isSpelled 60 = .ok (.goto (-32), 3) := by decide +kernel
theorem dX3_isSpelled_63 : decode cX3_isSpelled 63 = .ok (.iconst 1, 1) := by decide +kernel
theorem dX3_isSpelled_64 : decode cX3_isSpelled 64 = .ok (.ireturn, 1) := by decide +kernel
theorem dX3_isLetter_0 : decode cX3_isLetter 0 = .ok (.iload_n 0, 1) := by decide +kernel
theorem dX3_isLetter_1 : decode cX3_isLetter 1 = .ok (.bipush 97, 2) := by decide +kernel
theorem dX3_isLetter_3 : decode cX3_isLetter 3 = .ok (.if_icmp .lt 13, 3) := by decide +kernel
theorem dX3_isLetter_6 : decode cX3_isLetter 6 = .ok (.iload_n 0, 1) := by decide +kernel
theorem dX3_isLetter_7 : decode cX3_isLetter 7 = .ok (.bipush 122, 2) := by decide +kernel
theorem dX3_isLetter_9 : decode cX3_isLetter 9 = .ok (.if_icmp .gt 7, 3) := by decide +kernel
theorem dX3_isLetter_12 : decode cX3_isLetter 12 = .ok (.iconst 1, 1) := by decide +kernel
theorem dX3_isLetter_13 : decode cX3_isLetter 13 = .ok (.goto 4, 3) := by decide +kernel
theorem dX3_isLetter_16 : decode cX3_isLetter 16 = .ok (.iconst 0, 1) := by decide +kernel
theorem dX3_isLetter_17 : decode cX3_isLetter 17 = .ok (.ireturn, 1) := by decide +kernel
theorem dX3_isDigit_0 : decode cX3_isDigit 0 = .ok (.iload_n 0, 1) := by decide +kernel
theorem dX3_isDigit_1 : decode cX3_isDigit 1 = .ok (.bipush 48, 2) := by decide +kernel
theorem dX3_isDigit_3 : decode cX3_isDigit 3 = .ok (.if_icmp .lt 13, 3) := by decide +kernel
theorem dX3_isDigit_6 : decode cX3_isDigit 6 = .ok (.iload_n 0, 1) := by decide +kernel
theorem dX3_isDigit_7 : decode cX3_isDigit 7 = .ok (.bipush 57, 2) := by decide +kernel
theorem dX3_isDigit_9 : decode cX3_isDigit 9 = .ok (.if_icmp .gt 7, 3) := by decide +kernel
theorem dX3_isDigit_12 : decode cX3_isDigit 12 = .ok (.iconst 1, 1) := by decide +kernel
theorem dX3_isDigit_13 : decode cX3_isDigit 13 = .ok (.goto 4, 3) := by decide +kernel
theorem dX3_isDigit_16 : decode cX3_isDigit 16 = .ok (.iconst 0, 1) := by decide +kernel
theorem dX3_isDigit_17 : decode cX3_isDigit 17 = .ok (.ireturn, 1) := by decide +kernel
theorem dX4_init_0 : decode cX4_init 0 = .ok (.aload_n 0, 1) := by decide +kernel
theorem dX4_init_1 : decode cX4_init 1 = .ok (.invokespecial 3, 3) := by decide +kernel
theorem dX4_init_4 : decode cX4_init 4 = .ok (.aload_n 0, 1) := by decide +kernel
theorem dX4_init_5 : decode cX4_init 5 = .ok (.new 9, 3) := by decide +kernel
theorem dX4_init_8 : decode cX4_init 8 = .ok (.dup, 1) := by decide +kernel
theorem dX4_init_9 : decode cX4_init 9 = .ok (.invokespecial 11, 3) := by decide +kernel
theorem dX4_init_12 : decode cX4_init 12 = .ok (.putfield 12, 3) := by decide +kernel
theorem dX4_init_15 : decode cX4_init 15 = .ok (.aload_n 0, 1) := by decide +kernel
theorem dX4_init_16 : decode cX4_init 16 = .ok (.iconst 5, 1) := by decide +kernel
theorem dX4_init_17 : decode cX4_init 17 = .ok (.newarray .int, 2) := by decide +kernel
theorem dX4_init_19 : decode cX4_init 19 = .ok (.putfield 18, 3) := by decide +kernel
theorem dX4_init_22 : decode cX4_init 22 = .ok (.aload_n 0, 1) := by decide +kernel
theorem dX4_init_23 : decode cX4_init 23 = .ok (.iconst 5, 1) := by decide +kernel
theorem dX4_init_24 : decode cX4_init 24 = .ok (.newarray .int, 2) := by decide +kernel
theorem dX4_init_26 : decode cX4_init 26 = .ok (.putfield 22, 3) := by decide +kernel
theorem dX4_init_29 : decode cX4_init 29 = .ok (.return_, 1) := by decide +kernel
theorem dX4_isHitched_0 : decode cX4_isHitched 0 = .ok (.aload_n 0, 1) := by decide +kernel
theorem dX4_isHitched_1 : decode cX4_isHitched 1 = .ok (.getfield 25, 3) := by decide +kernel
theorem dX4_isHitched_4 : decode cX4_isHitched 4 = .ok (.ifCond .eq 7, 3) := by decide +kernel
theorem dX4_isHitched_7 : decode cX4_isHitched 7 = .ok (.iconst 1, 1) := by decide +kernel
theorem dX4_isHitched_8 : decode cX4_isHitched 8 = .ok (.goto 4, 3) := by decide +kernel
theorem dX4_isHitched_11 : decode cX4_isHitched 11 = .ok (.iconst 0, 1) := by decide +kernel
theorem dX4_isHitched_12 : decode cX4_isHitched 12 = .ok (.ireturn, 1) := by decide +kernel
theorem dX4_groupPlaceAt_0 : decode cX4_groupPlaceAt 0 = .ok (.iload_n 1, 1) := by decide +kernel
theorem dX4_groupPlaceAt_1 : decode cX4_groupPlaceAt 1 = .ok (.ifCond .lt 21, 3) := by decide +kernel
theorem dX4_groupPlaceAt_4 : decode cX4_groupPlaceAt 4 = .ok (.iload_n 1, 1) := by decide +kernel
theorem dX4_groupPlaceAt_5 : decode cX4_groupPlaceAt 5 = .ok (.aload_n 0, 1) := by decide +kernel
theorem dX4_groupPlaceAt_6 : decode cX4_groupPlaceAt 6 = .ok (.getfield 18, 3) := by decide +kernel
theorem dX4_groupPlaceAt_9 : decode cX4_groupPlaceAt 9 = .ok (.arraylength, 1) := by decide +kernel
theorem dX4_groupPlaceAt_10 : decode cX4_groupPlaceAt 10 = .ok (.if_icmp .ge 12, 3) := by decide +kernel
theorem dX4_groupPlaceAt_13 : decode cX4_groupPlaceAt 13 = .ok (.aload_n 0, 1) := by decide +kernel
theorem dX4_groupPlaceAt_14 : decode cX4_groupPlaceAt 14 = .ok (.getfield 18, 3) := by decide +kernel
theorem dX4_groupPlaceAt_17 : decode cX4_groupPlaceAt 17 = .ok (.iload_n 1, 1) := by decide +kernel
theorem dX4_groupPlaceAt_18 : decode cX4_groupPlaceAt 18 = .ok (.iaload, 1) := by decide +kernel
theorem dX4_groupPlaceAt_19 : decode cX4_groupPlaceAt 19 = .ok (.goto 4, 3) := by decide +kernel
theorem dX4_groupPlaceAt_22 : decode cX4_groupPlaceAt 22 = .ok (.iconst 0, 1) := by decide +kernel
theorem dX4_groupPlaceAt_23 : decode cX4_groupPlaceAt 23 = .ok (.ireturn, 1) := by decide +kernel
theorem dX4_groupTimeAt_0 : decode cX4_groupTimeAt 0 = .ok (.iload_n 1, 1) := by decide +kernel
theorem dX4_groupTimeAt_1 : decode cX4_groupTimeAt 1 = .ok (.ifCond .lt 21, 3) := by decide +kernel
theorem dX4_groupTimeAt_4 : decode cX4_groupTimeAt 4 = .ok (.iload_n 1, 1) := by decide +kernel
theorem dX4_groupTimeAt_5 : decode cX4_groupTimeAt 5 = .ok (.aload_n 0, 1) := by decide +kernel
theorem dX4_groupTimeAt_6 : decode cX4_groupTimeAt 6 = .ok (.getfield 22, 3) := by decide +kernel
theorem dX4_groupTimeAt_9 : decode cX4_groupTimeAt 9 = .ok (.arraylength, 1) := by decide +kernel
theorem dX4_groupTimeAt_10 : decode cX4_groupTimeAt 10 = .ok (.if_icmp .ge 12, 3) := by decide +kernel
theorem dX4_groupTimeAt_13 : decode cX4_groupTimeAt 13 = .ok (.aload_n 0, 1) := by decide +kernel
theorem dX4_groupTimeAt_14 : decode cX4_groupTimeAt 14 = .ok (.getfield 22, 3) := by decide +kernel
theorem dX4_groupTimeAt_17 : decode cX4_groupTimeAt 17 = .ok (.iload_n 1, 1) := by decide +kernel
theorem dX4_groupTimeAt_18 : decode cX4_groupTimeAt 18 = .ok (.iaload, 1) := by decide +kernel
theorem dX4_groupTimeAt_19 : decode cX4_groupTimeAt 19 = .ok (.goto 4, 3) := by decide +kernel
theorem dX4_groupTimeAt_22 : decode cX4_groupTimeAt 22 = .ok (.iconst 0, 1) := by decide +kernel
theorem dX4_groupTimeAt_23 : decode cX4_groupTimeAt 23 = .ok (.ireturn, 1) := by decide +kernel
theorem dX4_stopFilled_0 : decode cX4_stopFilled 0 = .ok (.aload_n 0, 1) := by decide +kernel
theorem dX4_stopFilled_1 : decode cX4_stopFilled 1 = .ok (.iload_n 1, 1) := by decide +kernel
theorem dX4_stopFilled_2 : decode cX4_stopFilled 2 = .ok (.invokevirtual 29, 3) := by decide +kernel
theorem dX4_stopFilled_5 : decode cX4_stopFilled 5 = .ok (.aload_n 0, 1) := by decide +kernel
theorem dX4_stopFilled_6 : decode cX4_stopFilled 6 = .ok (.bipush 7, 2) := by decide +kernel
theorem dX4_stopFilled_8 : decode cX4_stopFilled 8 = .ok (.iconst 0, 1) := by decide +kernel
theorem dX4_stopFilled_9 : decode cX4_stopFilled 9 = .ok (.iconst 0, 1) := by decide +kernel
theorem dX4_stopFilled_10 : decode cX4_stopFilled 10 = .ok (.invokevirtual 33, 3) := by decide +kernel
theorem dX4_stopFilled_13 : decode cX4_stopFilled 13 = .ok (.return_, 1) := by decide +kernel
theorem dX4_workLine_0 : decode cX4_workLine 0 = .ok (.aload_n 0, 1) := by decide +kernel
theorem dX4_workLine_1 : decode cX4_workLine 1 = .ok (.iload_n 2, 1) := by decide +kernel
theorem dX4_workLine_2 : decode cX4_workLine 2 = .ok (.invokevirtual 29, 3) := by decide +kernel
theorem dX4_workLine_5 : decode cX4_workLine 5 = .ok (.aload_n 0, 1) := by decide +kernel
theorem dX4_workLine_6 : decode cX4_workLine 6 = .ok (.aload_n 1, 1) := by decide +kernel
theorem dX4_workLine_7 : decode cX4_workLine 7 = .ok (.iconst 0, 1) := by decide +kernel
theorem dX4_workLine_8 : decode cX4_workLine 8 = .ok (.aload_n 1, 1) := by decide +kernel
theorem dX4_workLine_9 : decode cX4_workLine 9 = .ok (.getfield 37, 3) := by decide +kernel
theorem dX4_workLine_12 : decode cX4_workLine 12 = .ok (.iconst 0, 1) := by decide +kernel
theorem dX4_workLine_13 : decode cX4_workLine 13 = .ok (.invokevirtual 42, 3) := by decide +kernel
theorem dX4_workLine_16 : decode cX4_workLine 16 = .ok (.aload_n 0, 1) := by decide +kernel
theorem dX4_workLine_17 : decode cX4_workLine 17 = .ok (.getfield 25, 3) := by decide +kernel
theorem dX4_workLine_20 : decode cX4_workLine 20 = .ok (.ifCond .ne 21, 3) := by decide +kernel
theorem dX4_workLine_23 : decode cX4_workLine 23 = .ok (.aload_n 0, 1) := by decide +kernel
theorem dX4_workLine_24 : decode cX4_workLine 24 = .ok (.getfield 46, 3) := by decide +kernel
theorem dX4_workLine_27 : decode cX4_workLine 27 = .ok (.ifCond .le 14, 3) := by decide +kernel
theorem dX4_workLine_30 : decode cX4_workLine 30 = .ok (.aload_n 0, 1) := by decide +kernel
theorem dX4_workLine_31 : decode cX4_workLine 31 = .ok (.bipush 6, 2) := by decide +kernel
theorem dX4_workLine_33 : decode cX4_workLine 33 = .ok (.aload_n 1, 1) := by decide +kernel
theorem dX4_workLine_34 : decode cX4_workLine 34 = .ok (.invokevirtual 49, 3) := by decide +kernel
theorem dX4_workLine_37 : decode cX4_workLine 37 = .ok (.iconst 0, 1) := by decide +kernel
theorem dX4_workLine_38 : decode cX4_workLine 38 = .ok (.invokevirtual 33, 3) := by decide +kernel
theorem dX4_workLine_41 : decode cX4_workLine 41 = .ok (.return_, 1) := by decide +kernel
theorem dX4_begin_0 : decode cX4_begin 0 = .ok (.aload_n 0, 1) := by decide +kernel
theorem dX4_begin_1 : decode cX4_begin 1 = .ok (.getfield 12, 3) := by decide +kernel
theorem dX4_begin_4 : decode cX4_begin 4 = .ok (.iconst 0, 1) := by decide +kernel
theorem dX4_begin_5 : decode cX4_begin 5 = .ok (.putfield 53, 3) := by decide +kernel
theorem dX4_begin_8 : decode cX4_begin 8 = .ok (.aload_n 0, 1) := by decide +kernel
theorem dX4_begin_9 : decode cX4_begin 9 = .ok (.iload_n 1, 1) := by decide +kernel
theorem dX4_begin_10 : decode cX4_begin 10 = .ok (.putfield 46, 3) := by decide +kernel
theorem dX4_begin_13 : decode cX4_begin 13 = .ok (.aload_n 0, 1) := by decide +kernel
theorem dX4_begin_14 : decode cX4_begin 14 = .ok (.iconst 0, 1) := by decide +kernel
theorem dX4_begin_15 : decode cX4_begin 15 = .ok (.putfield 55, 3) := by decide +kernel
theorem dX4_begin_18 : decode cX4_begin 18 = .ok (.aload_n 0, 1) := by decide +kernel
theorem dX4_begin_19 : decode cX4_begin 19 = .ok (.iconst 0, 1) := by decide +kernel
theorem dX4_begin_20 : decode cX4_begin 20 = .ok (.putfield 25, 3) := by decide +kernel
theorem dX4_begin_23 : decode cX4_begin 23 = .ok (.aload_n 0, 1) := by decide +kernel
theorem dX4_begin_24 : decode cX4_begin 24 = .ok (.iconst 0, 1) := by decide +kernel
theorem dX4_begin_25 : decode cX4_begin 25 = .ok (.putfield 58, 3) := by decide +kernel
theorem dX4_begin_28 : decode cX4_begin 28 = .ok (.aload_n 0, 1) := by decide +kernel
theorem dX4_begin_29 : decode cX4_begin 29 = .ok (.iconst 0, 1) := by decide +kernel
theorem dX4_begin_30 : decode cX4_begin 30 = .ok (.putfield 61, 3) := by decide +kernel
theorem dX4_begin_33 : decode cX4_begin 33 = .ok (.return_, 1) := by decide +kernel
theorem dX4_stop_0 : decode cX4_stop 0 = .ok (.aload_n 0, 1) := by decide +kernel
theorem dX4_stop_1 : decode cX4_stop 1 = .ok (.iload_n 1, 1) := by decide +kernel
theorem dX4_stop_2 : decode cX4_stop 2 = .ok (.putfield 25, 3) := by decide +kernel
theorem dX4_stop_5 : decode cX4_stop 5 = .ok (.aload_n 0, 1) := by decide +kernel
theorem dX4_stop_6 : decode cX4_stop 6 = .ok (.iload_n 2, 1) := by decide +kernel
theorem dX4_stop_7 : decode cX4_stop 7 = .ok (.putfield 58, 3) := by decide +kernel
theorem dX4_stop_10 : decode cX4_stop 10 = .ok (.aload_n 0, 1) := by decide +kernel
theorem dX4_stop_11 : decode cX4_stop 11 = .ok (.iload_n 3, 1) := by decide +kernel
theorem dX4_stop_12 : decode cX4_stop 12 = .ok (.putfield 61, 3) := by decide +kernel
theorem dX4_stop_15 : decode cX4_stop 15 = .ok (.return_, 1) := by decide +kernel
theorem dX4_workParts_0 : decode cX4_workParts 0 = .ok (.iload 4, 2) := by decide +kernel
theorem dX4_workParts_2 : decode cX4_workParts 2 = .ok (.iconst 5, 1) := by decide +kernel
theorem dX4_workParts_3 : decode cX4_workParts 3 = .ok (.if_icmp .le 4, 3) := by decide +kernel
theorem dX4_workParts_6 : decode cX4_workParts 6 = .ok (.return_, 1) := by decide +kernel
theorem dX4_workParts_7 : decode cX4_workParts 7 = .ok (.iload_n 2, 1) := by decide +kernel
theorem dX4_workParts_8 : decode cX4_workParts 8 = .ok (.istore 5, 2) := by decide +kernel
theorem dX4_workParts_10 : decode cX4_workParts 10 = .ok (.iload 5, 2) := by decide +kernel
theorem dX4_workParts_12 : decode cX4_workParts 12 = .ok (.iload_n 3, 1) := by decide +kernel
theorem dX4_workParts_13 : decode cX4_workParts 13 = .ok (.if_icmp .ge 94, 3) := by decide +kernel
theorem dX4_workParts_16 : decode cX4_workParts 16 = .ok (.aload_n 0, 1) := by decide +kernel
theorem dX4_workParts_17 : decode cX4_workParts 17 = .ok (.getfield 25, 3) := by decide +kernel
theorem dX4_workParts_20 : decode cX4_workParts 20 = .ok (.ifCond .ne 87, 3) := by decide +kernel
theorem dX4_workParts_23 : decode cX4_workParts 23 = .ok (.aload_n 1, 1) := by decide +kernel
theorem dX4_workParts_24 : decode cX4_workParts 24 = .ok (.iload 5, 2) := by decide +kernel
theorem dX4_workParts_26 : decode cX4_workParts 26 = .ok (.invokevirtual 64, 3) := by decide +kernel
theorem dX4_workParts_29 : decode cX4_workParts 29 = .ok (.lookupswitch 51 #[(1, 27), (2, 39)], 27) := by decide +kernel
theorem dX4_workParts_56 : decode cX4_workParts 56 = .ok (.aload_n 0, 1) := by decide +kernel
theorem dX4_workParts_57 : decode cX4_workParts 57 = .ok (.aload_n 1, 1) := by decide +kernel
theorem dX4_workParts_58 : decode cX4_workParts 58 = .ok (.iload 5, 2) := by decide +kernel
theorem dX4_workParts_60 : decode cX4_workParts 60 = .ok (.iload 4, 2) := by decide +kernel
theorem dX4_workParts_62 : decode cX4_workParts 62 = .ok (.invokevirtual 68, 3) := by decide +kernel
theorem dX4_workParts_65 : decode cX4_workParts 65 = .ok (.goto 24, 3) := by decide +kernel
theorem dX4_workParts_68 : decode cX4_workParts 68 = .ok (.aload_n 0, 1) := by decide +kernel
theorem dX4_workParts_69 : decode cX4_workParts 69 = .ok (.aload_n 1, 1) := by decide +kernel
theorem dX4_workParts_70 : decode cX4_workParts 70 = .ok (.iload 5, 2) := by decide +kernel
theorem dX4_workParts_72 : decode cX4_workParts 72 = .ok (.iload 4, 2) := by decide +kernel
theorem dX4_workParts_74 : decode cX4_workParts 74 = .ok (.invokevirtual 72, 3) := by decide +kernel
theorem dX4_workParts_77 : decode cX4_workParts 77 = .ok (.goto 12, 3) := by decide +kernel
theorem dX4_workParts_80 : decode cX4_workParts 80 = .ok (.aload_n 0, 1) := by decide +kernel
theorem dX4_workParts_81 : decode cX4_workParts 81 = .ok (.aload_n 1, 1) := by decide +kernel
theorem dX4_workParts_82 : decode cX4_workParts 82 = .ok (.iload 5, 2) := by decide +kernel
theorem dX4_workParts_84 : decode cX4_workParts 84 = .ok (.iload 4, 2) := by decide +kernel
theorem dX4_workParts_86 : decode cX4_workParts 86 = .ok (.invokevirtual 75, 3) := by decide +kernel
theorem dX4_workParts_89 : decode cX4_workParts 89 = .ok (.iload 5, 2) := by decide +kernel
theorem dX4_workParts_91 : decode cX4_workParts 91 = .ok (.iconst 1, 1) := by decide +kernel
theorem dX4_workParts_92 : decode cX4_workParts 92 = .ok (.iadd, 1) := by decide +kernel
theorem dX4_workParts_93 : decode cX4_workParts 93 = .ok (.aload_n 1, 1) := by decide +kernel
theorem dX4_workParts_94 : decode cX4_workParts 94 = .ok (.iload 5, 2) := by decide +kernel
theorem dX4_workParts_96 : decode cX4_workParts 96 = .ok (.invokevirtual 78, 3) := by decide +kernel
theorem dX4_workParts_99 : decode cX4_workParts 99 = .ok (.invokestatic 81, 3) := by decide +kernel
theorem dX4_workParts_102 : decode cX4_workParts 102 = .ok (.istore 5, 2) := by decide +kernel
theorem dX4_workParts_104 : decode cX4_workParts 104 = .ok (.goto (-94), 3) := by decide +kernel
theorem dX4_workParts_107 : decode cX4_workParts 107 = .ok (.return_, 1) := by decide +kernel
theorem dX4_workTimes_0 : decode cX4_workTimes 0 = .ok (.aload_n 1, 1) := by decide +kernel
theorem dX4_workTimes_1 : decode cX4_workTimes 1 = .ok (.iload_n 2, 1) := by decide +kernel
theorem dX4_workTimes_2 : decode cX4_workTimes 2 = .ok (.invokevirtual 87, 3) := by decide +kernel
theorem dX4_workTimes_5 : decode cX4_workTimes 5 = .ok (.istore 4, 2) := by decide +kernel
theorem dX4_workTimes_7 : decode cX4_workTimes 7 = .ok (.iconst 1, 1) := by decide +kernel
theorem dX4_workTimes_8 : decode cX4_workTimes 8 = .ok (.istore 5, 2) := by decide +kernel
theorem dX4_workTimes_10 : decode cX4_workTimes 10 = .ok (.iload 5, 2) := by decide +kernel
theorem dX4_workTimes_12 : decode cX4_workTimes 12 = .ok (.iload 4, 2) := by decide +kernel
theorem dX4_workTimes_14 : decode cX4_workTimes 14 = .ok (.if_icmp .gt 66, 3) := by decide +kernel
theorem dX4_workTimes_17 : decode cX4_workTimes 17 = .ok (.aload_n 0, 1) := by decide +kernel
theorem dX4_workTimes_18 : decode cX4_workTimes 18 = .ok (.getfield 12, 3) := by decide +kernel
theorem dX4_workTimes_21 : decode cX4_workTimes 21 = .ok (.getfield 53, 3) := by decide +kernel
theorem dX4_workTimes_24 : decode cX4_workTimes 24 = .ok (.istore 6, 2) := by decide +kernel
theorem dX4_workTimes_26 : decode cX4_workTimes 26 = .ok (.aload_n 0, 1) := by decide +kernel
theorem dX4_workTimes_27 : decode cX4_workTimes 27 = .ok (.aload_n 1, 1) := by decide +kernel
theorem dX4_workTimes_28 : decode cX4_workTimes 28 = .ok (.iload_n 2, 1) := by decide +kernel
theorem dX4_workTimes_29 : decode cX4_workTimes 29 = .ok (.invokevirtual 90, 3) := by decide +kernel
theorem dX4_workTimes_32 : decode cX4_workTimes 32 = .ok (.iload 5, 2) := by decide +kernel
theorem dX4_workTimes_34 : decode cX4_workTimes 34 = .ok (.iload_n 3, 1) := by decide +kernel
theorem dX4_workTimes_35 : decode cX4_workTimes 35 = .ok (.invokevirtual 93, 3) := by decide +kernel
theorem dX4_workTimes_38 : decode cX4_workTimes 38 = .ok (.aload_n 0, 1) := by decide +kernel
theorem dX4_workTimes_39 : decode cX4_workTimes 39 = .ok (.aload_n 1, 1) := by decide +kernel
theorem dX4_workTimes_40 : decode cX4_workTimes 40 = .ok (.iload_n 2, 1) := by decide +kernel
theorem dX4_workTimes_41 : decode cX4_workTimes 41 = .ok (.iconst 1, 1) := by decide +kernel
theorem dX4_workTimes_42 : decode cX4_workTimes 42 = .ok (.iadd, 1) := by decide +kernel
theorem dX4_workTimes_43 : decode cX4_workTimes 43 = .ok (.aload_n 1, 1) := by decide +kernel
theorem dX4_workTimes_44 : decode cX4_workTimes 44 = .ok (.iload_n 2, 1) := by decide +kernel
theorem dX4_workTimes_45 : decode cX4_workTimes 45 = .ok (.invokevirtual 78, 3) := by decide +kernel
theorem dX4_workTimes_48 : decode cX4_workTimes 48 = .ok (.iload_n 3, 1) := by decide +kernel
theorem dX4_workTimes_49 : decode cX4_workTimes 49 = .ok (.iconst 1, 1) := by decide +kernel
theorem dX4_workTimes_50 : decode cX4_workTimes 50 = .ok (.iadd, 1) := by decide +kernel
theorem dX4_workTimes_51 : decode cX4_workTimes 51 = .ok (.invokevirtual 42, 3) := by decide +kernel
theorem dX4_workTimes_54 : decode cX4_workTimes 54 = .ok (.aload_n 0, 1) := by decide +kernel
theorem dX4_workTimes_55 : decode cX4_workTimes 55 = .ok (.getfield 25, 3) := by decide +kernel
theorem dX4_workTimes_58 : decode cX4_workTimes 58 = .ok (.ifCond .ne 15, 3) := by decide +kernel
theorem dX4_workTimes_61 : decode cX4_workTimes 61 = .ok (.aload_n 0, 1) := by decide +kernel
theorem dX4_workTimes_62 : decode cX4_workTimes 62 = .ok (.getfield 12, 3) := by decide +kernel
theorem dX4_workTimes_65 : decode cX4_workTimes 65 = .ok (.getfield 53, 3) := by decide +kernel
theorem dX4_workTimes_68 : decode cX4_workTimes 68 = .ok (.iload 6, 2) := by decide +kernel
theorem dX4_workTimes_70 : decode cX4_workTimes 70 = .ok (.if_icmp .ne 4, 3) := by decide +kernel
theorem dX4_workTimes_73 : decode cX4_workTimes 73 = .ok (.return_, 1) := by decide +kernel
theorem dX4_workTimes_74 : decode cX4_workTimes 74 = .ok (.iinc 5 1, 3) := by decide +kernel
theorem dX4_workTimes_77 : decode cX4_workTimes 77 = .ok (.goto (-67), 3) := by decide +kernel
theorem dX4_workTimes_80 : decode cX4_workTimes 80 = .ok (.return_, 1) := by decide +kernel
theorem dX4_workTill_0 : decode cX4_workTill 0 = .ok (.aload_n 1, 1) := by decide +kernel
theorem dX4_workTill_1 : decode cX4_workTill 1 = .ok (.iload_n 2, 1) := by decide +kernel
theorem dX4_workTill_2 : decode cX4_workTill 2 = .ok (.invokevirtual 87, 3) := by decide +kernel
theorem dX4_workTill_5 : decode cX4_workTill 5 = .ok (.istore 4, 2) := by decide +kernel
theorem dX4_workTill_7 : decode cX4_workTill 7 = .ok (.iconst 1, 1) := by decide +kernel
theorem dX4_workTill_8 : decode cX4_workTill 8 = .ok (.istore 5, 2) := by decide +kernel
theorem dX4_workTill_10 : decode cX4_workTill 10 = .ok (.iload 5, 2) := by decide +kernel
theorem dX4_workTill_12 : decode cX4_workTill 12 = .ok (.bipush 60, 2) := by decide +kernel
theorem dX4_workTill_14 : decode cX4_workTill 14 = .ok (.if_icmp .gt 81, 3) := by decide +kernel
theorem dX4_workTill_17 : decode cX4_workTill 17 = .ok (.aload_n 0, 1) := by decide +kernel
theorem dX4_workTill_18 : decode cX4_workTill 18 = .ok (.getfield 46, 3) := by decide +kernel
theorem dX4_workTill_21 : decode cX4_workTill 21 = .ok (.iload 4, 2) := by decide +kernel
theorem dX4_workTill_23 : decode cX4_workTill 23 = .ok (.if_icmp .le 72, 3) := by decide +kernel
theorem dX4_workTill_26 : decode cX4_workTill 26 = .ok (.aload_n 0, 1) := by decide +kernel
theorem dX4_workTill_27 : decode cX4_workTill 27 = .ok (.getfield 46, 3) := by decide +kernel
theorem dX4_workTill_30 : decode cX4_workTill 30 = .ok (.istore 6, 2) := by decide +kernel
theorem dX4_workTill_32 : decode cX4_workTill 32 = .ok (.aload_n 0, 1) := by decide +kernel
theorem dX4_workTill_33 : decode cX4_workTill 33 = .ok (.aload_n 1, 1) := by decide +kernel
theorem dX4_workTill_34 : decode cX4_workTill 34 = .ok (.iload_n 2, 1) := by decide +kernel
theorem dX4_workTill_35 : decode cX4_workTill 35 = .ok (.invokevirtual 90, 3) := by decide +kernel
theorem dX4_workTill_38 : decode cX4_workTill 38 = .ok (.iload 5, 2) := by decide +kernel
theorem dX4_workTill_40 : decode cX4_workTill 40 = .ok (.iload_n 3, 1) := by decide +kernel
theorem dX4_workTill_41 : decode cX4_workTill 41 = .ok (.invokevirtual 93, 3) := by decide +kernel
theorem dX4_workTill_44 : decode cX4_workTill 44 = .ok (.aload_n 0, 1) := by decide +kernel
theorem dX4_workTill_45 : decode cX4_workTill 45 = .ok (.aload_n 1, 1) := by decide +kernel
theorem dX4_workTill_46 : decode cX4_workTill 46 = .ok (.iload_n 2, 1) := by decide +kernel
theorem dX4_workTill_47 : decode cX4_workTill 47 = .ok (.iconst 1, 1) := by decide +kernel
theorem dX4_workTill_48 : decode cX4_workTill 48 = .ok (.iadd, 1) := by decide +kernel
theorem dX4_workTill_49 : decode cX4_workTill 49 = .ok (.aload_n 1, 1) := by decide +kernel
theorem dX4_workTill_50 : decode cX4_workTill 50 = .ok (.iload_n 2, 1) := by decide +kernel
theorem dX4_workTill_51 : decode cX4_workTill 51 = .ok (.invokevirtual 78, 3) := by decide +kernel
theorem dX4_workTill_54 : decode cX4_workTill 54 = .ok (.iload_n 3, 1) := by decide +kernel
theorem dX4_workTill_55 : decode cX4_workTill 55 = .ok (.iconst 1, 1) := by decide +kernel
theorem dX4_workTill_56 : decode cX4_workTill 56 = .ok (.iadd, 1) := by decide +kernel
theorem dX4_workTill_57 : decode cX4_workTill 57 = .ok (.invokevirtual 42, 3) := by decide +kernel
theorem dX4_workTill_60 : decode cX4_workTill 60 = .ok (.aload_n 0, 1) := by decide +kernel
theorem dX4_workTill_61 : decode cX4_workTill 61 = .ok (.getfield 25, 3) := by decide +kernel
theorem dX4_workTill_64 : decode cX4_workTill 64 = .ok (.ifCond .eq 4, 3) := by decide +kernel
theorem dX4_workTill_67 : decode cX4_workTill 67 = .ok (.return_, 1) := by decide +kernel
theorem dX4_workTill_68 : decode cX4_workTill 68 = .ok (.aload_n 0, 1) := by decide +kernel
theorem dX4_workTill_69 : decode cX4_workTill 69 = .ok (.getfield 46, 3) := by decide +kernel
theorem dX4_workTill_72 : decode cX4_workTill 72 = .ok (.iload 6, 2) := by decide +kernel
theorem dX4_workTill_74 : decode cX4_workTill 74 = .ok (.if_icmp .ne 15, 3) := by decide +kernel
theorem dX4_workTill_77 : decode cX4_workTill 77 = .ok (.aload_n 0, 1) := by decide +kernel
theorem dX4_workTill_78 : decode cX4_workTill 78 = .ok (.iconst 4, 1) := by decide +kernel
theorem dX4_workTill_79 : decode cX4_workTill 79 = .ok (.aload_n 1, 1) := by decide +kernel
theorem dX4_workTill_80 : decode cX4_workTill 80 = .ok (.iload_n 2, 1) := by decide +kernel
theorem dX4_workTill_81 : decode cX4_workTill 81 = .ok (.invokevirtual 90, 3) := by decide +kernel
theorem dX4_workTill_84 : decode cX4_workTill 84 = .ok (.iload_n 3, 1) := by decide +kernel
theorem dX4_workTill_85 : decode cX4_workTill 85 = .ok (.invokevirtual 33, 3) := by decide +kernel
theorem dX4_workTill_88 : decode cX4_workTill 88 = .ok (.return_, 1) := by decide +kernel
theorem dX4_workTill_89 : decode cX4_workTill 89 = .ok (.iinc 5 1, 3) := by decide +kernel
theorem dX4_workTill_92 : decode cX4_workTill 92 = .ok (.goto (-82), 3) := by decide +kernel
theorem dX4_workTill_95 : decode cX4_workTill 95 = .ok (.aload_n 0, 1) := by decide +kernel
theorem dX4_workTill_96 : decode cX4_workTill 96 = .ok (.getfield 46, 3) := by decide +kernel
theorem dX4_workTill_99 : decode cX4_workTill 99 = .ok (.iload 4, 2) := by decide +kernel
theorem dX4_workTill_101 : decode cX4_workTill 101 = .ok (.if_icmp .ge 14, 3) := by decide +kernel
theorem dX4_workTill_104 : decode cX4_workTill 104 = .ok (.aload_n 0, 1) := by decide +kernel
theorem dX4_workTill_105 : decode cX4_workTill 105 = .ok (.iconst 5, 1) := by decide +kernel
theorem dX4_workTill_106 : decode cX4_workTill 106 = .ok (.aload_n 1, 1) := by decide +kernel
theorem dX4_workTill_107 : decode cX4_workTill 107 = .ok (.iload_n 2, 1) := by decide +kernel
theorem dX4_workTill_108 : decode cX4_workTill 108 = .ok (.invokevirtual 90, 3) := by decide +kernel
theorem dX4_workTill_111 : decode cX4_workTill 111 = .ok (.iload_n 3, 1) := by decide +kernel
theorem dX4_workTill_112 : decode cX4_workTill 112 = .ok (.invokevirtual 33, 3) := by decide +kernel
theorem dX4_workTill_115 : decode cX4_workTill 115 = .ok (.return_, 1) := by decide +kernel
theorem dX4_enter_0 : decode cX4_enter 0 = .ok (.iload_n 3, 1) := by decide +kernel
theorem dX4_enter_1 : decode cX4_enter 1 = .ok (.ifCond .lt 35, 3) := by decide +kernel
theorem dX4_enter_4 : decode cX4_enter 4 = .ok (.iload_n 3, 1) := by decide +kernel
theorem dX4_enter_5 : decode cX4_enter 5 = .ok (.aload_n 0, 1) := by decide +kernel
theorem dX4_enter_6 : decode cX4_enter 6 = .ok (.getfield 18, 3) := by decide +kernel
theorem dX4_enter_9 : decode cX4_enter 9 = .ok (.arraylength, 1) := by decide +kernel
theorem dX4_enter_10 : decode cX4_enter 10 = .ok (.if_icmp .ge 26, 3) := by decide +kernel
theorem dX4_enter_13 : decode cX4_enter 13 = .ok (.iload_n 3, 1) := by decide +kernel
theorem dX4_enter_14 : decode cX4_enter 14 = .ok (.aload_n 0, 1) := by decide +kernel
theorem dX4_enter_15 : decode cX4_enter 15 = .ok (.getfield 22, 3) := by decide +kernel
theorem dX4_enter_18 : decode cX4_enter 18 = .ok (.arraylength, 1) := by decide +kernel
theorem dX4_enter_19 : decode cX4_enter 19 = .ok (.if_icmp .ge 17, 3) := by decide +kernel
theorem dX4_enter_22 : decode cX4_enter 22 = .ok (.aload_n 0, 1) := by decide +kernel
theorem dX4_enter_23 : decode cX4_enter 23 = .ok (.getfield 18, 3) := by decide +kernel
theorem dX4_enter_26 : decode cX4_enter 26 = .ok (.iload_n 3, 1) := by decide +kernel
theorem dX4_enter_27 : decode cX4_enter 27 = .ok (.iload_n 1, 1) := by decide +kernel
theorem dX4_enter_28 : decode cX4_enter 28 = .ok (.iastore, 1) := by decide +kernel
theorem dX4_enter_29 : decode cX4_enter 29 = .ok (.aload_n 0, 1) := by decide +kernel
theorem dX4_enter_30 : decode cX4_enter 30 = .ok (.getfield 22, 3) := by decide +kernel
theorem dX4_enter_33 : decode cX4_enter 33 = .ok (.iload_n 3, 1) := by decide +kernel
theorem dX4_enter_34 : decode cX4_enter 34 = .ok (.iload_n 2, 1) := by decide +kernel
theorem dX4_enter_35 : decode cX4_enter 35 = .ok (.iastore, 1) := by decide +kernel
theorem dX4_enter_36 : decode cX4_enter 36 = .ok (.return_, 1) := by decide +kernel
theorem dX4_workWord_0 : decode cX4_workWord 0 = .ok (.aload_n 1, 1) := by decide +kernel
theorem dX4_workWord_1 : decode cX4_workWord 1 = .ok (.iload_n 2, 1) := by decide +kernel
theorem dX4_workWord_2 : decode cX4_workWord 2 = .ok (.invokevirtual 64, 3) := by decide +kernel
theorem dX4_workWord_5 : decode cX4_workWord 5 = .ok (.istore 4, 2) := by decide +kernel
theorem dX4_workWord_7 : decode cX4_workWord 7 = .ok (.iload 4, 2) := by decide +kernel
theorem dX4_workWord_9 : decode cX4_workWord 9 = .ok (.invokestatic 96, 3) := by decide +kernel
theorem dX4_workWord_12 : decode cX4_workWord 12 = .ok (.istore 5, 2) := by decide +kernel
theorem dX4_workWord_14 : decode cX4_workWord 14 = .ok (.iload 4, 2) := by decide +kernel
theorem dX4_workWord_16 : decode cX4_workWord 16 = .ok (.invokestatic 101, 3) := by decide +kernel
theorem dX4_workWord_19 : decode cX4_workWord 19 = .ok (.istore 6, 2) := by decide +kernel
theorem dX4_workWord_21 : decode cX4_workWord 21 = .ok (.aload_n 1, 1) := by decide +kernel
theorem dX4_workWord_22 : decode cX4_workWord 22 = .ok (.iload_n 2, 1) := by decide +kernel
theorem dX4_workWord_23 : decode cX4_workWord 23 = .ok (.invokevirtual 87, 3) := by decide +kernel
theorem dX4_workWord_26 : decode cX4_workWord 26 = .ok (.istore 7, 2) := by decide +kernel
theorem dX4_workWord_28 : decode cX4_workWord 28 = .ok (.iconst 0, 1) := by decide +kernel
theorem dX4_workWord_29 : decode cX4_workWord 29 = .ok (.istore 8, 2) := by decide +kernel
theorem dX4_workWord_31 : decode cX4_workWord 31 = .ok (.iload 8, 2) := by decide +kernel
theorem dX4_workWord_33 : decode cX4_workWord 33 = .ok (.iload 7, 2) := by decide +kernel
theorem dX4_workWord_35 : decode cX4_workWord 35 = .ok (.if_icmp .ge 68, 3) := by decide +kernel
theorem dX4_workWord_38 : decode cX4_workWord 38 = .ok (.aload_n 0, 1) := by decide +kernel
theorem dX4_workWord_39 : decode cX4_workWord 39 = .ok (.iload 5, 2) := by decide +kernel
theorem dX4_workWord_41 : decode cX4_workWord 41 = .ok (.iload 6, 2) := by decide +kernel
theorem dX4_workWord_43 : decode cX4_workWord 43 = .ok (.invokevirtual 104, 3) := by decide +kernel
theorem dX4_workWord_46 : decode cX4_workWord 46 = .ok (.istore 9, 2) := by decide +kernel
theorem dX4_workWord_48 : decode cX4_workWord 48 = .ok (.iload 9, 2) := by decide +kernel
theorem dX4_workWord_50 : decode cX4_workWord 50 = .ok (.ifCond .eq 16, 3) := by decide +kernel
theorem dX4_workWord_53 : decode cX4_workWord 53 = .ok (.aload_n 0, 1) := by decide +kernel
theorem dX4_workWord_54 : decode cX4_workWord 54 = .ok (.iload 9, 2) := by decide +kernel
theorem dX4_workWord_56 : decode cX4_workWord 56 = .ok (.aload_n 1, 1) := by decide +kernel
theorem dX4_workWord_57 : decode cX4_workWord 57 = .ok (.iload_n 2, 1) := by decide +kernel
theorem dX4_workWord_58 : decode cX4_workWord 58 = .ok (.invokevirtual 90, 3) := by decide +kernel
theorem dX4_workWord_61 : decode cX4_workWord 61 = .ok (.iload_n 3, 1) := by decide +kernel
theorem dX4_workWord_62 : decode cX4_workWord 62 = .ok (.invokevirtual 33, 3) := by decide +kernel
theorem dX4_workWord_65 : decode cX4_workWord 65 = .ok (.return_, 1) := by decide +kernel
theorem dX4_workWord_66 : decode cX4_workWord 66 = .ok (.aload_n 0, 1) := by decide +kernel
theorem dX4_workWord_67 : decode cX4_workWord 67 = .ok (.getfield 12, 3) := by decide +kernel
theorem dX4_workWord_70 : decode cX4_workWord 70 = .ok (.iload 4, 2) := by decide +kernel
theorem dX4_workWord_72 : decode cX4_workWord 72 = .ok (.invokevirtual 107, 3) := by decide +kernel
theorem dX4_workWord_75 : decode cX4_workWord 75 = .ok (.aload_n 0, 1) := by decide +kernel
theorem dX4_workWord_76 : decode cX4_workWord 76 = .ok (.dup, 1) := by decide +kernel
theorem dX4_workWord_77 : decode cX4_workWord 77 = .ok (.getfield 46, 3) := by decide +kernel
theorem dX4_workWord_80 : decode cX4_workWord 80 = .ok (.iload 5, 2) := by decide +kernel
theorem dX4_workWord_82 : decode cX4_workWord 82 = .ok (.isub, 1) := by decide +kernel
theorem dX4_workWord_83 : decode cX4_workWord 83 = .ok (.putfield 46, 3) := by decide +kernel
theorem dX4_workWord_86 : decode cX4_workWord 86 = .ok (.aload_n 0, 1) := by decide +kernel
theorem dX4_workWord_87 : decode cX4_workWord 87 = .ok (.dup, 1) := by decide +kernel
theorem dX4_workWord_88 : decode cX4_workWord 88 = .ok (.getfield 55, 3) := by decide +kernel
theorem dX4_workWord_91 : decode cX4_workWord 91 = .ok (.iload 6, 2) := by decide +kernel
theorem dX4_workWord_93 : decode cX4_workWord 93 = .ok (.iadd, 1) := by decide +kernel
theorem dX4_workWord_94 : decode cX4_workWord 94 = .ok (.putfield 55, 3) := by decide +kernel
theorem dX4_workWord_97 : decode cX4_workWord 97 = .ok (.iinc 8 1, 3) := by decide +kernel
theorem dX4_workWord_100 : decode cX4_workWord 100 = .ok (.goto (-69), 3) := by decide +kernel
theorem dX4_workWord_103 : decode cX4_workWord 103 = .ok (.return_, 1) := by decide +kernel
theorem dX4_hitchOf_0 : decode cX4_hitchOf 0 = .ok (.iload_n 1, 1) := by decide +kernel
theorem dX4_hitchOf_1 : decode cX4_hitchOf 1 = .ok (.aload_n 0, 1) := by decide +kernel
theorem dX4_hitchOf_2 : decode cX4_hitchOf 2 = .ok (.getfield 46, 3) := by decide +kernel
theorem dX4_hitchOf_5 : decode cX4_hitchOf 5 = .ok (.if_icmp .le 5, 3) := by decide +kernel
theorem dX4_hitchOf_8 : decode cX4_hitchOf 8 = .ok (.iconst 1, 1) := by decide +kernel
theorem dX4_hitchOf_9 : decode cX4_hitchOf 9 = .ok (.ireturn, 1) := by decide +kernel
theorem dX4_hitchOf_10 : decode cX4_hitchOf 10 = .ok (.aload_n 0, 1) := by decide +kernel
theorem dX4_hitchOf_11 : decode cX4_hitchOf 11 = .ok (.getfield 55, 3) := by decide +kernel
theorem dX4_hitchOf_14 : decode cX4_hitchOf 14 = .ok (.iload_n 2, 1) := by decide +kernel
theorem dX4_hitchOf_15 : decode cX4_hitchOf 15 = .ok (.iadd, 1) := by decide +kernel
theorem dX4_hitchOf_16 : decode cX4_hitchOf 16 = .ok (.bipush 60, 2) := by decide +kernel
theorem dX4_hitchOf_18 : decode cX4_hitchOf 18 = .ok (.if_icmp .le 5, 3) := by decide +kernel
theorem dX4_hitchOf_21 : decode cX4_hitchOf 21 = .ok (.iconst 2, 1) := by decide +kernel
theorem dX4_hitchOf_22 : decode cX4_hitchOf 22 = .ok (.ireturn, 1) := by decide +kernel
theorem dX4_hitchOf_23 : decode cX4_hitchOf 23 = .ok (.aload_n 0, 1) := by decide +kernel
theorem dX4_hitchOf_24 : decode cX4_hitchOf 24 = .ok (.getfield 12, 3) := by decide +kernel
theorem dX4_hitchOf_27 : decode cX4_hitchOf 27 = .ok (.getfield 53, 3) := by decide +kernel
theorem dX4_hitchOf_30 : decode cX4_hitchOf 30 = .ok (.sipush 200, 3) := by decide +kernel
theorem dX4_hitchOf_33 : decode cX4_hitchOf 33 = .ok (.if_icmp .lt 7, 3) := by decide +kernel
theorem dX4_hitchOf_36 : decode cX4_hitchOf 36 = .ok (.iconst 3, 1) := by decide +kernel
theorem dX4_hitchOf_37 : decode cX4_hitchOf 37 = .ok (.goto 4, 3) := by decide +kernel
theorem dX4_hitchOf_40 : decode cX4_hitchOf 40 = .ok (.iconst 0, 1) := by decide +kernel
theorem dX4_hitchOf_41 : decode cX4_hitchOf 41 = .ok (.ireturn, 1) := by decide +kernel
theorem dX5_init_0 : decode cX5_init 0 = .ok (.aload_n 0, 1) := by decide +kernel
theorem dX5_init_1 : decode cX5_init 1 = .ok (.invokespecial 3, 3) := by decide +kernel
theorem dX5_init_4 : decode cX5_init 4 = .ok (.aload_n 0, 1) := by decide +kernel
theorem dX5_init_5 : decode cX5_init 5 = .ok (.bipush 40, 2) := by decide +kernel
theorem dX5_init_7 : decode cX5_init 7 = .ok (.newarray .long, 2) := by decide +kernel
theorem dX5_init_9 : decode cX5_init 9 = .ok (.putfield 9, 3) := by decide +kernel
theorem dX5_init_12 : decode cX5_init 12 = .ok (.aload_n 0, 1) := by decide +kernel
theorem dX5_init_13 : decode cX5_init 13 = .ok (.iconst (-1), 1) := by decide +kernel
theorem dX5_init_14 : decode cX5_init 14 = .ok (.putfield 15, 3) := by decide +kernel
theorem dX5_init_17 : decode cX5_init 17 = .ok (.return_, 1) := by decide +kernel
theorem dX5_isSort_0 : decode cX5_isSort 0 = .ok (.iload_n 0, 1) := by decide +kernel
theorem dX5_isSort_1 : decode cX5_isSort 1 = .ok (.ifCond .lt 12, 3) := by decide +kernel
theorem dX5_isSort_4 : decode cX5_isSort 4 = .ok (.iload_n 0, 1) := by decide +kernel
theorem dX5_isSort_5 : decode cX5_isSort 5 = .ok (.iconst 4, 1) := by decide +kernel
theorem dX5_isSort_6 : decode cX5_isSort 6 = .ok (.if_icmp .gt 7, 3) := by decide +kernel
theorem dX5_isSort_9 : decode cX5_isSort 9 = .ok (.iconst 1, 1) := by decide +kernel
theorem dX5_isSort_10 : decode cX5_isSort 10 = .ok (.goto 4, 3) := by decide +kernel
theorem dX5_isSort_13 : decode cX5_isSort 13 = .ok (.iconst 0, 1) := by decide +kernel
theorem dX5_isSort_14 : decode cX5_isSort 14 = .ok (.ireturn, 1) := by decide +kernel
theorem dX5_isBare_0 : decode cX5_isBare 0 = .ok (.aload_n 0, 1) := by decide +kernel
theorem dX5_isBare_1 : decode cX5_isBare 1 = .ok (.getfield 15, 3) := by decide +kernel
theorem dX5_isBare_4 : decode cX5_isBare 4 = .ok (.iconst (-1), 1) := by decide +kernel
theorem dX5_isBare_5 : decode cX5_isBare 5 = .ok (.if_icmp .ne 7, 3) := by decide +kernel
theorem dX5_isBare_8 : decode cX5_isBare 8 = .ok (.iconst 1, 1) := by decide +kernel
theorem dX5_isBare_9 : decode cX5_isBare 9 = .ok (.goto 4, 3) := by decide +kernel
theorem dX5_isBare_12 : decode cX5_isBare 12 = .ok (.iconst 0, 1) := by decide +kernel
theorem dX5_isBare_13 : decode cX5_isBare 13 = .ok (.ireturn, 1) := by decide +kernel
theorem dX5_hasRow_0 : decode cX5_hasRow 0 = .ok (.aload_n 0, 1) := by decide +kernel
theorem dX5_hasRow_1 : decode cX5_hasRow 1 = .ok (.getfield 15, 3) := by decide +kernel
theorem dX5_hasRow_4 : decode cX5_hasRow 4 = .ok (.invokestatic 19, 3) := by decide +kernel
theorem dX5_hasRow_7 : decode cX5_hasRow 7 = .ok (.ireturn, 1) := by decide +kernel
theorem dX5_hasStitch_0 : decode cX5_hasStitch 0 = .ok (.aload_n 0, 1) := by decide +kernel
theorem dX5_hasStitch_1 : decode cX5_hasStitch 1 = .ok (.getfield 15, 3) := by decide +kernel
theorem dX5_hasStitch_4 : decode cX5_hasStitch 4 = .ok (.bipush 10, 2) := by decide +kernel
theorem dX5_hasStitch_6 : decode cX5_hasStitch 6 = .ok (.if_icmp .lt 7, 3) := by decide +kernel
theorem dX5_hasStitch_9 : decode cX5_hasStitch 9 = .ok (.iconst 1, 1) := by decide +kernel
theorem dX5_hasStitch_10 : decode cX5_hasStitch 10 = .ok (.goto 4, 3) := by decide +kernel
theorem dX5_hasStitch_13 : decode cX5_hasStitch 13 = .ok (.iconst 0, 1) := by decide +kernel
theorem dX5_hasStitch_14 : decode cX5_hasStitch 14 = .ok (.ireturn, 1) := by decide +kernel
theorem dX5_stitchKind_0 : decode cX5_stitchKind 0 = .ok (.aload_n 0, 1) := by decide +kernel
theorem dX5_stitchKind_1 : decode cX5_stitchKind 1 = .ok (.invokevirtual 23, 3) := by decide +kernel
theorem dX5_stitchKind_4 : decode cX5_stitchKind 4 = .ok (.ifCond .eq 13, 3) := by decide +kernel
theorem dX5_stitchKind_7 : decode cX5_stitchKind 7 = .ok (.aload_n 0, 1) := by decide +kernel
theorem dX5_stitchKind_8 : decode cX5_stitchKind 8 = .ok (.getfield 15, 3) := by decide +kernel
theorem dX5_stitchKind_11 : decode cX5_stitchKind 11 = .ok (.bipush 10, 2) := by decide +kernel
theorem dX5_stitchKind_13 : decode cX5_stitchKind 13 = .ok (.isub, 1) := by decide +kernel
theorem dX5_stitchKind_14 : decode cX5_stitchKind 14 = .ok (.goto 4, 3) := by decide +kernel
theorem dX5_stitchKind_17 : decode cX5_stitchKind 17 = .ok (.iconst (-1), 1) := by decide +kernel
theorem dX5_stitchKind_18 : decode cX5_stitchKind 18 = .ok (.ireturn, 1) := by decide +kernel
theorem dX5_putNothing_0 : decode cX5_putNothing 0 = .ok (.aload_n 0, 1) := by decide +kernel
theorem dX5_putNothing_1 : decode cX5_putNothing 1 = .ok (.iconst (-1), 1) := by decide +kernel
theorem dX5_putNothing_2 : decode cX5_putNothing 2 = .ok (.putfield 15, 3) := by decide +kernel
theorem dX5_putNothing_5 : decode cX5_putNothing 5 = .ok (.aload_n 0, 1) := by decide +kernel
theorem dX5_putNothing_6 : decode cX5_putNothing 6 = .ok (.iconst 0, 1) := by decide +kernel
theorem dX5_putNothing_7 : decode cX5_putNothing 7 = .ok (.putfield 27, 3) := by decide +kernel
theorem dX5_putNothing_10 : decode cX5_putNothing 10 = .ok (.return_, 1) := by decide +kernel
theorem dX5_putStitch_0 : decode cX5_putStitch 0 = .ok (.aload_n 0, 1) := by decide +kernel
theorem dX5_putStitch_1 : decode cX5_putStitch 1 = .ok (.bipush 10, 2) := by decide +kernel
theorem dX5_putStitch_3 : decode cX5_putStitch 3 = .ok (.iload_n 1, 1) := by decide +kernel
theorem dX5_putStitch_4 : decode cX5_putStitch 4 = .ok (.iadd, 1) := by decide +kernel
theorem dX5_putStitch_5 : decode cX5_putStitch 5 = .ok (.putfield 15, 3) := by decide +kernel
theorem dX5_putStitch_8 : decode cX5_putStitch 8 = .ok (.aload_n 0, 1) := by decide +kernel
theorem dX5_putStitch_9 : decode cX5_putStitch 9 = .ok (.iconst 0, 1) := by decide +kernel
theorem dX5_putStitch_10 : decode cX5_putStitch 10 = .ok (.putfield 27, 3) := by decide +kernel
theorem dX5_putStitch_13 : decode cX5_putStitch 13 = .ok (.return_, 1) := by decide +kernel
theorem dX5_putRow_0 : decode cX5_putRow 0 = .ok (.aload_n 0, 1) := by decide +kernel
theorem dX5_putRow_1 : decode cX5_putRow 1 = .ok (.iload_n 1, 1) := by decide +kernel
theorem dX5_putRow_2 : decode cX5_putRow 2 = .ok (.putfield 15, 3) := by decide +kernel
theorem dX5_putRow_5 : decode cX5_putRow 5 = .ok (.aload_n 0, 1) := by decide +kernel
theorem dX5_putRow_6 : decode cX5_putRow 6 = .ok (.iload_n 2, 1) := by decide +kernel
theorem dX5_putRow_7 : decode cX5_putRow 7 = .ok (.putfield 27, 3) := by decide +kernel
theorem dX5_putRow_10 : decode cX5_putRow 10 = .ok (.aload_n 0, 1) := by decide +kernel
theorem dX5_putRow_11 : decode cX5_putRow 11 = .ok (.getfield 9, 3) := by decide +kernel
theorem dX5_putRow_14 : decode cX5_putRow 14 = .ok (.lconst 0, 1) := by decide +kernel
theorem dX5_putRow_15 : decode cX5_putRow 15 = .ok (.invokestatic 30, 3) := by decide +kernel
theorem dX5_putRow_18 : decode cX5_putRow 18 = .ok (.return_, 1) := by decide +kernel
theorem dX5_hasElement_0 : decode cX5_hasElement 0 = .ok (.aload_n 0, 1) := by decide +kernel
theorem dX5_hasElement_1 : decode cX5_hasElement 1 = .ok (.invokevirtual 36, 3) := by decide +kernel
theorem dX5_hasElement_4 : decode cX5_hasElement 4 = .ok (.ifCond .eq 28, 3) := by decide +kernel
theorem dX5_hasElement_7 : decode cX5_hasElement 7 = .ok (.iload_n 1, 1) := by decide +kernel
theorem dX5_hasElement_8 : decode cX5_hasElement 8 = .ok (.ifCond .lt 24, 3) := by decide +kernel
theorem dX5_hasElement_11 : decode cX5_hasElement 11 = .ok (.iload_n 1, 1) := by decide +kernel
theorem dX5_hasElement_12 : decode cX5_hasElement 12 = .ok (.aload_n 0, 1) := by decide +kernel
theorem dX5_hasElement_13 : decode cX5_hasElement 13 = .ok (.getfield 27, 3) := by decide +kernel
theorem dX5_hasElement_16 : decode cX5_hasElement 16 = .ok (.if_icmp .ge 16, 3) := by decide +kernel
theorem dX5_hasElement_19 : decode cX5_hasElement 19 = .ok (.iload_n 1, 1) := by decide +kernel
theorem dX5_hasElement_20 : decode cX5_hasElement 20 = .ok (.aload_n 0, 1) := by decide +kernel
theorem dX5_hasElement_21 : decode cX5_hasElement 21 = .ok (.getfield 9, 3) := by decide +kernel
theorem dX5_hasElement_24 : decode cX5_hasElement 24 = .ok (.arraylength, 1) := by decide +kernel
theorem dX5_hasElement_25 : decode cX5_hasElement 25 = .ok (.if_icmp .ge 7, 3) := by decide +kernel
theorem dX5_hasElement_28 : decode cX5_hasElement 28 = .ok (.iconst 1, 1) := by decide +kernel
theorem dX5_hasElement_29 : decode cX5_hasElement 29 = .ok (.goto 4, 3) := by decide +kernel
theorem dX5_hasElement_32 : decode cX5_hasElement 32 = .ok (.iconst 0, 1) := by decide +kernel
theorem dX5_hasElement_33 : decode cX5_hasElement 33 = .ok (.ireturn, 1) := by decide +kernel
theorem dX5_putElement_0 : decode cX5_putElement 0 = .ok (.aload_n 0, 1) := by decide +kernel
theorem dX5_putElement_1 : decode cX5_putElement 1 = .ok (.iload_n 1, 1) := by decide +kernel
theorem dX5_putElement_2 : decode cX5_putElement 2 = .ok (.invokevirtual 39, 3) := by decide +kernel
theorem dX5_putElement_5 : decode cX5_putElement 5 = .ok (.ifCond .ne 5, 3) := by decide +kernel
theorem dX5_putElement_8 : decode cX5_putElement 8 = .ok (.iconst 0, 1) := by decide +kernel
theorem dX5_putElement_9 : decode cX5_putElement 9 = .ok (.ireturn, 1) := by decide +kernel
theorem dX5_putElement_10 : decode cX5_putElement 10 = .ok (.aload_n 0, 1) := by decide +kernel
theorem dX5_putElement_11 : decode cX5_putElement 11 = .ok (.getfield 9, 3) := by decide +kernel
theorem dX5_putElement_14 : decode cX5_putElement 14 = .ok (.iload_n 1, 1) := by decide +kernel
theorem dX5_putElement_15 : decode cX5_putElement 15 = .ok (.aload_n 0, 1) := by decide +kernel
theorem dX5_putElement_16 : decode cX5_putElement 16 = .ok (.lload_n 2, 1) := by decide +kernel
theorem dX5_putElement_17 : decode cX5_putElement 17 = .ok (.invokevirtual 42, 3) := by decide +kernel
theorem dX5_putElement_20 : decode cX5_putElement 20 = .ok (.lastore, 1) := by decide +kernel
theorem dX5_putElement_21 : decode cX5_putElement 21 = .ok (.iconst 1, 1) := by decide +kernel
theorem dX5_putElement_22 : decode cX5_putElement 22 = .ok (.ireturn, 1) := by decide +kernel
theorem dX5_elementAt_0 : decode cX5_elementAt 0 = .ok (.aload_n 0, 1) := by decide +kernel
theorem dX5_elementAt_1 : decode cX5_elementAt 1 = .ok (.iload_n 1, 1) := by decide +kernel
theorem dX5_elementAt_2 : decode cX5_elementAt 2 = .ok (.invokevirtual 39, 3) := by decide +kernel
theorem dX5_elementAt_5 : decode cX5_elementAt 5 = .ok (.ifCond .eq 12, 3) := by decide +kernel
theorem dX5_elementAt_8 : decode cX5_elementAt 8 = .ok (.aload_n 0, 1) := by decide +kernel
theorem dX5_elementAt_9 : decode cX5_elementAt 9 = .ok (.getfield 9, 3) := by decide +kernel
theorem dX5_elementAt_12 : decode cX5_elementAt 12 = .ok (.iload_n 1, 1) := by decide +kernel
theorem dX5_elementAt_13 : decode cX5_elementAt 13 = .ok (.laload, 1) := by decide +kernel
theorem dX5_elementAt_14 : decode cX5_elementAt 14 = .ok (.goto 4, 3) := by decide +kernel
theorem dX5_elementAt_17 : decode cX5_elementAt 17 = .ok (.lconst 0, 1) := by decide +kernel
theorem dX5_elementAt_18 : decode cX5_elementAt 18 = .ok (.lreturn, 1) := by decide +kernel
theorem dX5_hasSpan_0 : decode cX5_hasSpan 0 = .ok (.iload_n 2, 1) := by decide +kernel
theorem dX5_hasSpan_1 : decode cX5_hasSpan 1 = .ok (.ifCond .lt 29, 3) := by decide +kernel
theorem dX5_hasSpan_4 : decode cX5_hasSpan 4 = .ok (.iload_n 1, 1) := by decide +kernel
theorem dX5_hasSpan_5 : decode cX5_hasSpan 5 = .ok (.ifCond .lt 25, 3) := by decide +kernel
theorem dX5_hasSpan_8 : decode cX5_hasSpan 8 = .ok (.iload_n 1, 1) := by decide +kernel
theorem dX5_hasSpan_9 : decode cX5_hasSpan 9 = .ok (.aload_n 0, 1) := by decide +kernel
theorem dX5_hasSpan_10 : decode cX5_hasSpan 10 = .ok (.getfield 27, 3) := by decide +kernel
theorem dX5_hasSpan_13 : decode cX5_hasSpan 13 = .ok (.aload_n 0, 1) := by decide +kernel
theorem dX5_hasSpan_14 : decode cX5_hasSpan 14 = .ok (.getfield 9, 3) := by decide +kernel
theorem dX5_hasSpan_17 : decode cX5_hasSpan 17 = .ok (.arraylength, 1) := by decide +kernel
theorem dX5_hasSpan_18 : decode cX5_hasSpan 18 = .ok (.invokestatic 46, 3) := by decide +kernel
theorem dX5_hasSpan_21 : decode cX5_hasSpan 21 = .ok (.iload_n 2, 1) := by decide +kernel
theorem dX5_hasSpan_22 : decode cX5_hasSpan 22 = .ok (.isub, 1) := by decide +kernel
theorem dX5_hasSpan_23 : decode cX5_hasSpan 23 = .ok (.if_icmp .gt 7, 3) := by decide +kernel
theorem dX5_hasSpan_26 : decode cX5_hasSpan 26 = .ok (.iconst 1, 1) := by decide +kernel
theorem dX5_hasSpan_27 : decode cX5_hasSpan 27 = .ok (.goto 4, 3) := by decide +kernel
theorem dX5_hasSpan_30 : decode cX5_hasSpan 30 = .ok (.iconst 0, 1) := by decide +kernel
theorem dX5_hasSpan_31 : decode cX5_hasSpan 31 = .ok (.ireturn, 1) := by decide +kernel
theorem dX5_giveElements_0 : decode cX5_giveElements 0 = .ok (.aload_n 0, 1) := by decide +kernel
theorem dX5_giveElements_1 : decode cX5_giveElements 1 = .ok (.iload_n 1, 1) := by decide +kernel
theorem dX5_giveElements_2 : decode cX5_giveElements 2 = .ok (.iload 4, 2) := by decide +kernel
theorem dX5_giveElements_4 : decode cX5_giveElements 4 = .ok (.invokevirtual 52, 3) := by decide +kernel
theorem dX5_giveElements_7 : decode cX5_giveElements 7 = .ok (.ifCond .eq 13, 3) := by decide +kernel
theorem dX5_giveElements_10 : decode cX5_giveElements 10 = .ok (.aload_n 2, 1) := by decide +kernel
theorem dX5_giveElements_11 : decode cX5_giveElements 11 = .ok (.iload_n 3, 1) := by decide +kernel
theorem dX5_giveElements_12 : decode cX5_giveElements 12 = .ok (.iload 4, 2) := by decide +kernel
theorem dX5_giveElements_14 : decode cX5_giveElements 14 = .ok (.invokevirtual 52, 3) := by decide +kernel
theorem dX5_giveElements_17 : decode cX5_giveElements 17 = .ok (.ifCond .ne 5, 3) := by decide +kernel
theorem dX5_giveElements_20 : decode cX5_giveElements 20 = .ok (.iconst 0, 1) := by decide +kernel
theorem dX5_giveElements_21 : decode cX5_giveElements 21 = .ok (.ireturn, 1) := by decide +kernel
theorem dX5_giveElements_22 : decode cX5_giveElements 22 = .ok (.aload_n 0, 1) := by decide +kernel
theorem dX5_giveElements_23 : decode cX5_giveElements 23 = .ok (.getfield 9, 3) := by decide +kernel
theorem dX5_giveElements_26 : decode cX5_giveElements 26 = .ok (.iload_n 1, 1) := by decide +kernel
theorem dX5_giveElements_27 : decode cX5_giveElements 27 = .ok (.aload_n 2, 1) := by decide +kernel
theorem dX5_giveElements_28 : decode cX5_giveElements 28 = .ok (.getfield 9, 3) := by decide +kernel
theorem dX5_giveElements_31 : decode cX5_giveElements 31 = .ok (.iload_n 3, 1) := by decide +kernel
theorem dX5_giveElements_32 : decode cX5_giveElements 32 = .ok (.iload 4, 2) := by decide +kernel
theorem dX5_giveElements_34 : decode cX5_giveElements 34 = .ok (.invokestatic 56, 3) := by decide +kernel
theorem dX5_giveElements_37 : decode cX5_giveElements 37 = .ok (.iconst 1, 1) := by decide +kernel
theorem dX5_giveElements_38 : decode cX5_giveElements 38 = .ok (.ireturn, 1) := by decide +kernel
theorem dX5_lowestBits_0 : decode cX5_lowestBits 0 = .ok (.aload_n 0, 1) := by decide +kernel
theorem dX5_lowestBits_1 : decode cX5_lowestBits 1 = .ok (.getfield 15, 3) := by decide +kernel
theorem dX5_lowestBits_4 : decode cX5_lowestBits 4 = .ok (.tableswitch 62 0 4 #[36, 41, 46, 62, 50], 36) := by decide +kernel
theorem dX5_lowestBits_40 : decode cX5_lowestBits 40 = .ok (.lload_n 1, 1) := by decide +kernel
theorem dX5_lowestBits_41 : decode cX5_lowestBits 41 = .ok (.l2i, 1) := by decide +kernel
theorem dX5_lowestBits_42 : decode cX5_lowestBits 42 = .ok (.i2b, 1) := by decide +kernel
theorem dX5_lowestBits_43 : decode cX5_lowestBits 43 = .ok (.i2l, 1) := by decide +kernel
theorem dX5_lowestBits_44 : decode cX5_lowestBits 44 = .ok (.lreturn, 1) := by decide +kernel
theorem dX5_lowestBits_45 : decode cX5_lowestBits 45 = .ok (.lload_n 1, 1) := by decide +kernel
theorem dX5_lowestBits_46 : decode cX5_lowestBits 46 = .ok (.l2i, 1) := by decide +kernel
theorem dX5_lowestBits_47 : decode cX5_lowestBits 47 = .ok (.i2s, 1) := by decide +kernel
theorem dX5_lowestBits_48 : decode cX5_lowestBits 48 = .ok (.i2l, 1) := by decide +kernel
theorem dX5_lowestBits_49 : decode cX5_lowestBits 49 = .ok (.lreturn, 1) := by decide +kernel
theorem dX5_lowestBits_50 : decode cX5_lowestBits 50 = .ok (.lload_n 1, 1) := by decide +kernel
theorem dX5_lowestBits_51 : decode cX5_lowestBits 51 = .ok (.l2i, 1) := by decide +kernel
theorem dX5_lowestBits_52 : decode cX5_lowestBits 52 = .ok (.i2l, 1) := by decide +kernel
theorem dX5_lowestBits_53 : decode cX5_lowestBits 53 = .ok (.lreturn, 1) := by decide +kernel
theorem dX5_lowestBits_54 : decode cX5_lowestBits 54 = .ok (.lload_n 1, 1) := by decide +kernel
theorem dX5_lowestBits_55 : decode cX5_lowestBits 55 = .ok (.lconst 0, 1) := by decide +kernel
theorem dX5_lowestBits_56 : decode cX5_lowestBits 56 = .ok (.lcmp, 1) := by decide +kernel
theorem dX5_lowestBits_57 : decode cX5_lowestBits 57 = .ok (.ifCond .ne 7, 3) := by decide +kernel
theorem dX5_lowestBits_60 : decode cX5_lowestBits 60 = .ok (.lconst 0, 1) := by decide +kernel
theorem dX5_lowestBits_61 : decode cX5_lowestBits 61 = .ok (.goto 4, 3) := by decide +kernel
theorem dX5_lowestBits_64 : decode cX5_lowestBits 64 = .ok (.lconst 1, 1) := by decide +kernel
theorem dX5_lowestBits_65 : decode cX5_lowestBits 65 = .ok (.lreturn, 1) := by decide +kernel
theorem dX5_lowestBits_66 : decode cX5_lowestBits 66 = .ok (.lload_n 1, 1) := by decide +kernel
theorem dX5_lowestBits_67 : decode cX5_lowestBits 67 = .ok (.lreturn, 1) := by decide +kernel
theorem dX6_init_0 : decode cX6_init 0 = .ok (.aload_n 0, 1) := by decide +kernel
theorem dX6_init_1 : decode cX6_init 1 = .ok (.invokespecial 3, 3) := by decide +kernel
theorem dX6_init_4 : decode cX6_init 4 = .ok (.aload_n 0, 1) := by decide +kernel
theorem dX6_init_5 : decode cX6_init 5 = .ok (.bipush 20, 2) := by decide +kernel
theorem dX6_init_7 : decode cX6_init 7 = .ok (.anewarray 9, 3) := by decide +kernel
theorem dX6_init_10 : decode cX6_init 10 = .ok (.putfield 11, 3) := by decide +kernel
theorem dX6_init_13 : decode cX6_init 13 = .ok (.aload_n 0, 1) := by decide +kernel
theorem dX6_init_14 : decode cX6_init 14 = .ok (.bipush 50, 2) := by decide +kernel
theorem dX6_init_16 : decode cX6_init 16 = .ok (.anewarray 17, 3) := by decide +kernel
theorem dX6_init_19 : decode cX6_init 19 = .ok (.putfield 19, 3) := by decide +kernel
theorem dX6_init_22 : decode cX6_init 22 = .ok (.aload_n 0, 1) := by decide +kernel
theorem dX6_init_23 : decode cX6_init 23 = .ok (.iconst 0, 1) := by decide +kernel
theorem dX6_init_24 : decode cX6_init 24 = .ok (.putfield 23, 3) := by decide +kernel
theorem dX6_init_27 : decode cX6_init 27 = .ok (.aload_n 0, 1) := by decide +kernel
theorem dX6_init_28 : decode cX6_init 28 = .ok (.iconst 0, 1) := by decide +kernel
theorem dX6_init_29 : decode cX6_init 29 = .ok (.putfield 27, 3) := by decide +kernel
theorem dX6_init_32 : decode cX6_init 32 = .ok (.aload_n 0, 1) := by decide +kernel
theorem dX6_init_33 : decode cX6_init 33 = .ok (.iconst 1, 1) := by decide +kernel
theorem dX6_init_34 : decode cX6_init 34 = .ok (.putfield 30, 3) := by decide +kernel
theorem dX6_init_37 : decode cX6_init 37 = .ok (.iconst 0, 1) := by decide +kernel
theorem dX6_init_38 : decode cX6_init 38 = .ok (.istore_n 1, 1) := by decide +kernel
theorem dX6_init_39 : decode cX6_init 39 = .ok (.iload_n 1, 1) := by decide +kernel
theorem dX6_init_40 : decode cX6_init 40 = .ok (.aload_n 0, 1) := by decide +kernel
theorem dX6_init_41 : decode cX6_init 41 = .ok (.getfield 19, 3) := by decide +kernel
theorem dX6_init_44 : decode cX6_init 44 = .ok (.arraylength, 1) := by decide +kernel
theorem dX6_init_45 : decode cX6_init 45 = .ok (.if_icmp .ge 22, 3) := by decide +kernel
theorem dX6_init_48 : decode cX6_init 48 = .ok (.aload_n 0, 1) := by decide +kernel
theorem dX6_init_49 : decode cX6_init 49 = .ok (.getfield 19, 3) := by decide +kernel
theorem dX6_init_52 : decode cX6_init 52 = .ok (.iload_n 1, 1) := by decide +kernel
theorem dX6_init_53 : decode cX6_init 53 = .ok (.new 17, 3) := by decide +kernel
theorem dX6_init_56 : decode cX6_init 56 = .ok (.dup, 1) := by decide +kernel
theorem dX6_init_57 : decode cX6_init 57 = .ok (.invokespecial 33, 3) := by decide +kernel
theorem dX6_init_60 : decode cX6_init 60 = .ok (.aastore, 1) := by decide +kernel
theorem dX6_init_61 : decode cX6_init 61 = .ok (.iinc 1 1, 3) := by decide +kernel
theorem dX6_init_64 : decode cX6_init 64 = .ok (.goto (-25), 3) := by decide +kernel
theorem dX6_init_67 : decode cX6_init 67 = .ok (.return_, 1) := by decide +kernel
theorem dX6_takeFrom_0 : decode cX6_takeFrom 0 = .ok (.iconst 0, 1) := by decide +kernel
theorem dX6_takeFrom_1 : decode cX6_takeFrom 1 = .ok (.istore_n 2, 1) := by decide +kernel
theorem dX6_takeFrom_2 : decode cX6_takeFrom 2 = .ok (.iload_n 2, 1) := by decide +kernel
theorem dX6_takeFrom_3 : decode cX6_takeFrom 3 = .ok (.aload_n 0, 1) := by decide +kernel
theorem dX6_takeFrom_4 : decode cX6_takeFrom 4 = .ok (.getfield 11, 3) := by decide +kernel
theorem dX6_takeFrom_7 : decode cX6_takeFrom 7 = .ok (.arraylength, 1) := by decide +kernel
theorem dX6_takeFrom_8 : decode cX6_takeFrom 8 = .ok (.if_icmp .ge 30, 3) := by decide +kernel
theorem dX6_takeFrom_11 : decode cX6_takeFrom 11 = .ok (.iload_n 2, 1) := by decide +kernel
theorem dX6_takeFrom_12 : decode cX6_takeFrom 12 = .ok (.aload_n 1, 1) := by decide +kernel
theorem dX6_takeFrom_13 : decode cX6_takeFrom 13 = .ok (.getfield 11, 3) := by decide +kernel
theorem dX6_takeFrom_16 : decode cX6_takeFrom 16 = .ok (.arraylength, 1) := by decide +kernel
theorem dX6_takeFrom_17 : decode cX6_takeFrom 17 = .ok (.if_icmp .ge 21, 3) := by decide +kernel
theorem dX6_takeFrom_20 : decode cX6_takeFrom 20 = .ok (.aload_n 0, 1) := by decide +kernel
theorem dX6_takeFrom_21 : decode cX6_takeFrom 21 = .ok (.getfield 11, 3) := by decide +kernel
theorem dX6_takeFrom_24 : decode cX6_takeFrom 24 = .ok (.iload_n 2, 1) := by decide +kernel
theorem dX6_takeFrom_25 : decode cX6_takeFrom 25 = .ok (.aload_n 1, 1) := by decide +kernel
theorem dX6_takeFrom_26 : decode cX6_takeFrom 26 = .ok (.getfield 11, 3) := by decide +kernel
theorem dX6_takeFrom_29 : decode cX6_takeFrom 29 = .ok (.iload_n 2, 1) := by decide +kernel
theorem dX6_takeFrom_30 : decode cX6_takeFrom 30 = .ok (.aaload, 1) := by decide +kernel
theorem dX6_takeFrom_31 : decode cX6_takeFrom 31 = .ok (.aastore, 1) := by decide +kernel
theorem dX6_takeFrom_32 : decode cX6_takeFrom 32 = .ok (.iinc 2 1, 3) := by decide +kernel
theorem dX6_takeFrom_35 : decode cX6_takeFrom 35 = .ok (.goto (-33), 3) := by decide +kernel
theorem dX6_takeFrom_38 : decode cX6_takeFrom 38 = .ok (.aload_n 0, 1) := by decide +kernel
theorem dX6_takeFrom_39 : decode cX6_takeFrom 39 = .ok (.aload_n 1, 1) := by decide +kernel
theorem dX6_takeFrom_40 : decode cX6_takeFrom 40 = .ok (.getfield 34, 3) := by decide +kernel
theorem dX6_takeFrom_43 : decode cX6_takeFrom 43 = .ok (.putfield 34, 3) := by decide +kernel
theorem dX6_takeFrom_46 : decode cX6_takeFrom 46 = .ok (.iconst 0, 1) := by decide +kernel
theorem dX6_takeFrom_47 : decode cX6_takeFrom 47 = .ok (.istore_n 2, 1) := by decide +kernel
theorem dX6_takeFrom_48 : decode cX6_takeFrom 48 = .ok (.iload_n 2, 1) := by decide +kernel
theorem dX6_takeFrom_49 : decode cX6_takeFrom 49 = .ok (.aload_n 0, 1) := by decide +kernel
theorem dX6_takeFrom_50 : decode cX6_takeFrom 50 = .ok (.getfield 34, 3) := by decide +kernel
theorem dX6_takeFrom_53 : decode cX6_takeFrom 53 = .ok (.if_icmp .ge 37, 3) := by decide +kernel
theorem dX6_takeFrom_56 : decode cX6_takeFrom 56 = .ok (.aload_n 0, 1) := by decide +kernel
theorem dX6_takeFrom_57 : decode cX6_takeFrom 57 = .ok (.iload_n 2, 1) := by decide +kernel
theorem dX6_takeFrom_58 : decode cX6_takeFrom 58 = .ok (.invokevirtual 37, 3) := by decide +kernel
theorem dX6_takeFrom_61 : decode cX6_takeFrom 61 = .ok (.astore_n 3, 1) := by decide +kernel
theorem dX6_takeFrom_62 : decode cX6_takeFrom 62 = .ok (.aload_n 1, 1) := by decide +kernel
theorem dX6_takeFrom_63 : decode cX6_takeFrom 63 = .ok (.iload_n 2, 1) := by decide +kernel
theorem dX6_takeFrom_64 : decode cX6_takeFrom 64 = .ok (.invokevirtual 37, 3) := by decide +kernel
theorem dX6_takeFrom_67 : decode cX6_takeFrom 67 = .ok (.astore 4, 2) := by decide +kernel
theorem dX6_takeFrom_69 : decode cX6_takeFrom 69 = .ok (.aload_n 3, 1) := by decide +kernel
theorem dX6_takeFrom_70 : decode cX6_takeFrom 70 = .ok (.ifnull 14, 3) := by decide +kernel
theorem dX6_takeFrom_73 : decode cX6_takeFrom 73 = .ok (.aload 4, 2) := by decide +kernel
theorem dX6_takeFrom_75 : decode cX6_takeFrom 75 = .ok (.ifnull 9, 3) := by decide +kernel
theorem dX6_takeFrom_78 : decode cX6_takeFrom 78 = .ok (.aload_n 3, 1) := by decide +kernel
theorem dX6_takeFrom_79 : decode cX6_takeFrom 79 = .ok (.aload 4, 2) := by decide +kernel
theorem dX6_takeFrom_81 : decode cX6_takeFrom 81 = .ok (.invokevirtual 41, 3) := by decide +kernel
theorem dX6_takeFrom_84 : decode cX6_takeFrom 84 = .ok (.iinc 2 1, 3) := by decide +kernel
theorem dX6_takeFrom_87 : decode cX6_takeFrom 87 = .ok (.goto (-39), 3) := by decide +kernel
theorem dX6_takeFrom_90 : decode cX6_takeFrom 90 = .ok (.aload_n 0, 1) := by decide +kernel
theorem dX6_takeFrom_91 : decode cX6_takeFrom 91 = .ok (.aload_n 1, 1) := by decide +kernel
theorem dX6_takeFrom_92 : decode cX6_takeFrom 92 = .ok (.getfield 45, 3) := by decide +kernel
theorem dX6_takeFrom_95 : decode cX6_takeFrom 95 = .ok (.putfield 45, 3) := by decide +kernel
theorem dX6_takeFrom_98 : decode cX6_takeFrom 98 = .ok (.aload_n 0, 1) := by decide +kernel
theorem dX6_takeFrom_99 : decode cX6_takeFrom 99 = .ok (.aload_n 1, 1) := by decide +kernel
theorem dX6_takeFrom_100 : decode cX6_takeFrom 100 = .ok (.getfield 48, 3) := by decide +kernel
theorem dX6_takeFrom_103 : decode cX6_takeFrom 103 = .ok (.putfield 48, 3) := by decide +kernel
theorem dX6_takeFrom_106 : decode cX6_takeFrom 106 = .ok (.aload_n 0, 1) := by decide +kernel
theorem dX6_takeFrom_107 : decode cX6_takeFrom 107 = .ok (.aload_n 1, 1) := by decide +kernel
theorem dX6_takeFrom_108 : decode cX6_takeFrom 108 = .ok (.getfield 23, 3) := by decide +kernel
theorem dX6_takeFrom_111 : decode cX6_takeFrom 111 = .ok (.putfield 23, 3) := by decide +kernel
theorem dX6_takeFrom_114 : decode cX6_takeFrom 114 = .ok (.aload_n 0, 1) := by decide +kernel
theorem dX6_takeFrom_115 : decode cX6_takeFrom 115 = .ok (.aload_n 1, 1) := by decide +kernel
theorem dX6_takeFrom_116 : decode cX6_takeFrom 116 = .ok (.getfield 27, 3) := by decide +kernel
theorem dX6_takeFrom_119 : decode cX6_takeFrom 119 = .ok (.putfield 27, 3) := by decide +kernel
theorem dX6_takeFrom_122 : decode cX6_takeFrom 122 = .ok (.aload_n 0, 1) := by decide +kernel
theorem dX6_takeFrom_123 : decode cX6_takeFrom 123 = .ok (.aload_n 1, 1) := by decide +kernel
theorem dX6_takeFrom_124 : decode cX6_takeFrom 124 = .ok (.getfield 30, 3) := by decide +kernel
theorem dX6_takeFrom_127 : decode cX6_takeFrom 127 = .ok (.putfield 30, 3) := by decide +kernel
theorem dX6_takeFrom_130 : decode cX6_takeFrom 130 = .ok (.return_, 1) := by decide +kernel
theorem dX6_lineAt_0 : decode cX6_lineAt 0 = .ok (.iload_n 1, 1) := by decide +kernel
theorem dX6_lineAt_1 : decode cX6_lineAt 1 = .ok (.ifCond .lt 29, 3) := by decide +kernel
theorem dX6_lineAt_4 : decode cX6_lineAt 4 = .ok (.iload_n 1, 1) := by decide +kernel
theorem dX6_lineAt_5 : decode cX6_lineAt 5 = .ok (.aload_n 0, 1) := by decide +kernel
theorem dX6_lineAt_6 : decode cX6_lineAt 6 = .ok (.getfield 45, 3) := by decide +kernel
theorem dX6_lineAt_9 : decode cX6_lineAt 9 = .ok (.if_icmp .ge 21, 3) := by decide +kernel
theorem dX6_lineAt_12 : decode cX6_lineAt 12 = .ok (.iload_n 1, 1) := by decide +kernel
theorem dX6_lineAt_13 : decode cX6_lineAt 13 = .ok (.aload_n 0, 1) := by decide +kernel
theorem dX6_lineAt_14 : decode cX6_lineAt 14 = .ok (.getfield 11, 3) := by decide +kernel
theorem dX6_lineAt_17 : decode cX6_lineAt 17 = .ok (.arraylength, 1) := by decide +kernel
theorem dX6_lineAt_18 : decode cX6_lineAt 18 = .ok (.if_icmp .ge 12, 3) := by decide +kernel
theorem dX6_lineAt_21 : decode cX6_lineAt 21 = .ok (.aload_n 0, 1) := by decide +kernel
theorem dX6_lineAt_22 : decode cX6_lineAt 22 = .ok (.getfield 11, 3) := by decide +kernel
theorem dX6_lineAt_25 : decode cX6_lineAt 25 = .ok (.iload_n 1, 1) := by decide +kernel
theorem dX6_lineAt_26 : decode cX6_lineAt 26 = .ok (.aaload, 1) := by decide +kernel
theorem dX6_lineAt_27 : decode cX6_lineAt 27 = .ok (.goto 4, 3) := by decide +kernel
theorem dX6_lineAt_30 : decode cX6_lineAt 30 = .ok (.aconst_null, 1) := by decide +kernel
theorem dX6_lineAt_31 : decode cX6_lineAt 31 = .ok (.areturn, 1) := by decide +kernel
theorem dX6_doneAt_0 : decode cX6_doneAt 0 = .ok (.iload_n 1, 1) := by decide +kernel
theorem dX6_doneAt_1 : decode cX6_doneAt 1 = .ok (.ifCond .lt 29, 3) := by decide +kernel
theorem dX6_doneAt_4 : decode cX6_doneAt 4 = .ok (.iload_n 1, 1) := by decide +kernel
theorem dX6_doneAt_5 : decode cX6_doneAt 5 = .ok (.aload_n 0, 1) := by decide +kernel
theorem dX6_doneAt_6 : decode cX6_doneAt 6 = .ok (.getfield 34, 3) := by decide +kernel
theorem dX6_doneAt_9 : decode cX6_doneAt 9 = .ok (.if_icmp .ge 21, 3) := by decide +kernel
theorem dX6_doneAt_12 : decode cX6_doneAt 12 = .ok (.iload_n 1, 1) := by decide +kernel
theorem dX6_doneAt_13 : decode cX6_doneAt 13 = .ok (.aload_n 0, 1) := by decide +kernel
theorem dX6_doneAt_14 : decode cX6_doneAt 14 = .ok (.getfield 19, 3) := by decide +kernel
theorem dX6_doneAt_17 : decode cX6_doneAt 17 = .ok (.arraylength, 1) := by decide +kernel
theorem dX6_doneAt_18 : decode cX6_doneAt 18 = .ok (.if_icmp .ge 12, 3) := by decide +kernel
theorem dX6_doneAt_21 : decode cX6_doneAt 21 = .ok (.aload_n 0, 1) := by decide +kernel
theorem dX6_doneAt_22 : decode cX6_doneAt 22 = .ok (.getfield 19, 3) := by decide +kernel
theorem dX6_doneAt_25 : decode cX6_doneAt 25 = .ok (.iload_n 1, 1) := by decide +kernel
theorem dX6_doneAt_26 : decode cX6_doneAt 26 = .ok (.aaload, 1) := by decide +kernel
theorem dX6_doneAt_27 : decode cX6_doneAt 27 = .ok (.goto 4, 3) := by decide +kernel
theorem dX6_doneAt_30 : decode cX6_doneAt 30 = .ok (.aconst_null, 1) := by decide +kernel
theorem dX6_doneAt_31 : decode cX6_doneAt 31 = .ok (.areturn, 1) := by decide +kernel
theorem dX6_isSpan_0 : decode cX6_isSpan 0 = .ok (.iload_n 1, 1) := by decide +kernel
theorem dX6_isSpan_1 : decode cX6_isSpan 1 = .ok (.ifCond .lt 20, 3) := by decide +kernel
theorem dX6_isSpan_4 : decode cX6_isSpan 4 = .ok (.iload_n 1, 1) := by decide +kernel
theorem dX6_isSpan_5 : decode cX6_isSpan 5 = .ok (.iload_n 2, 1) := by decide +kernel
theorem dX6_isSpan_6 : decode cX6_isSpan 6 = .ok (.if_icmp .gt 15, 3) := by decide +kernel
theorem dX6_isSpan_9 : decode cX6_isSpan 9 = .ok (.iload_n 2, 1) := by decide +kernel
theorem dX6_isSpan_10 : decode cX6_isSpan 10 = .ok (.aload_n 0, 1) := by decide +kernel
theorem dX6_isSpan_11 : decode cX6_isSpan 11 = .ok (.getfield 45, 3) := by decide +kernel
theorem dX6_isSpan_14 : decode cX6_isSpan 14 = .ok (.if_icmp .ge 7, 3) := by decide +kernel
theorem dX6_isSpan_17 : decode cX6_isSpan 17 = .ok (.iconst 1, 1) := by decide +kernel
theorem dX6_isSpan_18 : decode cX6_isSpan 18 = .ok (.goto 4, 3) := by decide +kernel
theorem dX6_isSpan_21 : decode cX6_isSpan 21 = .ok (.iconst 0, 1) := by decide +kernel
theorem dX6_isSpan_22 : decode cX6_isSpan 22 = .ok (.ireturn, 1) := by decide +kernel
theorem dX6_addLine_0 : decode cX6_addLine 0 = .ok (.aload_n 0, 1) := by decide +kernel
theorem dX6_addLine_1 : decode cX6_addLine 1 = .ok (.getfield 45, 3) := by decide +kernel
theorem dX6_addLine_4 : decode cX6_addLine 4 = .ok (.ifCond .lt 15, 3) := by decide +kernel
theorem dX6_addLine_7 : decode cX6_addLine 7 = .ok (.aload_n 0, 1) := by decide +kernel
theorem dX6_addLine_8 : decode cX6_addLine 8 = .ok (.getfield 45, 3) := by decide +kernel
theorem dX6_addLine_11 : decode cX6_addLine 11 = .ok (.aload_n 0, 1) := by decide +kernel
theorem dX6_addLine_12 : decode cX6_addLine 12 = .ok (.getfield 11, 3) := by decide +kernel
theorem dX6_addLine_15 : decode cX6_addLine 15 = .ok (.arraylength, 1) := by decide +kernel
theorem dX6_addLine_16 : decode cX6_addLine 16 = .ok (.if_icmp .lt 5, 3) := by decide +kernel
theorem dX6_addLine_19 : decode cX6_addLine 19 = .ok (.iconst 0, 1) := by decide +kernel
theorem dX6_addLine_20 : decode cX6_addLine 20 = .ok (.ireturn, 1) := by decide +kernel
theorem dX6_addLine_21 : decode cX6_addLine 21 = .ok (.aload_n 0, 1) := by decide +kernel
theorem dX6_addLine_22 : decode cX6_addLine 22 = .ok (.getfield 11, 3) := by decide +kernel
theorem dX6_addLine_25 : decode cX6_addLine 25 = .ok (.aload_n 0, 1) := by decide +kernel
theorem dX6_addLine_26 : decode cX6_addLine 26 = .ok (.getfield 45, 3) := by decide +kernel
theorem dX6_addLine_29 : decode cX6_addLine 29 = .ok (.aload_n 1, 1) := by decide +kernel
theorem dX6_addLine_30 : decode cX6_addLine 30 = .ok (.aastore, 1) := by decide +kernel
theorem dX6_addLine_31 : decode cX6_addLine 31 = .ok (.aload_n 0, 1) := by decide +kernel
theorem dX6_addLine_32 : decode cX6_addLine 32 = .ok (.dup, 1) := by decide +kernel
theorem dX6_addLine_33 : decode cX6_addLine 33 = .ok (.getfield 45, 3) := by decide +kernel
theorem dX6_addLine_36 : decode cX6_addLine 36 = .ok (.iconst 1, 1) := by decide +kernel
theorem dX6_addLine_37 : decode cX6_addLine 37 = .ok (.iadd, 1) := by decide +kernel
theorem dX6_addLine_38 : decode cX6_addLine 38 = .ok (.putfield 45, 3) := by decide +kernel
theorem dX6_addLine_41 : decode cX6_addLine 41 = .ok (.iconst 1, 1) := by decide +kernel
theorem dX6_addLine_42 : decode cX6_addLine 42 = .ok (.ireturn, 1) := by decide +kernel
theorem dX6_dropLine_0 : decode cX6_dropLine 0 = .ok (.aload_n 0, 1) := by decide +kernel
theorem dX6_dropLine_1 : decode cX6_dropLine 1 = .ok (.getfield 45, 3) := by decide +kernel
theorem dX6_dropLine_4 : decode cX6_dropLine 4 = .ok (.iconst 1, 1) := by decide +kernel
theorem dX6_dropLine_5 : decode cX6_dropLine 5 = .ok (.if_icmp .ge 5, 3) := by decide +kernel
theorem dX6_dropLine_8 : decode cX6_dropLine 8 = .ok (.iconst 0, 1) := by decide +kernel
theorem dX6_dropLine_9 : decode cX6_dropLine 9 = .ok (.ireturn, 1) := by decide +kernel
theorem dX6_dropLine_10 : decode cX6_dropLine 10 = .ok (.aload_n 0, 1) := by decide +kernel
theorem dX6_dropLine_11 : decode cX6_dropLine 11 = .ok (.dup, 1) := by decide +kernel
theorem dX6_dropLine_12 : decode cX6_dropLine 12 = .ok (.getfield 45, 3) := by decide +kernel
theorem dX6_dropLine_15 : decode cX6_dropLine 15 = .ok (.iconst 1, 1) := by decide +kernel
theorem dX6_dropLine_16 : decode cX6_dropLine 16 = .ok (.isub, 1) := by decide +kernel
theorem dX6_dropLine_17 : decode cX6_dropLine 17 = .ok (.putfield 45, 3) := by decide +kernel
theorem dX6_dropLine_20 : decode cX6_dropLine 20 = .ok (.iconst 1, 1) := by decide +kernel
theorem dX6_dropLine_21 : decode cX6_dropLine 21 = .ok (.ireturn, 1) := by decide +kernel
theorem dX6_addDone_0 : decode cX6_addDone 0 = .ok (.aload_n 0, 1) := by decide +kernel
theorem dX6_addDone_1 : decode cX6_addDone 1 = .ok (.getfield 34, 3) := by decide +kernel
theorem dX6_addDone_4 : decode cX6_addDone 4 = .ok (.ifCond .lt 27, 3) := by decide +kernel
theorem dX6_addDone_7 : decode cX6_addDone 7 = .ok (.aload_n 0, 1) := by decide +kernel
theorem dX6_addDone_8 : decode cX6_addDone 8 = .ok (.getfield 34, 3) := by decide +kernel
theorem dX6_addDone_11 : decode cX6_addDone 11 = .ok (.aload_n 0, 1) := by decide +kernel
theorem dX6_addDone_12 : decode cX6_addDone 12 = .ok (.getfield 19, 3) := by decide +kernel
theorem dX6_addDone_15 : decode cX6_addDone 15 = .ok (.arraylength, 1) := by decide +kernel
theorem dX6_addDone_16 : decode cX6_addDone 16 = .ok (.if_icmp .ge 15, 3) := by decide +kernel
theorem dX6_addDone_19 : decode cX6_addDone 19 = .ok (.aload_n 0, 1) := by decide +kernel
theorem dX6_addDone_20 : decode cX6_addDone 20 = .ok (.getfield 19, 3) := by decide +kernel
theorem dX6_addDone_23 : decode cX6_addDone 23 = .ok (.aload_n 0, 1) := by decide +kernel
theorem dX6_addDone_24 : decode cX6_addDone 24 = .ok (.getfield 34, 3) := by decide +kernel
theorem dX6_addDone_27 : decode cX6_addDone 27 = .ok (.aaload, 1) := by decide +kernel
theorem dX6_addDone_28 : decode cX6_addDone 28 = .ok (.goto 4, 3) := by decide +kernel
theorem dX6_addDone_31 : decode cX6_addDone 31 = .ok (.aconst_null, 1) := by decide +kernel
theorem dX6_addDone_32 : decode cX6_addDone 32 = .ok (.astore_n 3, 1) := by decide +kernel
theorem dX6_addDone_33 : decode cX6_addDone 33 = .ok (.aload_n 3, 1) := by decide +kernel
theorem dX6_addDone_34 : decode cX6_addDone 34 = .ok (.ifnonnull 5, 3) := by decide +kernel
theorem dX6_addDone_37 : decode cX6_addDone 37 = .ok (.iconst 0, 1) := by decide +kernel
theorem dX6_addDone_38 : decode cX6_addDone 38 = .ok (.ireturn, 1) := by decide +kernel
theorem dX6_addDone_39 : decode cX6_addDone 39 = .ok (.aload_n 3, 1) := by decide +kernel
theorem dX6_addDone_40 : decode cX6_addDone 40 = .ok (.getfield 51, 3) := by decide +kernel
theorem dX6_addDone_43 : decode cX6_addDone 43 = .ok (.aload_n 1, 1) := by decide +kernel
theorem dX6_addDone_44 : decode cX6_addDone 44 = .ok (.getfield 55, 3) := by decide +kernel
theorem dX6_addDone_47 : decode cX6_addDone 47 = .ok (.invokevirtual 58, 3) := by decide +kernel
theorem dX6_addDone_50 : decode cX6_addDone 50 = .ok (.aload_n 3, 1) := by decide +kernel
theorem dX6_addDone_51 : decode cX6_addDone 51 = .ok (.aload_n 0, 1) := by decide +kernel
theorem dX6_addDone_52 : decode cX6_addDone 52 = .ok (.getfield 23, 3) := by decide +kernel
theorem dX6_addDone_55 : decode cX6_addDone 55 = .ok (.putfield 63, 3) := by decide +kernel
theorem dX6_addDone_58 : decode cX6_addDone 58 = .ok (.aload_n 3, 1) := by decide +kernel
theorem dX6_addDone_59 : decode cX6_addDone 59 = .ok (.iload_n 2, 1) := by decide +kernel
theorem dX6_addDone_60 : decode cX6_addDone 60 = .ok (.putfield 64, 3) := by decide +kernel
theorem dX6_addDone_63 : decode cX6_addDone 63 = .ok (.aload_n 0, 1) := by decide +kernel
theorem dX6_addDone_64 : decode cX6_addDone 64 = .ok (.dup, 1) := by decide +kernel
theorem dX6_addDone_65 : decode cX6_addDone 65 = .ok (.getfield 34, 3) := by decide +kernel
theorem dX6_addDone_68 : decode cX6_addDone 68 = .ok (.iconst 1, 1) := by decide +kernel
theorem dX6_addDone_69 : decode cX6_addDone 69 = .ok (.iadd, 1) := by decide +kernel
theorem dX6_addDone_70 : decode cX6_addDone 70 = .ok (.putfield 34, 3) := by decide +kernel
theorem dX6_addDone_73 : decode cX6_addDone 73 = .ok (.aload_n 0, 1) := by decide +kernel
theorem dX6_addDone_74 : decode cX6_addDone 74 = .ok (.aload_n 1, 1) := by decide +kernel
theorem dX6_addDone_75 : decode cX6_addDone 75 = .ok (.getfield 67, 3) := by decide +kernel
theorem dX6_addDone_78 : decode cX6_addDone 78 = .ok (.putfield 48, 3) := by decide +kernel
theorem dX6_addDone_81 : decode cX6_addDone 81 = .ok (.aload_n 0, 1) := by decide +kernel
theorem dX6_addDone_82 : decode cX6_addDone 82 = .ok (.getfield 27, 3) := by decide +kernel
theorem dX6_addDone_85 : decode cX6_addDone 85 = .ok (.ifCond .ne 19, 3) := by decide +kernel
theorem dX6_addDone_88 : decode cX6_addDone 88 = .ok (.aload_n 0, 1) := by decide +kernel
theorem dX6_addDone_89 : decode cX6_addDone 89 = .ok (.aload_n 0, 1) := by decide +kernel
theorem dX6_addDone_90 : decode cX6_addDone 90 = .ok (.getfield 23, 3) := by decide +kernel
theorem dX6_addDone_93 : decode cX6_addDone 93 = .ok (.ifCond .ne 7, 3) := by decide +kernel
theorem dX6_addDone_96 : decode cX6_addDone 96 = .ok (.iconst 1, 1) := by decide +kernel
theorem dX6_addDone_97 : decode cX6_addDone 97 = .ok (.goto 4, 3) := by decide +kernel
theorem dX6_addDone_100 : decode cX6_addDone 100 = .ok (.iconst 0, 1) := by decide +kernel
theorem dX6_addDone_101 : decode cX6_addDone 101 = .ok (.putfield 23, 3) := by decide +kernel
theorem dX6_addDone_104 : decode cX6_addDone 104 = .ok (.iconst 1, 1) := by decide +kernel
theorem dX6_addDone_105 : decode cX6_addDone 105 = .ok (.ireturn, 1) := by decide +kernel
theorem dX6_ripBack_0 : decode cX6_ripBack 0 = .ok (.aload_n 0, 1) := by decide +kernel
theorem dX6_ripBack_1 : decode cX6_ripBack 1 = .ok (.iconst 0, 1) := by decide +kernel
theorem dX6_ripBack_2 : decode cX6_ripBack 2 = .ok (.aload_n 0, 1) := by decide +kernel
theorem dX6_ripBack_3 : decode cX6_ripBack 3 = .ok (.getfield 34, 3) := by decide +kernel
theorem dX6_ripBack_6 : decode cX6_ripBack 6 = .ok (.iload_n 1, 1) := by decide +kernel
theorem dX6_ripBack_7 : decode cX6_ripBack 7 = .ok (.isub, 1) := by decide +kernel
theorem dX6_ripBack_8 : decode cX6_ripBack 8 = .ok (.invokestatic 70, 3) := by decide +kernel
theorem dX6_ripBack_11 : decode cX6_ripBack 11 = .ok (.invokevirtual 37, 3) := by decide +kernel
theorem dX6_ripBack_14 : decode cX6_ripBack 14 = .ok (.astore_n 2, 1) := by decide +kernel
theorem dX6_ripBack_15 : decode cX6_ripBack 15 = .ok (.aload_n 2, 1) := by decide +kernel
theorem dX6_ripBack_16 : decode cX6_ripBack 16 = .ok (.ifnull 8, 3) := by decide +kernel
theorem dX6_ripBack_19 : decode cX6_ripBack 19 = .ok (.iload_n 1, 1) := by decide +kernel
theorem dX6_ripBack_20 : decode cX6_ripBack 20 = .ok (.iconst 1, 1) := by decide +kernel
theorem dX6_ripBack_21 : decode cX6_ripBack 21 = .ok (.if_icmp .ge 4, 3) := by decide +kernel
theorem dX6_ripBack_24 : decode cX6_ripBack 24 = .ok (.return_, 1) := by decide +kernel
theorem dX6_ripBack_25 : decode cX6_ripBack 25 = .ok (.aload_n 0, 1) := by decide +kernel
theorem dX6_ripBack_26 : decode cX6_ripBack 26 = .ok (.aload_n 2, 1) := by decide +kernel
theorem dX6_ripBack_27 : decode cX6_ripBack 27 = .ok (.getfield 51, 3) := by decide +kernel
theorem dX6_ripBack_30 : decode cX6_ripBack 30 = .ok (.aload_n 2, 1) := by decide +kernel
theorem dX6_ripBack_31 : decode cX6_ripBack 31 = .ok (.getfield 51, 3) := by decide +kernel
theorem dX6_ripBack_34 : decode cX6_ripBack 34 = .ok (.getfield 76, 3) := by decide +kernel
theorem dX6_ripBack_37 : decode cX6_ripBack 37 = .ok (.invokevirtual 79, 3) := by decide +kernel
theorem dX6_ripBack_40 : decode cX6_ripBack 40 = .ok (.putfield 48, 3) := by decide +kernel
theorem dX6_ripBack_43 : decode cX6_ripBack 43 = .ok (.aload_n 0, 1) := by decide +kernel
theorem dX6_ripBack_44 : decode cX6_ripBack 44 = .ok (.aload_n 2, 1) := by decide +kernel
theorem dX6_ripBack_45 : decode cX6_ripBack 45 = .ok (.getfield 63, 3) := by decide +kernel
theorem dX6_ripBack_48 : decode cX6_ripBack 48 = .ok (.putfield 23, 3) := by decide +kernel
theorem dX6_ripBack_51 : decode cX6_ripBack 51 = .ok (.aload_n 0, 1) := by decide +kernel
theorem dX6_ripBack_52 : decode cX6_ripBack 52 = .ok (.iconst 0, 1) := by decide +kernel
theorem dX6_ripBack_53 : decode cX6_ripBack 53 = .ok (.aload_n 0, 1) := by decide +kernel
theorem dX6_ripBack_54 : decode cX6_ripBack 54 = .ok (.getfield 34, 3) := by decide +kernel
theorem dX6_ripBack_57 : decode cX6_ripBack 57 = .ok (.iload_n 1, 1) := by decide +kernel
theorem dX6_ripBack_58 : decode cX6_ripBack 58 = .ok (.isub, 1) := by decide +kernel
theorem dX6_ripBack_59 : decode cX6_ripBack 59 = .ok (.invokestatic 70, 3) := by decide +kernel
theorem dX6_ripBack_62 : decode cX6_ripBack 62 = .ok (.putfield 34, 3) := by decide +kernel
theorem dX6_ripBack_65 : decode cX6_ripBack 65 = .ok (.return_, 1) := by decide +kernel
theorem dX6_placesAtFirst_0 : decode cX6_placesAtFirst 0 = .ok (.lconst 1, 1) := by decide +kernel
theorem dX6_placesAtFirst_1 : decode cX6_placesAtFirst 1 = .ok (.iload_n 1, 1) := by decide +kernel
theorem dX6_placesAtFirst_2 : decode cX6_placesAtFirst 2 = .ok (.lshl, 1) := by decide +kernel
theorem dX6_placesAtFirst_3 : decode cX6_placesAtFirst 3 = .ok (.lstore_n 2, 1) := by decide +kernel
theorem dX6_placesAtFirst_4 : decode cX6_placesAtFirst 4 = .ok (.aload_n 0, 1) := by decide +kernel
theorem dX6_placesAtFirst_5 : decode cX6_placesAtFirst 5 = .ok (.getfield 48, 3) := by decide +kernel
theorem dX6_placesAtFirst_8 : decode cX6_placesAtFirst 8 = .ok (.istore 4, 2) := by decide +kernel
theorem dX6_placesAtFirst_10 : decode cX6_placesAtFirst 10 = .ok (.aload_n 0, 1) := by decide +kernel
theorem dX6_placesAtFirst_11 : decode cX6_placesAtFirst 11 = .ok (.getfield 34, 3) := by decide +kernel
theorem dX6_placesAtFirst_14 : decode cX6_placesAtFirst 14 = .ok (.iconst 1, 1) := by decide +kernel
theorem dX6_placesAtFirst_15 : decode cX6_placesAtFirst 15 = .ok (.isub, 1) := by decide +kernel
theorem dX6_placesAtFirst_16 : decode cX6_placesAtFirst 16 = .ok (.istore 5, 2) := by decide +kernel
theorem dX6_placesAtFirst_18 : decode cX6_placesAtFirst 18 = .ok (.iload 5, 2) := by decide +kernel
theorem dX6_placesAtFirst_20 : decode cX6_placesAtFirst 20 = .ok (.ifCond .lt 72, 3) := by decide +kernel
theorem dX6_placesAtFirst_23 : decode cX6_placesAtFirst 23 = .ok (.aload_n 0, 1) := by decide +kernel
theorem dX6_placesAtFirst_24 : decode cX6_placesAtFirst 24 = .ok (.iload 5, 2) := by decide +kernel
theorem dX6_placesAtFirst_26 : decode cX6_placesAtFirst 26 = .ok (.invokevirtual 37, 3) := by decide +kernel
theorem dX6_placesAtFirst_29 : decode cX6_placesAtFirst 29 = .ok (.astore 6, 2) := by decide +kernel
theorem dX6_placesAtFirst_31 : decode cX6_placesAtFirst 31 = .ok (.aload 6, 2) := by decide +kernel
theorem dX6_placesAtFirst_33 : decode cX6_placesAtFirst 33 = .ok (.ifnonnull 5, 3) := by decide +kernel
theorem dX6_placesAtFirst_36 : decode cX6_placesAtFirst 36 = .ok (.lconst 0, 1) := by decide +kernel
theorem dX6_placesAtFirst_37 : decode cX6_placesAtFirst 37 = .ok (.lreturn, 1) := by decide +kernel
theorem dX6_placesAtFirst_38 : decode cX6_placesAtFirst 38 = .ok (.aload_n 0, 1) := by decide +kernel
theorem dX6_placesAtFirst_39 : decode cX6_placesAtFirst 39 = .ok (.getfield 27, 3) := by decide +kernel
theorem dX6_placesAtFirst_42 : decode cX6_placesAtFirst 42 = .ok (.ifCond .ne 12, 3) := by decide +kernel
theorem dX6_placesAtFirst_45 : decode cX6_placesAtFirst 45 = .ok (.lload_n 2, 1) := by decide +kernel
theorem dX6_placesAtFirst_46 : decode cX6_placesAtFirst 46 = .ok (.iload 4, 2) := by decide +kernel
theorem dX6_placesAtFirst_48 : decode cX6_placesAtFirst 48 = .ok (.invokestatic 83, 3) := by decide +kernel
theorem dX6_placesAtFirst_51 : decode cX6_placesAtFirst 51 = .ok (.goto 4, 3) := by decide +kernel
theorem dX6_placesAtFirst_54 : decode cX6_placesAtFirst 54 = .ok (.lload_n 2, 1) := by decide +kernel
theorem dX6_placesAtFirst_55 : decode cX6_placesAtFirst 55 = .ok (.lstore 7, 2) := by decide +kernel
theorem dX6_placesAtFirst_57 : decode cX6_placesAtFirst 57 = .ok (.aload 6, 2) := by decide +kernel
theorem dX6_placesAtFirst_59 : decode cX6_placesAtFirst 59 = .ok (.getfield 51, 3) := by decide +kernel
theorem dX6_placesAtFirst_62 : decode cX6_placesAtFirst 62 = .ok (.lload 7, 2) := by decide +kernel
theorem dX6_placesAtFirst_64 : decode cX6_placesAtFirst 64 = .ok (.invokevirtual 87, 3) := by decide +kernel
theorem dX6_placesAtFirst_67 : decode cX6_placesAtFirst 67 = .ok (.lstore_n 2, 1) := by decide +kernel
theorem dX6_placesAtFirst_68 : decode cX6_placesAtFirst 68 = .ok (.aload 6, 2) := by decide +kernel
theorem dX6_placesAtFirst_70 : decode cX6_placesAtFirst 70 = .ok (.getfield 51, 3) := by decide +kernel
theorem dX6_placesAtFirst_73 : decode cX6_placesAtFirst 73 = .ok (.aload 6, 2) := by decide +kernel
theorem dX6_placesAtFirst_75 : decode cX6_placesAtFirst 75 = .ok (.getfield 51, 3) := by decide +kernel
theorem dX6_placesAtFirst_78 : decode cX6_placesAtFirst 78 = .ok (.getfield 76, 3) := by decide +kernel
theorem dX6_placesAtFirst_81 : decode cX6_placesAtFirst 81 = .ok (.invokevirtual 79, 3) := by decide +kernel
theorem dX6_placesAtFirst_84 : decode cX6_placesAtFirst 84 = .ok (.istore 4, 2) := by decide +kernel
theorem dX6_placesAtFirst_86 : decode cX6_placesAtFirst 86 = .ok (.iinc 5 (-1), 3) := by decide +kernel
theorem dX6_placesAtFirst_89 : decode cX6_placesAtFirst 89 = .ok (.goto (-71), 3) := by decide +kernel
theorem dX6_placesAtFirst_92 : decode cX6_placesAtFirst 92 = .ok (.lload_n 2, 1) := by decide +kernel
theorem dX6_placesAtFirst_93 : decode cX6_placesAtFirst 93 = .ok (.lreturn, 1) := by decide +kernel
theorem dX6_turnedAbout_0 : decode cX6_turnedAbout 0 = .ok (.lconst 0, 1) := by decide +kernel
theorem dX6_turnedAbout_1 : decode cX6_turnedAbout 1 = .ok (.lstore_n 3, 1) := by decide +kernel
theorem dX6_turnedAbout_2 : decode cX6_turnedAbout 2 = .ok (.iconst 0, 1) := by decide +kernel
theorem dX6_turnedAbout_3 : decode cX6_turnedAbout 3 = .ok (.istore 5, 2) := by decide +kernel
theorem dX6_turnedAbout_5 : decode cX6_turnedAbout 5 = .ok (.iload 5, 2) := by decide +kernel
theorem dX6_turnedAbout_7 : decode cX6_turnedAbout 7 = .ok (.iload_n 2, 1) := by decide +kernel
theorem dX6_turnedAbout_8 : decode cX6_turnedAbout 8 = .ok (.if_icmp .ge 31, 3) := by decide +kernel
theorem dX6_turnedAbout_11 : decode cX6_turnedAbout 11 = .ok (.lload_n 0, 1) := by decide +kernel
theorem dX6_turnedAbout_12 : decode cX6_turnedAbout 12 = .ok (.lconst 1, 1) := by decide +kernel
theorem dX6_turnedAbout_13 : decode cX6_turnedAbout 13 = .ok (.iload 5, 2) := by decide +kernel
theorem dX6_turnedAbout_15 : decode cX6_turnedAbout 15 = .ok (.lshl, 1) := by decide +kernel
theorem dX6_turnedAbout_16 : decode cX6_turnedAbout 16 = .ok (.land, 1) := by decide +kernel
theorem dX6_turnedAbout_17 : decode cX6_turnedAbout 17 = .ok (.lconst 0, 1) := by decide +kernel
theorem dX6_turnedAbout_18 : decode cX6_turnedAbout 18 = .ok (.lcmp, 1) := by decide +kernel
theorem dX6_turnedAbout_19 : decode cX6_turnedAbout 19 = .ok (.ifCond .eq 14, 3) := by decide +kernel
theorem dX6_turnedAbout_22 : decode cX6_turnedAbout 22 = .ok (.lload_n 3, 1) := by decide +kernel
theorem dX6_turnedAbout_23 : decode cX6_turnedAbout 23 = .ok (.lconst 1, 1) := by decide +kernel
theorem dX6_turnedAbout_24 : decode cX6_turnedAbout 24 = .ok (.iload_n 2, 1) := by decide +kernel
theorem dX6_turnedAbout_25 : decode cX6_turnedAbout 25 = .ok (.iconst 1, 1) := by decide +kernel
theorem dX6_turnedAbout_26 : decode cX6_turnedAbout 26 = .ok (.isub, 1) := by decide +kernel
theorem dX6_turnedAbout_27 : decode cX6_turnedAbout 27 = .ok (.iload 5, 2) := by decide +kernel
theorem dX6_turnedAbout_29 : decode cX6_turnedAbout 29 = .ok (.isub, 1) := by decide +kernel
theorem dX6_turnedAbout_30 : decode cX6_turnedAbout 30 = .ok (.lshl, 1) := by decide +kernel
theorem dX6_turnedAbout_31 : decode cX6_turnedAbout 31 = .ok (.lor, 1) := by decide +kernel
theorem dX6_turnedAbout_32 : decode cX6_turnedAbout 32 = .ok (.lstore_n 3, 1) := by decide +kernel
theorem dX6_turnedAbout_33 : decode cX6_turnedAbout 33 = .ok (.iinc 5 1, 3) := by decide +kernel
theorem dX6_turnedAbout_36 : decode cX6_turnedAbout 36 = .ok (.goto (-31), 3) := by decide +kernel
theorem dX6_turnedAbout_39 : decode cX6_turnedAbout 39 = .ok (.lload_n 3, 1) := by decide +kernel
theorem dX6_turnedAbout_40 : decode cX6_turnedAbout 40 = .ok (.lreturn, 1) := by decide +kernel
theorem dX6_drawBelow_0 : decode cX6_drawBelow 0 = .ok (.aload_n 0, 1) := by decide +kernel
theorem dX6_drawBelow_1 : decode cX6_drawBelow 1 = .ok (.aload_n 0, 1) := by decide +kernel
theorem dX6_drawBelow_2 : decode cX6_drawBelow 2 = .ok (.getfield 30, 3) := by decide +kernel
theorem dX6_drawBelow_5 : decode cX6_drawBelow 5 = .ok (.ldc 91, 2) := by decide +kernel
theorem dX6_drawBelow_7 : decode cX6_drawBelow 7 = .ok (.imul, 1) := by decide +kernel
theorem dX6_drawBelow_8 : decode cX6_drawBelow 8 = .ok (.sipush 12345, 3) := by decide +kernel
theorem dX6_drawBelow_11 : decode cX6_drawBelow 11 = .ok (.iadd, 1) := by decide +kernel
theorem dX6_drawBelow_12 : decode cX6_drawBelow 12 = .ok (.putfield 30, 3) := by decide +kernel
theorem dX6_drawBelow_15 : decode cX6_drawBelow 15 = .ok (.iload_n 1, 1) := by decide +kernel
theorem dX6_drawBelow_16 : decode cX6_drawBelow 16 = .ok (.iconst 1, 1) := by decide +kernel
theorem dX6_drawBelow_17 : decode cX6_drawBelow 17 = .ok (.if_icmp .ge 7, 3) := by decide +kernel
theorem dX6_drawBelow_20 : decode cX6_drawBelow 20 = .ok (.iconst 0, 1) := by decide +kernel
theorem dX6_drawBelow_21 : decode cX6_drawBelow 21 = .ok (.goto 12, 3) := by decide +kernel
theorem dX6_drawBelow_24 : decode cX6_drawBelow 24 = .ok (.aload_n 0, 1) := by decide +kernel
theorem dX6_drawBelow_25 : decode cX6_drawBelow 25 = .ok (.getfield 30, 3) := by decide +kernel
theorem dX6_drawBelow_28 : decode cX6_drawBelow 28 = .ok (.bipush 16, 2) := by decide +kernel
theorem dX6_drawBelow_30 : decode cX6_drawBelow 30 = .ok (.iushr, 1) := by decide +kernel
theorem dX6_drawBelow_31 : decode cX6_drawBelow 31 = .ok (.iload_n 1, 1) := by decide +kernel
theorem dX6_drawBelow_32 : decode cX6_drawBelow 32 = .ok (.irem, 1) := by decide +kernel
theorem dX6_drawBelow_33 : decode cX6_drawBelow 33 = .ok (.ireturn, 1) := by decide +kernel
theorem dX7_init_0 : decode cX7_init 0 = .ok (.aload_n 0, 1) := by decide +kernel
theorem dX7_init_1 : decode cX7_init 1 = .ok (.invokespecial 3, 3) := by decide +kernel
theorem dX7_init_4 : decode cX7_init 4 = .ok (.aload_n 0, 1) := by decide +kernel
theorem dX7_init_5 : decode cX7_init 5 = .ok (.sipush 200, 3) := by decide +kernel
theorem dX7_init_8 : decode cX7_init 8 = .ok (.newarray .int, 2) := by decide +kernel
theorem dX7_init_10 : decode cX7_init 10 = .ok (.putfield 9, 3) := by decide +kernel
theorem dX7_init_13 : decode cX7_init 13 = .ok (.return_, 1) := by decide +kernel
theorem dX7_takeFrom_0 : decode cX7_takeFrom 0 = .ok (.aload_n 0, 1) := by decide +kernel
theorem dX7_takeFrom_1 : decode cX7_takeFrom 1 = .ok (.getfield 9, 3) := by decide +kernel
theorem dX7_takeFrom_4 : decode cX7_takeFrom 4 = .ok (.arraylength, 1) := by decide +kernel
theorem dX7_takeFrom_5 : decode cX7_takeFrom 5 = .ok (.aload_n 1, 1) := by decide +kernel
theorem dX7_takeFrom_6 : decode cX7_takeFrom 6 = .ok (.getfield 9, 3) := by decide +kernel
theorem dX7_takeFrom_9 : decode cX7_takeFrom 9 = .ok (.arraylength, 1) := by decide +kernel
theorem dX7_takeFrom_10 : decode cX7_takeFrom 10 = .ok (.invokestatic 15, 3) := by decide +kernel
theorem dX7_takeFrom_13 : decode cX7_takeFrom 13 = .ok (.istore_n 2, 1) := by decide +kernel
theorem dX7_takeFrom_14 : decode cX7_takeFrom 14 = .ok (.aload_n 0, 1) := by decide +kernel
theorem dX7_takeFrom_15 : decode cX7_takeFrom 15 = .ok (.iconst 0, 1) := by decide +kernel
theorem dX7_takeFrom_16 : decode cX7_takeFrom 16 = .ok (.aload_n 1, 1) := by decide +kernel
theorem dX7_takeFrom_17 : decode cX7_takeFrom 17 = .ok (.getfield 21, 3) := by decide +kernel
theorem dX7_takeFrom_20 : decode cX7_takeFrom 20 = .ok (.iload_n 2, 1) := by decide +kernel
theorem dX7_takeFrom_21 : decode cX7_takeFrom 21 = .ok (.invokestatic 15, 3) := by decide +kernel
theorem dX7_takeFrom_24 : decode cX7_takeFrom 24 = .ok (.invokestatic 25, 3) := by decide +kernel
theorem dX7_takeFrom_27 : decode cX7_takeFrom 27 = .ok (.putfield 21, 3) := by decide +kernel
theorem dX7_takeFrom_30 : decode cX7_takeFrom 30 = .ok (.aload_n 1, 1) := by decide +kernel
theorem dX7_takeFrom_31 : decode cX7_takeFrom 31 = .ok (.getfield 9, 3) := by decide +kernel
theorem dX7_takeFrom_34 : decode cX7_takeFrom 34 = .ok (.iconst 0, 1) := by decide +kernel
theorem dX7_takeFrom_35 : decode cX7_takeFrom 35 = .ok (.aload_n 0, 1) := by decide +kernel
theorem dX7_takeFrom_36 : decode cX7_takeFrom 36 = .ok (.getfield 9, 3) := by decide +kernel
theorem dX7_takeFrom_39 : decode cX7_takeFrom 39 = .ok (.iconst 0, 1) := by decide +kernel
theorem dX7_takeFrom_40 : decode cX7_takeFrom 40 = .ok (.aload_n 0, 1) := by decide +kernel
theorem dX7_takeFrom_41 : decode cX7_takeFrom 41 = .ok (.getfield 21, 3) := by decide +kernel
theorem dX7_takeFrom_44 : decode cX7_takeFrom 44 = .ok (.invokestatic 28, 3) := by decide +kernel
theorem dX7_takeFrom_47 : decode cX7_takeFrom 47 = .ok (.return_, 1) := by decide +kernel
theorem dX7_addKind_0 : decode cX7_addKind 0 = .ok (.aload_n 0, 1) := by decide +kernel
theorem dX7_addKind_1 : decode cX7_addKind 1 = .ok (.getfield 21, 3) := by decide +kernel
theorem dX7_addKind_4 : decode cX7_addKind 4 = .ok (.ifCond .lt 35, 3) := by decide +kernel
theorem dX7_addKind_7 : decode cX7_addKind 7 = .ok (.aload_n 0, 1) := by decide +kernel
theorem dX7_addKind_8 : decode cX7_addKind 8 = .ok (.getfield 21, 3) := by decide +kernel
theorem dX7_addKind_11 : decode cX7_addKind 11 = .ok (.aload_n 0, 1) := by decide +kernel
theorem dX7_addKind_12 : decode cX7_addKind 12 = .ok (.getfield 9, 3) := by decide +kernel
theorem dX7_addKind_15 : decode cX7_addKind 15 = .ok (.arraylength, 1) := by decide +kernel
theorem dX7_addKind_16 : decode cX7_addKind 16 = .ok (.if_icmp .ge 23, 3) := by decide +kernel
theorem dX7_addKind_19 : decode cX7_addKind 19 = .ok (.aload_n 0, 1) := by decide +kernel
theorem dX7_addKind_20 : decode cX7_addKind 20 = .ok (.getfield 9, 3) := by decide +kernel
theorem dX7_addKind_23 : decode cX7_addKind 23 = .ok (.aload_n 0, 1) := by decide +kernel
theorem dX7_addKind_24 : decode cX7_addKind 24 = .ok (.getfield 21, 3) := by decide +kernel
theorem dX7_addKind_27 : decode cX7_addKind 27 = .ok (.iload_n 1, 1) := by decide +kernel
theorem dX7_addKind_28 : decode cX7_addKind 28 = .ok (.iastore, 1) := by decide +kernel
theorem dX7_addKind_29 : decode cX7_addKind 29 = .ok (.aload_n 0, 1) := by decide +kernel
theorem dX7_addKind_30 : decode cX7_addKind 30 = .ok (.dup, 1) := by decide +kernel
theorem dX7_addKind_31 : decode cX7_addKind 31 = .ok (.getfield 21, 3) := by decide +kernel
theorem dX7_addKind_34 : decode cX7_addKind 34 = .ok (.iconst 1, 1) := by decide +kernel
theorem dX7_addKind_35 : decode cX7_addKind 35 = .ok (.iadd, 1) := by decide +kernel
theorem dX7_addKind_36 : decode cX7_addKind 36 = .ok (.putfield 21, 3) := by decide +kernel
theorem dX7_addKind_39 : decode cX7_addKind 39 = .ok (.return_, 1) := by decide +kernel
theorem dX7_hasPlace_0 : decode cX7_hasPlace 0 = .ok (.iload_n 1, 1) := by decide +kernel
theorem dX7_hasPlace_1 : decode cX7_hasPlace 1 = .ok (.ifCond .lt 24, 3) := by decide +kernel
theorem dX7_hasPlace_4 : decode cX7_hasPlace 4 = .ok (.iload_n 1, 1) := by decide +kernel
theorem dX7_hasPlace_5 : decode cX7_hasPlace 5 = .ok (.aload_n 0, 1) := by decide +kernel
theorem dX7_hasPlace_6 : decode cX7_hasPlace 6 = .ok (.getfield 21, 3) := by decide +kernel
theorem dX7_hasPlace_9 : decode cX7_hasPlace 9 = .ok (.if_icmp .ge 16, 3) := by decide +kernel
theorem dX7_hasPlace_12 : decode cX7_hasPlace 12 = .ok (.iload_n 1, 1) := by decide +kernel
theorem dX7_hasPlace_13 : decode cX7_hasPlace 13 = .ok (.aload_n 0, 1) := by decide +kernel
theorem dX7_hasPlace_14 : decode cX7_hasPlace 14 = .ok (.getfield 9, 3) := by decide +kernel
theorem dX7_hasPlace_17 : decode cX7_hasPlace 17 = .ok (.arraylength, 1) := by decide +kernel
theorem dX7_hasPlace_18 : decode cX7_hasPlace 18 = .ok (.if_icmp .ge 7, 3) := by decide +kernel
theorem dX7_hasPlace_21 : decode cX7_hasPlace 21 = .ok (.iconst 1, 1) := by decide +kernel
theorem dX7_hasPlace_22 : decode cX7_hasPlace 22 = .ok (.goto 4, 3) := by decide +kernel
theorem dX7_hasPlace_25 : decode cX7_hasPlace 25 = .ok (.iconst 0, 1) := by decide +kernel
theorem dX7_hasPlace_26 : decode cX7_hasPlace 26 = .ok (.ireturn, 1) := by decide +kernel
theorem dX7_kindAt_0 : decode cX7_kindAt 0 = .ok (.aload_n 0, 1) := by decide +kernel
theorem dX7_kindAt_1 : decode cX7_kindAt 1 = .ok (.iload_n 1, 1) := by decide +kernel
theorem dX7_kindAt_2 : decode cX7_kindAt 2 = .ok (.invokevirtual 34, 3) := by decide +kernel
theorem dX7_kindAt_5 : decode cX7_kindAt 5 = .ok (.ifCond .eq 12, 3) := by decide +kernel
theorem dX7_kindAt_8 : decode cX7_kindAt 8 = .ok (.aload_n 0, 1) := by decide +kernel
theorem dX7_kindAt_9 : decode cX7_kindAt 9 = .ok (.getfield 9, 3) := by decide +kernel
theorem dX7_kindAt_12 : decode cX7_kindAt 12 = .ok (.iload_n 1, 1) := by decide +kernel
theorem dX7_kindAt_13 : decode cX7_kindAt 13 = .ok (.iaload, 1) := by decide +kernel
theorem dX7_kindAt_14 : decode cX7_kindAt 14 = .ok (.goto 4, 3) := by decide +kernel
theorem dX7_kindAt_17 : decode cX7_kindAt 17 = .ok (.iconst (-1), 1) := by decide +kernel
theorem dX7_kindAt_18 : decode cX7_kindAt 18 = .ok (.ireturn, 1) := by decide +kernel
theorem dX7_takenAhead_0 : decode cX7_takenAhead 0 = .ok (.iconst 0, 1) := by decide +kernel
theorem dX7_takenAhead_1 : decode cX7_takenAhead 1 = .ok (.istore_n 2, 1) := by decide +kernel
theorem dX7_takenAhead_2 : decode cX7_takenAhead 2 = .ok (.iconst 0, 1) := by decide +kernel
theorem dX7_takenAhead_3 : decode cX7_takenAhead 3 = .ok (.istore_n 3, 1) := by decide +kernel
theorem dX7_takenAhead_4 : decode cX7_takenAhead 4 = .ok (.iload_n 3, 1) := by decide +kernel
theorem dX7_takenAhead_5 : decode cX7_takenAhead 5 = .ok (.iload_n 1, 1) := by decide +kernel
theorem dX7_takenAhead_6 : decode cX7_takenAhead 6 = .ok (.if_icmp .ge 28, 3) := by decide +kernel
theorem dX7_takenAhead_9 : decode cX7_takenAhead 9 = .ok (.iload_n 3, 1) := by decide +kernel
theorem dX7_takenAhead_10 : decode cX7_takenAhead 10 = .ok (.aload_n 0, 1) := by decide +kernel
theorem dX7_takenAhead_11 : decode cX7_takenAhead 11 = .ok (.getfield 21, 3) := by decide +kernel
theorem dX7_takenAhead_14 : decode cX7_takenAhead 14 = .ok (.if_icmp .ge 20, 3) := by decide +kernel
theorem dX7_takenAhead_17 : decode cX7_takenAhead 17 = .ok (.iload_n 2, 1) := by decide +kernel
theorem dX7_takenAhead_18 : decode cX7_takenAhead 18 = .ok (.aload_n 0, 1) := by decide +kernel
theorem dX7_takenAhead_19 : decode cX7_takenAhead 19 = .ok (.iload_n 3, 1) := by decide +kernel
theorem dX7_takenAhead_20 : decode cX7_takenAhead 20 = .ok (.invokevirtual 38, 3) := by decide +kernel
theorem dX7_takenAhead_23 : decode cX7_takenAhead 23 = .ok (.invokestatic 42, 3) := by decide +kernel
theorem dX7_takenAhead_26 : decode cX7_takenAhead 26 = .ok (.iadd, 1) := by decide +kernel
theorem dX7_takenAhead_27 : decode cX7_takenAhead 27 = .ok (.istore_n 2, 1) := by decide +kernel
theorem dX7_takenAhead_28 : decode cX7_takenAhead 28 = .ok (.iinc 3 1, 3) := by decide +kernel
theorem dX7_takenAhead_31 : decode cX7_takenAhead 31 = .ok (.goto (-27), 3) := by decide +kernel
theorem dX7_takenAhead_34 : decode cX7_takenAhead 34 = .ok (.iload_n 2, 1) := by decide +kernel
theorem dX7_takenAhead_35 : decode cX7_takenAhead 35 = .ok (.ireturn, 1) := by decide +kernel
theorem dX7_madeAhead_0 : decode cX7_madeAhead 0 = .ok (.iconst 0, 1) := by decide +kernel
theorem dX7_madeAhead_1 : decode cX7_madeAhead 1 = .ok (.istore_n 2, 1) := by decide +kernel
theorem dX7_madeAhead_2 : decode cX7_madeAhead 2 = .ok (.iconst 0, 1) := by decide +kernel
theorem dX7_madeAhead_3 : decode cX7_madeAhead 3 = .ok (.istore_n 3, 1) := by decide +kernel
theorem dX7_madeAhead_4 : decode cX7_madeAhead 4 = .ok (.iload_n 3, 1) := by decide +kernel
theorem dX7_madeAhead_5 : decode cX7_madeAhead 5 = .ok (.iload_n 1, 1) := by decide +kernel
theorem dX7_madeAhead_6 : decode cX7_madeAhead 6 = .ok (.if_icmp .ge 28, 3) := by decide +kernel
theorem dX7_madeAhead_9 : decode cX7_madeAhead 9 = .ok (.iload_n 3, 1) := by decide +kernel
theorem dX7_madeAhead_10 : decode cX7_madeAhead 10 = .ok (.aload_n 0, 1) := by decide +kernel
theorem dX7_madeAhead_11 : decode cX7_madeAhead 11 = .ok (.getfield 21, 3) := by decide +kernel
theorem dX7_madeAhead_14 : decode cX7_madeAhead 14 = .ok (.if_icmp .ge 20, 3) := by decide +kernel
theorem dX7_madeAhead_17 : decode cX7_madeAhead 17 = .ok (.iload_n 2, 1) := by decide +kernel
theorem dX7_madeAhead_18 : decode cX7_madeAhead 18 = .ok (.aload_n 0, 1) := by decide +kernel
theorem dX7_madeAhead_19 : decode cX7_madeAhead 19 = .ok (.iload_n 3, 1) := by decide +kernel
theorem dX7_madeAhead_20 : decode cX7_madeAhead 20 = .ok (.invokevirtual 38, 3) := by decide +kernel
theorem dX7_madeAhead_23 : decode cX7_madeAhead 23 = .ok (.invokestatic 47, 3) := by decide +kernel
theorem dX7_madeAhead_26 : decode cX7_madeAhead 26 = .ok (.iadd, 1) := by decide +kernel
theorem dX7_madeAhead_27 : decode cX7_madeAhead 27 = .ok (.istore_n 2, 1) := by decide +kernel
theorem dX7_madeAhead_28 : decode cX7_madeAhead 28 = .ok (.iinc 3 1, 3) := by decide +kernel
theorem dX7_madeAhead_31 : decode cX7_madeAhead 31 = .ok (.goto (-27), 3) := by decide +kernel
theorem dX7_madeAhead_34 : decode cX7_madeAhead 34 = .ok (.iload_n 2, 1) := by decide +kernel
theorem dX7_madeAhead_35 : decode cX7_madeAhead 35 = .ok (.ireturn, 1) := by decide +kernel
theorem dX7_yarnUsed_0 : decode cX7_yarnUsed 0 = .ok (.iconst 0, 1) := by decide +kernel
theorem dX7_yarnUsed_1 : decode cX7_yarnUsed 1 = .ok (.istore_n 1, 1) := by decide +kernel
theorem dX7_yarnUsed_2 : decode cX7_yarnUsed 2 = .ok (.iconst 0, 1) := by decide +kernel
theorem dX7_yarnUsed_3 : decode cX7_yarnUsed 3 = .ok (.istore_n 2, 1) := by decide +kernel
theorem dX7_yarnUsed_4 : decode cX7_yarnUsed 4 = .ok (.iload_n 2, 1) := by decide +kernel
theorem dX7_yarnUsed_5 : decode cX7_yarnUsed 5 = .ok (.aload_n 0, 1) := by decide +kernel
theorem dX7_yarnUsed_6 : decode cX7_yarnUsed 6 = .ok (.getfield 21, 3) := by decide +kernel
theorem dX7_yarnUsed_9 : decode cX7_yarnUsed 9 = .ok (.if_icmp .ge 20, 3) := by decide +kernel
theorem dX7_yarnUsed_12 : decode cX7_yarnUsed 12 = .ok (.iload_n 1, 1) := by decide +kernel
theorem dX7_yarnUsed_13 : decode cX7_yarnUsed 13 = .ok (.aload_n 0, 1) := by decide +kernel
theorem dX7_yarnUsed_14 : decode cX7_yarnUsed 14 = .ok (.iload_n 2, 1) := by decide +kernel
theorem dX7_yarnUsed_15 : decode cX7_yarnUsed 15 = .ok (.invokevirtual 38, 3) := by decide +kernel
theorem dX7_yarnUsed_18 : decode cX7_yarnUsed 18 = .ok (.invokestatic 50, 3) := by decide +kernel
theorem dX7_yarnUsed_21 : decode cX7_yarnUsed 21 = .ok (.iadd, 1) := by decide +kernel
theorem dX7_yarnUsed_22 : decode cX7_yarnUsed 22 = .ok (.istore_n 1, 1) := by decide +kernel
theorem dX7_yarnUsed_23 : decode cX7_yarnUsed 23 = .ok (.iinc 2 1, 3) := by decide +kernel
theorem dX7_yarnUsed_26 : decode cX7_yarnUsed 26 = .ok (.goto (-22), 3) := by decide +kernel
theorem dX7_yarnUsed_29 : decode cX7_yarnUsed 29 = .ok (.iload_n 1, 1) := by decide +kernel
theorem dX7_yarnUsed_30 : decode cX7_yarnUsed 30 = .ok (.ireturn, 1) := by decide +kernel
theorem dX7_countUnder_0 : decode cX7_countUnder 0 = .ok (.iconst 0, 1) := by decide +kernel
theorem dX7_countUnder_1 : decode cX7_countUnder 1 = .ok (.istore_n 2, 1) := by decide +kernel
theorem dX7_countUnder_2 : decode cX7_countUnder 2 = .ok (.iconst 0, 1) := by decide +kernel
theorem dX7_countUnder_3 : decode cX7_countUnder 3 = .ok (.istore_n 3, 1) := by decide +kernel
theorem dX7_countUnder_4 : decode cX7_countUnder 4 = .ok (.iload_n 3, 1) := by decide +kernel
theorem dX7_countUnder_5 : decode cX7_countUnder 5 = .ok (.aload_n 0, 1) := by decide +kernel
theorem dX7_countUnder_6 : decode cX7_countUnder 6 = .ok (.getfield 21, 3) := by decide +kernel
theorem dX7_countUnder_9 : decode cX7_countUnder 9 = .ok (.if_icmp .ge 29, 3) := by decide +kernel
theorem dX7_countUnder_12 : decode cX7_countUnder 12 = .ok (.iload_n 2, 1) := by decide +kernel
theorem dX7_countUnder_13 : decode cX7_countUnder 13 = .ok (.aload_n 0, 1) := by decide +kernel
theorem dX7_countUnder_14 : decode cX7_countUnder 14 = .ok (.iload_n 3, 1) := by decide +kernel
theorem dX7_countUnder_15 : decode cX7_countUnder 15 = .ok (.invokevirtual 38, 3) := by decide +kernel
theorem dX7_countUnder_18 : decode cX7_countUnder 18 = .ok (.iload_n 1, 1) := by decide +kernel
theorem dX7_countUnder_19 : decode cX7_countUnder 19 = .ok (.invokestatic 53, 3) := by decide +kernel
theorem dX7_countUnder_22 : decode cX7_countUnder 22 = .ok (.ifCond .eq 7, 3) := by decide +kernel
theorem dX7_countUnder_25 : decode cX7_countUnder 25 = .ok (.iconst 1, 1) := by decide +kernel
theorem dX7_countUnder_26 : decode cX7_countUnder 26 = .ok (.goto 4, 3) := by decide +kernel
theorem dX7_countUnder_29 : decode cX7_countUnder 29 = .ok (.iconst 0, 1) := by decide +kernel
theorem dX7_countUnder_30 : decode cX7_countUnder 30 = .ok (.iadd, 1) := by decide +kernel
theorem dX7_countUnder_31 : decode cX7_countUnder 31 = .ok (.istore_n 2, 1) := by decide +kernel
theorem dX7_countUnder_32 : decode cX7_countUnder 32 = .ok (.iinc 3 1, 3) := by decide +kernel
theorem dX7_countUnder_35 : decode cX7_countUnder 35 = .ok (.goto (-31), 3) := by decide +kernel
theorem dX7_countUnder_38 : decode cX7_countUnder 38 = .ok (.iload_n 2, 1) := by decide +kernel
theorem dX7_countUnder_39 : decode cX7_countUnder 39 = .ok (.ireturn, 1) := by decide +kernel
theorem dX7_mirroredAt_0 : decode cX7_mirroredAt 0 = .ok (.aload_n 0, 1) := by decide +kernel
theorem dX7_mirroredAt_1 : decode cX7_mirroredAt 1 = .ok (.aload_n 0, 1) := by decide +kernel
theorem dX7_mirroredAt_2 : decode cX7_mirroredAt 2 = .ok (.getfield 21, 3) := by decide +kernel
theorem dX7_mirroredAt_5 : decode cX7_mirroredAt 5 = .ok (.iconst 1, 1) := by decide +kernel
theorem dX7_mirroredAt_6 : decode cX7_mirroredAt 6 = .ok (.isub, 1) := by decide +kernel
theorem dX7_mirroredAt_7 : decode cX7_mirroredAt 7 = .ok (.iload_n 1, 1) := by decide +kernel
theorem dX7_mirroredAt_8 : decode cX7_mirroredAt 8 = .ok (.isub, 1) := by decide +kernel
theorem dX7_mirroredAt_9 : decode cX7_mirroredAt 9 = .ok (.invokevirtual 38, 3) := by decide +kernel
theorem dX7_mirroredAt_12 : decode cX7_mirroredAt 12 = .ok (.invokestatic 57, 3) := by decide +kernel
theorem dX7_mirroredAt_15 : decode cX7_mirroredAt 15 = .ok (.ireturn, 1) := by decide +kernel
theorem dX7_isEven_0 : decode cX7_isEven 0 = .ok (.iconst 0, 1) := by decide +kernel
theorem dX7_isEven_1 : decode cX7_isEven 1 = .ok (.istore_n 1, 1) := by decide +kernel
theorem dX7_isEven_2 : decode cX7_isEven 2 = .ok (.iload_n 1, 1) := by decide +kernel
theorem dX7_isEven_3 : decode cX7_isEven 3 = .ok (.aload_n 0, 1) := by decide +kernel
theorem dX7_isEven_4 : decode cX7_isEven 4 = .ok (.getfield 21, 3) := by decide +kernel
theorem dX7_isEven_7 : decode cX7_isEven 7 = .ok (.if_icmp .ge 24, 3) := by decide +kernel
theorem dX7_isEven_10 : decode cX7_isEven 10 = .ok (.aload_n 0, 1) := by decide +kernel
theorem dX7_isEven_11 : decode cX7_isEven 11 = .ok (.iload_n 1, 1) := by decide +kernel
theorem dX7_isEven_12 : decode cX7_isEven 12 = .ok (.invokevirtual 38, 3) := by decide +kernel
theorem dX7_isEven_15 : decode cX7_isEven 15 = .ok (.aload_n 0, 1) := by decide +kernel
theorem dX7_isEven_16 : decode cX7_isEven 16 = .ok (.iload_n 1, 1) := by decide +kernel
theorem dX7_isEven_17 : decode cX7_isEven 17 = .ok (.invokevirtual 60, 3) := by decide +kernel
theorem dX7_isEven_20 : decode cX7_isEven 20 = .ok (.if_icmp .eq 5, 3) := by decide +kernel
theorem dX7_isEven_23 : decode cX7_isEven 23 = .ok (.iconst 0, 1) := by decide +kernel
theorem dX7_isEven_24 : decode cX7_isEven 24 = .ok (.ireturn, 1) := by decide +kernel
theorem dX7_isEven_25 : decode cX7_isEven 25 = .ok (.iinc 1 1, 3) := by decide +kernel
theorem dX7_isEven_28 : decode cX7_isEven 28 = .ok (.goto (-26), 3) := by decide +kernel
theorem dX7_isEven_31 : decode cX7_isEven 31 = .ok (.iconst 1, 1) := by decide +kernel
theorem dX7_isEven_32 : decode cX7_isEven 32 = .ok (.ireturn, 1) := by decide +kernel
theorem dX7_smallestPart_0 : decode cX7_smallestPart 0 = .ok (.iconst 1, 1) := by decide +kernel
theorem dX7_smallestPart_1 : decode cX7_smallestPart 1 = .ok (.istore_n 1, 1) := by decide +kernel
theorem dX7_smallestPart_2 : decode cX7_smallestPart 2 = .ok (.iload_n 1, 1) := by decide +kernel
theorem dX7_smallestPart_3 : decode cX7_smallestPart 3 = .ok (.aload_n 0, 1) := by decide +kernel
theorem dX7_smallestPart_4 : decode cX7_smallestPart 4 = .ok (.getfield 21, 3) := by decide +kernel
theorem dX7_smallestPart_7 : decode cX7_smallestPart 7 = .ok (.if_icmp .ge 28, 3) := by decide +kernel
theorem dX7_smallestPart_10 : decode cX7_smallestPart 10 = .ok (.aload_n 0, 1) := by decide +kernel
theorem dX7_smallestPart_11 : decode cX7_smallestPart 11 = .ok (.getfield 21, 3) := by decide +kernel
theorem dX7_smallestPart_14 : decode cX7_smallestPart 14 = .ok (.iload_n 1, 1) := by decide +kernel
theorem dX7_smallestPart_15 : decode cX7_smallestPart 15 = .ok (.irem, 1) := by decide +kernel
theorem dX7_smallestPart_16 : decode cX7_smallestPart 16 = .ok (.ifCond .ne 13, 3) := by decide +kernel
theorem dX7_smallestPart_19 : decode cX7_smallestPart 19 = .ok (.aload_n 0, 1) := by decide +kernel
theorem dX7_smallestPart_20 : decode cX7_smallestPart 20 = .ok (.iload_n 1, 1) := by decide +kernel
theorem dX7_smallestPart_21 : decode cX7_smallestPart 21 = .ok (.invokevirtual 63, 3) := by decide +kernel
theorem dX7_smallestPart_24 : decode cX7_smallestPart 24 = .ok (.ifCond .eq 5, 3) := by decide +kernel
theorem dX7_smallestPart_27 : decode cX7_smallestPart 27 = .ok (.iload_n 1, 1) := by decide +kernel
theorem dX7_smallestPart_28 : decode cX7_smallestPart 28 = .ok (.ireturn, 1) := by decide +kernel
theorem dX7_smallestPart_29 : decode cX7_smallestPart 29 = .ok (.iinc 1 1, 3) := by decide +kernel
theorem dX7_smallestPart_32 : decode cX7_smallestPart 32 = .ok (.goto (-30), 3) := by decide +kernel
theorem dX7_smallestPart_35 : decode cX7_smallestPart 35 = .ok (.aload_n 0, 1) := by decide +kernel
theorem dX7_smallestPart_36 : decode cX7_smallestPart 36 = .ok (.getfield 21, 3) := by decide +kernel
theorem dX7_smallestPart_39 : decode cX7_smallestPart 39 = .ok (.ireturn, 1) := by decide +kernel
theorem dX7_comesAgain_0 : decode cX7_comesAgain 0 = .ok (.iload_n 1, 1) := by decide +kernel
theorem dX7_comesAgain_1 : decode cX7_comesAgain 1 = .ok (.istore_n 2, 1) := by decide +kernel
theorem dX7_comesAgain_2 : decode cX7_comesAgain 2 = .ok (.iload_n 2, 1) := by decide +kernel
theorem dX7_comesAgain_3 : decode cX7_comesAgain 3 = .ok (.aload_n 0, 1) := by decide +kernel
theorem dX7_comesAgain_4 : decode cX7_comesAgain 4 = .ok (.getfield 21, 3) := by decide +kernel
theorem dX7_comesAgain_7 : decode cX7_comesAgain 7 = .ok (.if_icmp .ge 26, 3) := by decide +kernel
theorem dX7_comesAgain_10 : decode cX7_comesAgain 10 = .ok (.aload_n 0, 1) := by decide +kernel
theorem dX7_comesAgain_11 : decode cX7_comesAgain 11 = .ok (.iload_n 2, 1) := by decide +kernel
theorem dX7_comesAgain_12 : decode cX7_comesAgain 12 = .ok (.invokevirtual 38, 3) := by decide +kernel
theorem dX7_comesAgain_15 : decode cX7_comesAgain 15 = .ok (.aload_n 0, 1) := by decide +kernel
theorem dX7_comesAgain_16 : decode cX7_comesAgain 16 = .ok (.iload_n 2, 1) := by decide +kernel
theorem dX7_comesAgain_17 : decode cX7_comesAgain 17 = .ok (.iload_n 1, 1) := by decide +kernel
theorem dX7_comesAgain_18 : decode cX7_comesAgain 18 = .ok (.isub, 1) := by decide +kernel
theorem dX7_comesAgain_19 : decode cX7_comesAgain 19 = .ok (.invokevirtual 38, 3) := by decide +kernel
theorem dX7_comesAgain_22 : decode cX7_comesAgain 22 = .ok (.if_icmp .eq 5, 3) := by decide +kernel
theorem dX7_comesAgain_25 : decode cX7_comesAgain 25 = .ok (.iconst 0, 1) := by decide +kernel
theorem dX7_comesAgain_26 : decode cX7_comesAgain 26 = .ok (.ireturn, 1) := by decide +kernel
theorem dX7_comesAgain_27 : decode cX7_comesAgain 27 = .ok (.iinc 2 1, 3) := by decide +kernel
theorem dX7_comesAgain_30 : decode cX7_comesAgain 30 = .ok (.goto (-28), 3) := by decide +kernel
theorem dX7_comesAgain_33 : decode cX7_comesAgain 33 = .ok (.iconst 1, 1) := by decide +kernel
theorem dX7_comesAgain_34 : decode cX7_comesAgain 34 = .ok (.ireturn, 1) := by decide +kernel
theorem dX7_shorthandAt_0 : decode cX7_shorthandAt 0 = .ok (.iload_n 1, 1) := by decide +kernel
theorem dX7_shorthandAt_1 : decode cX7_shorthandAt 1 = .ok (.ifCond .ge 5, 3) := by decide +kernel
theorem dX7_shorthandAt_4 : decode cX7_shorthandAt 4 = .ok (.iconst (-1), 1) := by decide +kernel
theorem dX7_shorthandAt_5 : decode cX7_shorthandAt 5 = .ok (.ireturn, 1) := by decide +kernel
theorem dX7_shorthandAt_6 : decode cX7_shorthandAt 6 = .ok (.iload_n 1, 1) := by decide +kernel
theorem dX7_shorthandAt_7 : decode cX7_shorthandAt 7 = .ok (.istore_n 2, 1) := by decide +kernel
theorem dX7_shorthandAt_8 : decode cX7_shorthandAt 8 = .ok (.iconst 0, 1) := by decide +kernel
theorem dX7_shorthandAt_9 : decode cX7_shorthandAt 9 = .ok (.istore_n 3, 1) := by decide +kernel
theorem dX7_shorthandAt_10 : decode cX7_shorthandAt 10 = .ok (.iload_n 3, 1) := by decide +kernel
theorem dX7_shorthandAt_11 : decode cX7_shorthandAt 11 = .ok (.aload_n 0, 1) := by decide +kernel
theorem dX7_shorthandAt_12 : decode cX7_shorthandAt 12 = .ok (.getfield 21, 3) := by decide +kernel
theorem dX7_shorthandAt_15 : decode cX7_shorthandAt 15 = .ok (.if_icmp .ge 126, 3) := by decide +kernel
theorem dX7_shorthandAt_18 : decode cX7_shorthandAt 18 = .ok (.iload_n 3, 1) := by decide +kernel
theorem dX7_shorthandAt_19 : decode cX7_shorthandAt 19 = .ok (.ifCond .le 21, 3) := by decide +kernel
theorem dX7_shorthandAt_22 : decode cX7_shorthandAt 22 = .ok (.aload_n 0, 1) := by decide +kernel
theorem dX7_shorthandAt_23 : decode cX7_shorthandAt 23 = .ok (.iload_n 3, 1) := by decide +kernel
theorem dX7_shorthandAt_24 : decode cX7_shorthandAt 24 = .ok (.invokevirtual 38, 3) := by decide +kernel
theorem dX7_shorthandAt_27 : decode cX7_shorthandAt 27 = .ok (.aload_n 0, 1) := by decide +kernel
theorem dX7_shorthandAt_28 : decode cX7_shorthandAt 28 = .ok (.iload_n 3, 1) := by decide +kernel
theorem dX7_shorthandAt_29 : decode cX7_shorthandAt 29 = .ok (.iconst 1, 1) := by decide +kernel
theorem dX7_shorthandAt_30 : decode cX7_shorthandAt 30 = .ok (.isub, 1) := by decide +kernel
theorem dX7_shorthandAt_31 : decode cX7_shorthandAt 31 = .ok (.invokevirtual 38, 3) := by decide +kernel
theorem dX7_shorthandAt_34 : decode cX7_shorthandAt 34 = .ok (.if_icmp .ne 6, 3) := by decide +kernel
theorem dX7_shorthandAt_37 : decode cX7_shorthandAt 37 = .ok (.goto 98, 3) := by decide +kernel
theorem dX7_shorthandAt_40 : decode cX7_shorthandAt 40 = .ok (.iload_n 3, 1) := by decide +kernel
theorem dX7_shorthandAt_41 : decode cX7_shorthandAt 41 = .ok (.ifCond .le 13, 3) := by decide +kernel
theorem dX7_shorthandAt_44 : decode cX7_shorthandAt 44 = .ok (.iload_n 2, 1) := by decide +kernel
theorem dX7_shorthandAt_45 : decode cX7_shorthandAt 45 = .ok (.ifCond .ne 6, 3) := by decide +kernel
theorem dX7_shorthandAt_48 : decode cX7_shorthandAt 48 = .ok (.bipush 44, 2) := by decide +kernel
theorem dX7_shorthandAt_50 : decode cX7_shorthandAt 50 = .ok (.ireturn, 1) := by decide +kernel
theorem dX7_shorthandAt_51 : decode cX7_shorthandAt 51 = .ok (.iinc 2 (-1), 3) := by decide +kernel
theorem dX7_shorthandAt_54 : decode cX7_shorthandAt 54 = .ok (.aload_n 0, 1) := by decide +kernel
theorem dX7_shorthandAt_55 : decode cX7_shorthandAt 55 = .ok (.iload_n 3, 1) := by decide +kernel
theorem dX7_shorthandAt_56 : decode cX7_shorthandAt 56 = .ok (.invokevirtual 38, 3) := by decide +kernel
theorem dX7_shorthandAt_59 : decode cX7_shorthandAt 59 = .ok (.invokestatic 66, 3) := by decide +kernel
theorem dX7_shorthandAt_62 : decode cX7_shorthandAt 62 = .ok (.astore 4, 2) := by decide +kernel
theorem dX7_shorthandAt_64 : decode cX7_shorthandAt 64 = .ok (.iload_n 2, 1) := by decide +kernel
theorem dX7_shorthandAt_65 : decode cX7_shorthandAt 65 = .ok (.aload 4, 2) := by decide +kernel
theorem dX7_shorthandAt_67 : decode cX7_shorthandAt 67 = .ok (.invokevirtual 70, 3) := by decide +kernel
theorem dX7_shorthandAt_70 : decode cX7_shorthandAt 70 = .ok (.if_icmp .ge 10, 3) := by decide +kernel
theorem dX7_shorthandAt_73 : decode cX7_shorthandAt 73 = .ok (.aload 4, 2) := by decide +kernel
theorem dX7_shorthandAt_75 : decode cX7_shorthandAt 75 = .ok (.iload_n 2, 1) := by decide +kernel
theorem dX7_shorthandAt_76 : decode cX7_shorthandAt 76 = .ok (.invokevirtual 76, 3) := by decide +kernel
theorem dX7_shorthandAt_79 : decode cX7_shorthandAt 79 = .ok (.ireturn, 1) := by decide +kernel
theorem dX7_shorthandAt_80 : decode cX7_shorthandAt 80 = .ok (.iload_n 2, 1) := by decide +kernel
theorem dX7_shorthandAt_81 : decode cX7_shorthandAt 81 = .ok (.aload 4, 2) := by decide +kernel
theorem dX7_shorthandAt_83 : decode cX7_shorthandAt 83 = .ok (.invokevirtual 70, 3) := by decide +kernel
theorem dX7_shorthandAt_86 : decode cX7_shorthandAt 86 = .ok (.isub, 1) := by decide +kernel
theorem dX7_shorthandAt_87 : decode cX7_shorthandAt 87 = .ok (.istore_n 2, 1) := by decide +kernel
theorem dX7_shorthandAt_88 : decode cX7_shorthandAt 88 = .ok (.aload_n 0, 1) := by decide +kernel
theorem dX7_shorthandAt_89 : decode cX7_shorthandAt 89 = .ok (.iload_n 3, 1) := by decide +kernel
theorem dX7_shorthandAt_90 : decode cX7_shorthandAt 90 = .ok (.invokevirtual 80, 3) := by decide +kernel
theorem dX7_shorthandAt_93 : decode cX7_shorthandAt 93 = .ok (.istore 5, 2) := by decide +kernel
theorem dX7_shorthandAt_95 : decode cX7_shorthandAt 95 = .ok (.iload 5, 2) := by decide +kernel
theorem dX7_shorthandAt_97 : decode cX7_shorthandAt 97 = .ok (.iconst 1, 1) := by decide +kernel
theorem dX7_shorthandAt_98 : decode cX7_shorthandAt 98 = .ok (.if_icmp .ne 7, 3) := by decide +kernel
theorem dX7_shorthandAt_101 : decode cX7_shorthandAt 101 = .ok (.iconst 0, 1) := by decide +kernel
theorem dX7_shorthandAt_102 : decode cX7_shorthandAt 102 = .ok (.goto 8, 3) := by decide +kernel
theorem dX7_shorthandAt_105 : decode cX7_shorthandAt 105 = .ok (.iload 5, 2) := by decide +kernel
theorem dX7_shorthandAt_107 : decode cX7_shorthandAt 107 = .ok (.invokestatic 83, 3) := by decide +kernel
theorem dX7_shorthandAt_110 : decode cX7_shorthandAt 110 = .ok (.istore 6, 2) := by decide +kernel
theorem dX7_shorthandAt_112 : decode cX7_shorthandAt 112 = .ok (.iload_n 2, 1) := by decide +kernel
theorem dX7_shorthandAt_113 : decode cX7_shorthandAt 113 = .ok (.iload 6, 2) := by decide +kernel
theorem dX7_shorthandAt_115 : decode cX7_shorthandAt 115 = .ok (.if_icmp .ge 15, 3) := by decide +kernel
theorem dX7_shorthandAt_118 : decode cX7_shorthandAt 118 = .ok (.iload 5, 2) := by decide +kernel
theorem dX7_shorthandAt_120 : decode cX7_shorthandAt 120 = .ok (.iload 6, 2) := by decide +kernel
theorem dX7_shorthandAt_122 : decode cX7_shorthandAt 122 = .ok (.iconst 1, 1) := by decide +kernel
theorem dX7_shorthandAt_123 : decode cX7_shorthandAt 123 = .ok (.isub, 1) := by decide +kernel
theorem dX7_shorthandAt_124 : decode cX7_shorthandAt 124 = .ok (.iload_n 2, 1) := by decide +kernel
theorem dX7_shorthandAt_125 : decode cX7_shorthandAt 125 = .ok (.isub, 1) := by decide +kernel
theorem dX7_shorthandAt_126 : decode cX7_shorthandAt 126 = .ok (.invokestatic 86, 3) := by decide +kernel
theorem dX7_shorthandAt_129 : decode cX7_shorthandAt 129 = .ok (.ireturn, 1) := by decide +kernel
theorem dX7_shorthandAt_130 : decode cX7_shorthandAt 130 = .ok (.iload_n 2, 1) := by decide +kernel
theorem dX7_shorthandAt_131 : decode cX7_shorthandAt 131 = .ok (.iload 6, 2) := by decide +kernel
theorem dX7_shorthandAt_133 : decode cX7_shorthandAt 133 = .ok (.isub, 1) := by decide +kernel
theorem dX7_shorthandAt_134 : decode cX7_shorthandAt 134 = .ok (.istore_n 2, 1) := by decide +kernel
theorem dX7_shorthandAt_135 : decode cX7_shorthandAt 135 = .ok (.iinc 3 1, 3) := by decide +kernel
theorem dX7_shorthandAt_138 : decode cX7_shorthandAt 138 = .ok (.goto (-128), 3) := by decide +kernel
theorem dX7_shorthandAt_141 : decode cX7_shorthandAt 141 = .ok (.iconst (-1), 1) := by decide +kernel
theorem dX7_shorthandAt_142 : decode cX7_shorthandAt 142 = .ok (.ireturn, 1) := by decide +kernel
theorem dX7_runLength_0 : decode cX7_runLength 0 = .ok (.iload_n 1, 1) := by decide +kernel
theorem dX7_runLength_1 : decode cX7_runLength 1 = .ok (.iconst 1, 1) := by decide +kernel
theorem dX7_runLength_2 : decode cX7_runLength 2 = .ok (.iadd, 1) := by decide +kernel
theorem dX7_runLength_3 : decode cX7_runLength 3 = .ok (.istore_n 2, 1) := by decide +kernel
theorem dX7_runLength_4 : decode cX7_runLength 4 = .ok (.iload_n 2, 1) := by decide +kernel
theorem dX7_runLength_5 : decode cX7_runLength 5 = .ok (.aload_n 0, 1) := by decide +kernel
theorem dX7_runLength_6 : decode cX7_runLength 6 = .ok (.getfield 21, 3) := by decide +kernel
theorem dX7_runLength_9 : decode cX7_runLength 9 = .ok (.if_icmp .ge 22, 3) := by decide +kernel
theorem dX7_runLength_12 : decode cX7_runLength 12 = .ok (.aload_n 0, 1) := by decide +kernel
theorem dX7_runLength_13 : decode cX7_runLength 13 = .ok (.iload_n 2, 1) := by decide +kernel
theorem dX7_runLength_14 : decode cX7_runLength 14 = .ok (.invokevirtual 38, 3) := by decide +kernel
theorem dX7_runLength_17 : decode cX7_runLength 17 = .ok (.aload_n 0, 1) := by decide +kernel
theorem dX7_runLength_18 : decode cX7_runLength 18 = .ok (.iload_n 1, 1) := by decide +kernel
theorem dX7_runLength_19 : decode cX7_runLength 19 = .ok (.invokevirtual 38, 3) := by decide +kernel
theorem dX7_runLength_22 : decode cX7_runLength 22 = .ok (.if_icmp .ne 9, 3) := by decide +kernel
theorem dX7_runLength_25 : decode cX7_runLength 25 = .ok (.iinc 2 1, 3) := by decide +kernel
theorem dX7_runLength_28 : decode cX7_runLength 28 = .ok (.goto (-24), 3) := by decide +kernel
theorem dX7_runLength_31 : decode cX7_runLength 31 = .ok (.iload_n 2, 1) := by decide +kernel
theorem dX7_runLength_32 : decode cX7_runLength 32 = .ok (.iload_n 1, 1) := by decide +kernel
theorem dX7_runLength_33 : decode cX7_runLength 33 = .ok (.isub, 1) := by decide +kernel
theorem dX7_runLength_34 : decode cX7_runLength 34 = .ok (.ireturn, 1) := by decide +kernel
theorem dX7_digitsOf_0 : decode cX7_digitsOf 0 = .ok (.iload_n 0, 1) := by decide +kernel
theorem dX7_digitsOf_1 : decode cX7_digitsOf 1 = .ok (.bipush 10, 2) := by decide +kernel
theorem dX7_digitsOf_3 : decode cX7_digitsOf 3 = .ok (.if_icmp .ge 7, 3) := by decide +kernel
theorem dX7_digitsOf_6 : decode cX7_digitsOf 6 = .ok (.iconst 1, 1) := by decide +kernel
theorem dX7_digitsOf_7 : decode cX7_digitsOf 7 = .ok (.goto 14, 3) := by decide +kernel
theorem dX7_digitsOf_10 : decode cX7_digitsOf 10 = .ok (.iload_n 0, 1) := by decide +kernel
theorem dX7_digitsOf_11 : decode cX7_digitsOf 11 = .ok (.bipush 100, 2) := by decide +kernel
theorem dX7_digitsOf_13 : decode cX7_digitsOf 13 = .ok (.if_icmp .ge 7, 3) := by decide +kernel
theorem dX7_digitsOf_16 : decode cX7_digitsOf 16 = .ok (.iconst 2, 1) := by decide +kernel
theorem dX7_digitsOf_17 : decode cX7_digitsOf 17 = .ok (.goto 4, 3) := by decide +kernel
theorem dX7_digitsOf_20 : decode cX7_digitsOf 20 = .ok (.iconst 3, 1) := by decide +kernel
theorem dX7_digitsOf_21 : decode cX7_digitsOf 21 = .ok (.ireturn, 1) := by decide +kernel
theorem dX7_digitAt_0 : decode cX7_digitAt 0 = .ok (.iload_n 0, 1) := by decide +kernel
theorem dX7_digitAt_1 : decode cX7_digitAt 1 = .ok (.istore_n 2, 1) := by decide +kernel
theorem dX7_digitAt_2 : decode cX7_digitAt 2 = .ok (.iconst 0, 1) := by decide +kernel
theorem dX7_digitAt_3 : decode cX7_digitAt 3 = .ok (.istore_n 3, 1) := by decide +kernel
theorem dX7_digitAt_4 : decode cX7_digitAt 4 = .ok (.iload_n 3, 1) := by decide +kernel
theorem dX7_digitAt_5 : decode cX7_digitAt 5 = .ok (.iload_n 1, 1) := by decide +kernel
theorem dX7_digitAt_6 : decode cX7_digitAt 6 = .ok (.if_icmp .ge 14, 3) := by decide +kernel
theorem dX7_digitAt_9 : decode cX7_digitAt 9 = .ok (.iload_n 2, 1) := by decide +kernel
theorem dX7_digitAt_10 : decode cX7_digitAt 10 = .ok (.bipush 10, 2) := by decide +kernel
theorem dX7_digitAt_12 : decode cX7_digitAt 12 = .ok (.idiv, 1) := by decide +kernel
theorem dX7_digitAt_13 : decode cX7_digitAt 13 = .ok (.istore_n 2, 1) := by decide +kernel
theorem dX7_digitAt_14 : decode cX7_digitAt 14 = .ok (.iinc 3 1, 3) := by decide +kernel
theorem dX7_digitAt_17 : decode cX7_digitAt 17 = .ok (.goto (-13), 3) := by decide +kernel
theorem dX7_digitAt_20 : decode cX7_digitAt 20 = .ok (.bipush 48, 2) := by decide +kernel
theorem dX7_digitAt_22 : decode cX7_digitAt 22 = .ok (.iload_n 2, 1) := by decide +kernel
theorem dX7_digitAt_23 : decode cX7_digitAt 23 = .ok (.bipush 10, 2) := by decide +kernel
theorem dX7_digitAt_25 : decode cX7_digitAt 25 = .ok (.irem, 1) := by decide +kernel
theorem dX7_digitAt_26 : decode cX7_digitAt 26 = .ok (.iadd, 1) := by decide +kernel
theorem dX7_digitAt_27 : decode cX7_digitAt 27 = .ok (.ireturn, 1) := by decide +kernel
theorem dX7_rootsOf_0 : decode cX7_rootsOf 0 = .ok (.lconst 0, 1) := by decide +kernel
theorem dX7_rootsOf_1 : decode cX7_rootsOf 1 = .ok (.lstore_n 3, 1) := by decide +kernel
theorem dX7_rootsOf_2 : decode cX7_rootsOf 2 = .ok (.iconst 0, 1) := by decide +kernel
theorem dX7_rootsOf_3 : decode cX7_rootsOf 3 = .ok (.istore 5, 2) := by decide +kernel
theorem dX7_rootsOf_5 : decode cX7_rootsOf 5 = .ok (.iconst 0, 1) := by decide +kernel
theorem dX7_rootsOf_6 : decode cX7_rootsOf 6 = .ok (.istore 6, 2) := by decide +kernel
theorem dX7_rootsOf_8 : decode cX7_rootsOf 8 = .ok (.iconst 0, 1) := by decide +kernel
theorem dX7_rootsOf_9 : decode cX7_rootsOf 9 = .ok (.istore 7, 2) := by decide +kernel
theorem dX7_rootsOf_11 : decode cX7_rootsOf 11 = .ok (.iload 7, 2) := by decide +kernel
theorem dX7_rootsOf_13 : decode cX7_rootsOf 13 = .ok (.aload_n 0, 1) := by decide +kernel
theorem dX7_rootsOf_14 : decode cX7_rootsOf 14 = .ok (.getfield 21, 3) := by decide +kernel
theorem dX7_rootsOf_17 : decode cX7_rootsOf 17 = .ok (.if_icmp .ge 77, 3) := by decide +kernel
theorem dX7_rootsOf_20 : decode cX7_rootsOf 20 = .ok (.aload_n 0, 1) := by decide +kernel
theorem dX7_rootsOf_21 : decode cX7_rootsOf 21 = .ok (.iload 7, 2) := by decide +kernel
theorem dX7_rootsOf_23 : decode cX7_rootsOf 23 = .ok (.invokevirtual 38, 3) := by decide +kernel
theorem dX7_rootsOf_26 : decode cX7_rootsOf 26 = .ok (.invokestatic 42, 3) := by decide +kernel
theorem dX7_rootsOf_29 : decode cX7_rootsOf 29 = .ok (.istore 8, 2) := by decide +kernel
theorem dX7_rootsOf_31 : decode cX7_rootsOf 31 = .ok (.aload_n 0, 1) := by decide +kernel
theorem dX7_rootsOf_32 : decode cX7_rootsOf 32 = .ok (.iload 7, 2) := by decide +kernel
theorem dX7_rootsOf_34 : decode cX7_rootsOf 34 = .ok (.invokevirtual 38, 3) := by decide +kernel
theorem dX7_rootsOf_37 : decode cX7_rootsOf 37 = .ok (.invokestatic 47, 3) := by decide +kernel
theorem dX7_rootsOf_40 : decode cX7_rootsOf 40 = .ok (.istore 9, 2) := by decide +kernel
theorem dX7_rootsOf_42 : decode cX7_rootsOf 42 = .ok (.lconst 1, 1) := by decide +kernel
theorem dX7_rootsOf_43 : decode cX7_rootsOf 43 = .ok (.iload 9, 2) := by decide +kernel
theorem dX7_rootsOf_45 : decode cX7_rootsOf 45 = .ok (.lshl, 1) := by decide +kernel
theorem dX7_rootsOf_46 : decode cX7_rootsOf 46 = .ok (.lconst 1, 1) := by decide +kernel
theorem dX7_rootsOf_47 : decode cX7_rootsOf 47 = .ok (.lsub, 1) := by decide +kernel
theorem dX7_rootsOf_48 : decode cX7_rootsOf 48 = .ok (.iload 6, 2) := by decide +kernel
theorem dX7_rootsOf_50 : decode cX7_rootsOf 50 = .ok (.lshl, 1) := by decide +kernel
theorem dX7_rootsOf_51 : decode cX7_rootsOf 51 = .ok (.lstore 10, 2) := by decide +kernel
theorem dX7_rootsOf_53 : decode cX7_rootsOf 53 = .ok (.lload 10, 2) := by decide +kernel
theorem dX7_rootsOf_55 : decode cX7_rootsOf 55 = .ok (.lload_n 1, 1) := by decide +kernel
theorem dX7_rootsOf_56 : decode cX7_rootsOf 56 = .ok (.land, 1) := by decide +kernel
theorem dX7_rootsOf_57 : decode cX7_rootsOf 57 = .ok (.lconst 0, 1) := by decide +kernel
theorem dX7_rootsOf_58 : decode cX7_rootsOf 58 = .ok (.lcmp, 1) := by decide +kernel
theorem dX7_rootsOf_59 : decode cX7_rootsOf 59 = .ok (.ifCond .eq 15, 3) := by decide +kernel
theorem dX7_rootsOf_62 : decode cX7_rootsOf 62 = .ok (.lload_n 3, 1) := by decide +kernel
theorem dX7_rootsOf_63 : decode cX7_rootsOf 63 = .ok (.lconst 1, 1) := by decide +kernel
theorem dX7_rootsOf_64 : decode cX7_rootsOf 64 = .ok (.iload 8, 2) := by decide +kernel
theorem dX7_rootsOf_66 : decode cX7_rootsOf 66 = .ok (.lshl, 1) := by decide +kernel
theorem dX7_rootsOf_67 : decode cX7_rootsOf 67 = .ok (.lconst 1, 1) := by decide +kernel
theorem dX7_rootsOf_68 : decode cX7_rootsOf 68 = .ok (.lsub, 1) := by decide +kernel
theorem dX7_rootsOf_69 : decode cX7_rootsOf 69 = .ok (.iload 5, 2) := by decide +kernel
theorem dX7_rootsOf_71 : decode cX7_rootsOf 71 = .ok (.lshl, 1) := by decide +kernel
theorem dX7_rootsOf_72 : decode cX7_rootsOf 72 = .ok (.lor, 1) := by decide +kernel
theorem dX7_rootsOf_73 : decode cX7_rootsOf 73 = .ok (.lstore_n 3, 1) := by decide +kernel
theorem dX7_rootsOf_74 : decode cX7_rootsOf 74 = .ok (.iload 5, 2) := by decide +kernel
theorem dX7_rootsOf_76 : decode cX7_rootsOf 76 = .ok (.iload 8, 2) := by decide +kernel
theorem dX7_rootsOf_78 : decode cX7_rootsOf 78 = .ok (.iadd, 1) := by decide +kernel
theorem dX7_rootsOf_79 : decode cX7_rootsOf 79 = .ok (.istore 5, 2) := by decide +kernel
theorem dX7_rootsOf_81 : decode cX7_rootsOf 81 = .ok (.iload 6, 2) := by decide +kernel
theorem dX7_rootsOf_83 : decode cX7_rootsOf 83 = .ok (.iload 9, 2) := by decide +kernel
theorem dX7_rootsOf_85 : decode cX7_rootsOf 85 = .ok (.iadd, 1) := by decide +kernel
theorem dX7_rootsOf_86 : decode cX7_rootsOf 86 = .ok (.istore 6, 2) := by decide +kernel
theorem dX7_rootsOf_88 : decode cX7_rootsOf 88 = .ok (.iinc 7 1, 3) := by decide +kernel
theorem dX7_rootsOf_91 : decode cX7_rootsOf 91 = .ok (.goto (-80), 3) := by decide +kernel
theorem dX7_rootsOf_94 : decode cX7_rootsOf 94 = .ok (.lload_n 3, 1) := by decide +kernel
theorem dX7_rootsOf_95 : decode cX7_rootsOf 95 = .ok (.lreturn, 1) := by decide +kernel
theorem dJ9_max_7cf53_0 : decode cJ9_max_7cf53 0 = .ok (.iload_n 0, 1) := by decide +kernel
theorem dJ9_max_7cf53_1 : decode cJ9_max_7cf53 1 = .ok (.iload_n 1, 1) := by decide +kernel
theorem dJ9_max_7cf53_2 : decode cJ9_max_7cf53 2 = .ok (.if_icmp .lt 7, 3) := by decide +kernel
theorem dJ9_max_7cf53_5 : decode cJ9_max_7cf53 5 = .ok (.iload_n 0, 1) := by decide +kernel
theorem dJ9_max_7cf53_6 : decode cJ9_max_7cf53 6 = .ok (.goto 4, 3) := by decide +kernel
theorem dJ9_max_7cf53_9 : decode cJ9_max_7cf53 9 = .ok (.iload_n 1, 1) := by decide +kernel
theorem dJ9_max_7cf53_10 : decode cJ9_max_7cf53 10 = .ok (.ireturn, 1) := by decide +kernel
theorem dJ9_min_7cf53_0 : decode cJ9_min_7cf53 0 = .ok (.iload_n 0, 1) := by decide +kernel
theorem dJ9_min_7cf53_1 : decode cJ9_min_7cf53 1 = .ok (.iload_n 1, 1) := by decide +kernel
theorem dJ9_min_7cf53_2 : decode cJ9_min_7cf53 2 = .ok (.if_icmp .gt 7, 3) := by decide +kernel
theorem dJ9_min_7cf53_5 : decode cJ9_min_7cf53 5 = .ok (.iload_n 0, 1) := by decide +kernel
theorem dJ9_min_7cf53_6 : decode cJ9_min_7cf53 6 = .ok (.goto 4, 3) := by decide +kernel
theorem dJ9_min_7cf53_9 : decode cJ9_min_7cf53 9 = .ok (.iload_n 1, 1) := by decide +kernel
theorem dJ9_min_7cf53_10 : decode cJ9_min_7cf53 10 = .ok (.ireturn, 1) := by decide +kernel
theorem dJ0_length_8abf5_0 : decode cJ0_length_8abf5 0 = .ok (.aload_n 0, 1) := by decide +kernel
theorem dJ0_length_8abf5_1 : decode cJ0_length_8abf5 1 = .ok (.getfield 9, 3) := by decide +kernel
theorem dJ0_length_8abf5_4 : decode cJ0_length_8abf5 4 = .ok (.arraylength, 1) := by decide +kernel
theorem dJ0_length_8abf5_5 : decode cJ0_length_8abf5 5 = .ok (.aload_n 0, 1) := by decide +kernel
theorem dJ0_length_8abf5_6 : decode cJ0_length_8abf5 6 = .ok (.invokevirtual 335, 3) := by decide +kernel
theorem dJ0_length_8abf5_9 : decode cJ0_length_8abf5 9 = .ok (.ishr, 1) := by decide +kernel
theorem dJ0_length_8abf5_10 : decode cJ0_length_8abf5 10 = .ok (.ireturn, 1) := by decide +kernel
theorem dJ0_charAt_5068e_0 : decode cJ0_charAt_5068e 0 = .ok (.aload_n 0, 1) := by decide +kernel
theorem dJ0_charAt_5068e_1 : decode cJ0_charAt_5068e 1 = .ok (.invokevirtual 492, 3) := by decide +kernel
theorem dJ0_charAt_5068e_4 : decode cJ0_charAt_5068e 4 = .ok (.ifCond .eq 12, 3) := by decide +kernel
theorem dJ0_charAt_5068e_7 : decode cJ0_charAt_5068e 7 = .ok (.aload_n 0, 1) := by decide +kernel
theorem dJ0_charAt_5068e_8 : decode cJ0_charAt_5068e 8 = .ok (.getfield 9, 3) := by decide +kernel
theorem dJ0_charAt_5068e_11 : decode cJ0_charAt_5068e 11 = .ok (.iload_n 1, 1) := by decide +kernel
theorem dJ0_charAt_5068e_12 : decode cJ0_charAt_5068e 12 = .ok (.invokestatic 495, 3) := by decide +kernel
theorem dJ0_charAt_5068e_15 : decode cJ0_charAt_5068e 15 = .ok (.ireturn, 1) := by decide +kernel
theorem dJ0_charAt_5068e_16 : decode cJ0_charAt_5068e 16 = .ok (.aload_n 0, 1) := by decide +kernel
theorem dJ0_charAt_5068e_17 : decode cJ0_charAt_5068e 17 = .ok (.getfield 9, 3) := by decide +kernel
theorem dJ0_charAt_5068e_20 : decode cJ0_charAt_5068e 20 = .ok (.iload_n 1, 1) := by decide +kernel
theorem dJ0_charAt_5068e_21 : decode cJ0_charAt_5068e 21 = .ok (.invokestatic 498, 3) := by decide +kernel
theorem dJ0_charAt_5068e_24 : decode cJ0_charAt_5068e 24 = .ok (.ireturn, 1) := by decide +kernel
theorem dJ0_coder_7d493_0 : decode cJ0_coder_7d493 0 = .ok (.getstatic 38, 3) := by decide +kernel
theorem dJ0_coder_7d493_3 : decode cJ0_coder_7d493 3 = .ok (.ifCond .eq 10, 3) := by decide +kernel
theorem dJ0_coder_7d493_6 : decode cJ0_coder_7d493 6 = .ok (.aload_n 0, 1) := by decide +kernel
theorem dJ0_coder_7d493_7 : decode cJ0_coder_7d493 7 = .ok (.getfield 15, 3) := by decide +kernel
theorem dJ0_coder_7d493_10 : decode cJ0_coder_7d493 10 = .ok (.goto 4, 3) := by decide +kernel
theorem dJ0_coder_7d493_13 : decode cJ0_coder_7d493 13 = .ok (.iconst 1, 1) := by decide +kernel
theorem dJ0_coder_7d493_14 : decode cJ0_coder_7d493 14 = .ok (.ireturn, 1) := by decide +kernel
theorem dJ0_isLatin1_aae02_0 : decode cJ0_isLatin1_aae02 0 = .ok (.getstatic 38, 3) := by decide +kernel
theorem dJ0_isLatin1_aae02_3 : decode cJ0_isLatin1_aae02 3 = .ok (.ifCond .eq 14, 3) := by decide +kernel
theorem dJ0_isLatin1_aae02_6 : decode cJ0_isLatin1_aae02 6 = .ok (.aload_n 0, 1) := by decide +kernel
theorem dJ0_isLatin1_aae02_7 : decode cJ0_isLatin1_aae02 7 = .ok (.getfield 15, 3) := by decide +kernel
theorem dJ0_isLatin1_aae02_10 : decode cJ0_isLatin1_aae02 10 = .ok (.ifCond .ne 7, 3) := by decide +kernel
theorem dJ0_isLatin1_aae02_13 : decode cJ0_isLatin1_aae02 13 = .ok (.iconst 1, 1) := by decide +kernel
theorem dJ0_isLatin1_aae02_14 : decode cJ0_isLatin1_aae02 14 = .ok (.goto 4, 3) := by decide +kernel
theorem dJ0_isLatin1_aae02_17 : decode cJ0_isLatin1_aae02 17 = .ok (.iconst 0, 1) := by decide +kernel
theorem dJ0_isLatin1_aae02_18 : decode cJ0_isLatin1_aae02 18 = .ok (.ireturn, 1) := by decide +kernel
theorem dJ0_checkIndex_df160_0 : decode cJ0_checkIndex_df160 0 = .ok (.iload_n 0, 1) := by decide +kernel
theorem dJ0_checkIndex_df160_1 : decode cJ0_checkIndex_df160 1 = .ok (.iload_n 1, 1) := by decide +kernel
theorem dJ0_checkIndex_df160_2 : decode cJ0_checkIndex_df160 2 = .ok (.getstatic 1053, 3) := by decide +kernel
theorem dJ0_checkIndex_df160_5 : decode cJ0_checkIndex_df160 5 = .ok (.invokestatic 1059, 3) := by decide +kernel
theorem dJ0_checkIndex_df160_8 : decode cJ0_checkIndex_df160 8 = .ok (.pop, 1) := by decide +kernel
theorem dJ0_checkIndex_df160_9 : decode cJ0_checkIndex_df160 9 = .ok (.return_, 1) := by decide +kernel
theorem dJ1_charAt_3b067_0 : decode cJ1_charAt_3b067 0 = .ok (.iload_n 1, 1) := by decide +kernel
theorem dJ1_charAt_3b067_1 : decode cJ1_charAt_3b067 1 = .ok (.aload_n 0, 1) := by decide +kernel
theorem dJ1_charAt_3b067_2 : decode cJ1_charAt_3b067 2 = .ok (.arraylength, 1) := by decide +kernel
theorem dJ1_charAt_3b067_3 : decode cJ1_charAt_3b067 3 = .ok (.invokestatic 9, 3) := by decide +kernel
theorem dJ1_charAt_3b067_6 : decode cJ1_charAt_3b067 6 = .ok (.aload_n 0, 1) := by decide +kernel
theorem dJ1_charAt_3b067_7 : decode cJ1_charAt_3b067 7 = .ok (.iload_n 1, 1) := by decide +kernel
theorem dJ1_charAt_3b067_8 : decode cJ1_charAt_3b067 8 = .ok (.baload, 1) := by decide +kernel
theorem dJ1_charAt_3b067_9 : decode cJ1_charAt_3b067 9 = .ok (.sipush 255, 3) := by decide +kernel
theorem dJ1_charAt_3b067_12 : decode cJ1_charAt_3b067 12 = .ok (.iand, 1) := by decide +kernel
theorem dJ1_charAt_3b067_13 : decode cJ1_charAt_3b067 13 = .ok (.i2c, 1) := by decide +kernel
theorem dJ1_charAt_3b067_14 : decode cJ1_charAt_3b067 14 = .ok (.ireturn, 1) := by decide +kernel
theorem dJ2_getChar_3b067_0 : decode cJ2_getChar_3b067 0 = .ok (.getstatic 44, 3) := by decide +kernel
theorem dJ2_getChar_3b067_3 : decode cJ2_getChar_3b067 3 = .ok (.ifCond .ne 25, 3) := by decide +kernel
theorem dJ2_getChar_3b067_6 : decode cJ2_getChar_3b067 6 = .ok (.iload_n 1, 1) := by decide +kernel
theorem dJ2_getChar_3b067_7 : decode cJ2_getChar_3b067 7 = .ok (.ifCond .lt 11, 3) := by decide +kernel
theorem dJ2_getChar_3b067_10 : decode cJ2_getChar_3b067 10 = .ok (.iload_n 1, 1) := by decide +kernel
theorem dJ2_getChar_3b067_11 : decode cJ2_getChar_3b067 11 = .ok (.aload_n 0, 1) := by decide +kernel
theorem dJ2_getChar_3b067_12 : decode cJ2_getChar_3b067 12 = .ok (.invokestatic 48, 3) := by decide +kernel
theorem dJ2_getChar_3b067_15 : decode cJ2_getChar_3b067 15 = .ok (.if_icmp .lt 13, 3) := by decide +kernel
theorem dJ2_getChar_3b067_18 : decode cJ2_getChar_3b067 18 = .ok (.new 52, 3) := by decide +kernel
theorem dJ2_getChar_3b067_21 : decode cJ2_getChar_3b067 21 = .ok (.dup, 1) := by decide +kernel
theorem dJ2_getChar_3b067_22 : decode cJ2_getChar_3b067 22 = .ok (.ldc 54, 2) := by decide +kernel
theorem dJ2_getChar_3b067_24 : decode cJ2_getChar_3b067 24 = .ok (.invokespecial 56, 3) := by decide +kernel
theorem dJ2_getChar_3b067_27 : decode cJ2_getChar_3b067 27 = .ok (.athrow, 1) := by decide +kernel
theorem dJ2_getChar_3b067_28 : decode cJ2_getChar_3b067 28 = .ok (.iload_n 1, 1) := by decide +kernel
theorem dJ2_getChar_3b067_29 : decode cJ2_getChar_3b067 29 = .ok (.iconst 1, 1) := by decide +kernel
theorem dJ2_getChar_3b067_30 : decode cJ2_getChar_3b067 30 = .ok (.ishl, 1) := by decide +kernel
theorem dJ2_getChar_3b067_31 : decode cJ2_getChar_3b067 31 = .ok (.istore_n 1, 1) := by decide +kernel
theorem dJ2_getChar_3b067_32 : decode cJ2_getChar_3b067 32 = .ok (.aload_n 0, 1) := by decide +kernel
theorem dJ2_getChar_3b067_33 : decode cJ2_getChar_3b067 33 = .ok (.iload_n 1, 1) := by decide +kernel
theorem dJ2_getChar_3b067_34 : decode cJ2_getChar_3b067 34 = .ok (.iinc 1 1, 3) := by decide +kernel
theorem dJ2_getChar_3b067_37 : decode cJ2_getChar_3b067 37 = .ok (.baload, 1) := by decide +kernel
theorem dJ2_getChar_3b067_38 : decode cJ2_getChar_3b067 38 = .ok (.sipush 255, 3) := by decide +kernel
theorem dJ2_getChar_3b067_41 : decode cJ2_getChar_3b067 41 = .ok (.iand, 1) := by decide +kernel
theorem dJ2_getChar_3b067_42 : decode cJ2_getChar_3b067 42 = .ok (.getstatic 59, 3) := by decide +kernel
theorem dJ2_getChar_3b067_45 : decode cJ2_getChar_3b067 45 = .ok (.ishl, 1) := by decide +kernel
theorem dJ2_getChar_3b067_46 : decode cJ2_getChar_3b067 46 = .ok (.aload_n 0, 1) := by decide +kernel
theorem dJ2_getChar_3b067_47 : decode cJ2_getChar_3b067 47 = .ok (.iload_n 1, 1) := by decide +kernel
theorem dJ2_getChar_3b067_48 : decode cJ2_getChar_3b067 48 = .ok (.baload, 1) := by decide +kernel
theorem dJ2_getChar_3b067_49 : decode cJ2_getChar_3b067 49 = .ok (.sipush 255, 3) := by decide +kernel
theorem dJ2_getChar_3b067_52 : decode cJ2_getChar_3b067 52 = .ok (.iand, 1) := by decide +kernel
theorem dJ2_getChar_3b067_53 : decode cJ2_getChar_3b067 53 = .ok (.getstatic 63, 3) := by decide +kernel
theorem dJ2_getChar_3b067_56 : decode cJ2_getChar_3b067 56 = .ok (.ishl, 1) := by decide +kernel
theorem dJ2_getChar_3b067_57 : decode cJ2_getChar_3b067 57 = .ok (.ior, 1) := by decide +kernel
theorem dJ2_getChar_3b067_58 : decode cJ2_getChar_3b067 58 = .ok (.i2c, 1) := by decide +kernel
theorem dJ2_getChar_3b067_59 : decode cJ2_getChar_3b067 59 = .ok (.ireturn, 1) := by decide +kernel
theorem dJ2_length_9d52b_0 : decode cJ2_length_9d52b 0 = .ok (.aload_n 0, 1) := by decide +kernel
theorem dJ2_length_9d52b_1 : decode cJ2_length_9d52b 1 = .ok (.arraylength, 1) := by decide +kernel
theorem dJ2_length_9d52b_2 : decode cJ2_length_9d52b 2 = .ok (.iconst 1, 1) := by decide +kernel
theorem dJ2_length_9d52b_3 : decode cJ2_length_9d52b 3 = .ok (.ishr, 1) := by decide +kernel
theorem dJ2_length_9d52b_4 : decode cJ2_length_9d52b 4 = .ok (.ireturn, 1) := by decide +kernel
theorem dJ2_charAt_3b067_0 : decode cJ2_charAt_3b067 0 = .ok (.iload_n 1, 1) := by decide +kernel
theorem dJ2_charAt_3b067_1 : decode cJ2_charAt_3b067 1 = .ok (.aload_n 0, 1) := by decide +kernel
theorem dJ2_charAt_3b067_2 : decode cJ2_charAt_3b067 2 = .ok (.invokestatic 67, 3) := by decide +kernel
theorem dJ2_charAt_3b067_5 : decode cJ2_charAt_3b067 5 = .ok (.aload_n 0, 1) := by decide +kernel
theorem dJ2_charAt_3b067_6 : decode cJ2_charAt_3b067 6 = .ok (.iload_n 1, 1) := by decide +kernel
theorem dJ2_charAt_3b067_7 : decode cJ2_charAt_3b067 7 = .ok (.invokestatic 71, 3) := by decide +kernel
theorem dJ2_charAt_3b067_10 : decode cJ2_charAt_3b067 10 = .ok (.ireturn, 1) := by decide +kernel
theorem dJ2_checkIndex_2214a_0 : decode cJ2_checkIndex_2214a 0 = .ok (.iload_n 0, 1) := by decide +kernel
theorem dJ2_checkIndex_2214a_1 : decode cJ2_checkIndex_2214a 1 = .ok (.aload_n 1, 1) := by decide +kernel
theorem dJ2_checkIndex_2214a_2 : decode cJ2_checkIndex_2214a 2 = .ok (.invokestatic 48, 3) := by decide +kernel
theorem dJ2_checkIndex_2214a_5 : decode cJ2_checkIndex_2214a 5 = .ok (.invokestatic 414, 3) := by decide +kernel
theorem dJ2_checkIndex_2214a_8 : decode cJ2_checkIndex_2214a 8 = .ok (.return_, 1) := by decide +kernel
theorem dJ7_fill_d0a16_0 : decode cJ7_fill_d0a16 0 = .ok (.iconst 0, 1) := by decide +kernel
theorem dJ7_fill_d0a16_1 : decode cJ7_fill_d0a16 1 = .ok (.istore_n 3, 1) := by decide +kernel
theorem dJ7_fill_d0a16_2 : decode cJ7_fill_d0a16 2 = .ok (.aload_n 0, 1) := by decide +kernel
theorem dJ7_fill_d0a16_3 : decode cJ7_fill_d0a16 3 = .ok (.arraylength, 1) := by decide +kernel
theorem dJ7_fill_d0a16_4 : decode cJ7_fill_d0a16 4 = .ok (.istore 4, 2) := by decide +kernel
theorem dJ7_fill_d0a16_6 : decode cJ7_fill_d0a16 6 = .ok (.iload_n 3, 1) := by decide +kernel
theorem dJ7_fill_d0a16_7 : decode cJ7_fill_d0a16 7 = .ok (.iload 4, 2) := by decide +kernel
theorem dJ7_fill_d0a16_9 : decode cJ7_fill_d0a16 9 = .ok (.if_icmp .ge 13, 3) := by decide +kernel
theorem dJ7_fill_d0a16_12 : decode cJ7_fill_d0a16 12 = .ok (.aload_n 0, 1) := by decide +kernel
theorem dJ7_fill_d0a16_13 : decode cJ7_fill_d0a16 13 = .ok (.iload_n 3, 1) := by decide +kernel
theorem dJ7_fill_d0a16_14 : decode cJ7_fill_d0a16 14 = .ok (.lload_n 1, 1) := by decide +kernel
theorem dJ7_fill_d0a16_15 : decode cJ7_fill_d0a16 15 = .ok (.lastore, 1) := by decide +kernel
theorem dJ7_fill_d0a16_16 : decode cJ7_fill_d0a16 16 = .ok (.iinc 3 1, 3) := by decide +kernel
theorem dJ7_fill_d0a16_19 : decode cJ7_fill_d0a16 19 = .ok (.goto (-13), 3) := by decide +kernel
theorem dJ7_fill_d0a16_22 : decode cJ7_fill_d0a16 22 = .ok (.return_, 1) := by decide +kernel
theorem dJ7_copyOf_59c91_0 : decode cJ7_copyOf_59c91 0 = .ok (.iload_n 1, 1) := by decide +kernel
theorem dJ7_copyOf_59c91_1 : decode cJ7_copyOf_59c91 1 = .ok (.aload_n 0, 1) := by decide +kernel
theorem dJ7_copyOf_59c91_2 : decode cJ7_copyOf_59c91 2 = .ok (.arraylength, 1) := by decide +kernel
theorem dJ7_copyOf_59c91_3 : decode cJ7_copyOf_59c91 3 = .ok (.if_icmp .ne 11, 3) := by decide +kernel
theorem dJ7_copyOf_59c91_6 : decode cJ7_copyOf_59c91 6 = .ok (.aload_n 0, 1) := by decide +kernel
theorem dJ7_copyOf_59c91_7 : decode cJ7_copyOf_59c91 7 = .ok (.invokevirtual 316, 3) := by decide +kernel
theorem dJ7_copyOf_59c91_10 : decode cJ7_copyOf_59c91 10 = .ok (.checkcast 317, 3) := by decide +kernel
theorem dJ7_copyOf_59c91_13 : decode cJ7_copyOf_59c91 13 = .ok (.areturn, 1) := by decide +kernel
theorem dJ7_copyOf_59c91_14 : decode cJ7_copyOf_59c91 14 = .ok (.iload_n 1, 1) := by decide +kernel
theorem dJ7_copyOf_59c91_15 : decode cJ7_copyOf_59c91 15 = .ok (.newarray .int, 2) := by decide +kernel
theorem dJ7_copyOf_59c91_17 : decode cJ7_copyOf_59c91 17 = .ok (.astore_n 2, 1) := by decide +kernel
theorem dJ7_copyOf_59c91_18 : decode cJ7_copyOf_59c91 18 = .ok (.aload_n 0, 1) := by decide +kernel
theorem dJ7_copyOf_59c91_19 : decode cJ7_copyOf_59c91 19 = .ok (.iconst 0, 1) := by decide +kernel
theorem dJ7_copyOf_59c91_20 : decode cJ7_copyOf_59c91 20 = .ok (.aload_n 2, 1) := by decide +kernel
theorem dJ7_copyOf_59c91_21 : decode cJ7_copyOf_59c91 21 = .ok (.iconst 0, 1) := by decide +kernel
theorem dJ7_copyOf_59c91_22 : decode cJ7_copyOf_59c91 22 = .ok (.aload_n 0, 1) := by decide +kernel
theorem dJ7_copyOf_59c91_23 : decode cJ7_copyOf_59c91 23 = .ok (.arraylength, 1) := by decide +kernel
theorem dJ7_copyOf_59c91_24 : decode cJ7_copyOf_59c91 24 = .ok (.iload_n 1, 1) := by decide +kernel
theorem dJ7_copyOf_59c91_25 : decode cJ7_copyOf_59c91 25 = .ok (.invokestatic 304, 3) := by decide +kernel
theorem dJ7_copyOf_59c91_28 : decode cJ7_copyOf_59c91 28 = .ok (.invokestatic 150, 3) := by decide +kernel
theorem dJ7_copyOf_59c91_31 : decode cJ7_copyOf_59c91 31 = .ok (.aload_n 2, 1) := by decide +kernel
theorem dJ7_copyOf_59c91_32 : decode cJ7_copyOf_59c91 32 = .ok (.areturn, 1) := by decide +kernel
theorem dJ3_checkIndex_8e157_0 : decode cJ3_checkIndex_8e157 0 = .ok (.iload_n 0, 1) := by decide +kernel
theorem dJ3_checkIndex_8e157_1 : decode cJ3_checkIndex_8e157 1 = .ok (.ifCond .lt 8, 3) := by decide +kernel
theorem dJ3_checkIndex_8e157_4 : decode cJ3_checkIndex_8e157 4 = .ok (.iload_n 0, 1) := by decide +kernel
theorem dJ3_checkIndex_8e157_5 : decode cJ3_checkIndex_8e157 5 = .ok (.iload_n 1, 1) := by decide +kernel
theorem dJ3_checkIndex_8e157_6 : decode cJ3_checkIndex_8e157 6 = .ok (.if_icmp .lt 10, 3) := by decide +kernel
theorem dJ3_checkIndex_8e157_9 : decode cJ3_checkIndex_8e157 9 = .ok (.aload_n 2, 1) := by decide +kernel
theorem dJ3_checkIndex_8e157_10 : decode cJ3_checkIndex_8e157 10 = .ok (.iload_n 0, 1) := by decide +kernel
theorem dJ3_checkIndex_8e157_11 : decode cJ3_checkIndex_8e157 11 = .ok (.iload_n 1, 1) := by decide +kernel
theorem dJ3_checkIndex_8e157_12 : decode cJ3_checkIndex_8e157 12 = .ok (.invokestatic 95, 3) := by decide +kernel
theorem dJ3_checkIndex_8e157_15 : decode cJ3_checkIndex_8e157 15 = .ok (.athrow, 1) := by decide +kernel
theorem dJ3_checkIndex_8e157_16 : decode cJ3_checkIndex_8e157 16 = .ok (.iload_n 0, 1) := by decide +kernel
theorem dJ3_checkIndex_8e157_17 : decode cJ3_checkIndex_8e157 17 = .ok (.ireturn, 1) := by decide +kernel
