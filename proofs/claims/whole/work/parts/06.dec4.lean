/-! decode rows (printed by the program of the task) -/
theorem dX9_why_19 : decode cX9_why 19 = .ok (.ldc2_w 202, 3) := by decide +kernel
theorem dX9_why_22 : decode cX9_why 22 = .ok (.invokestatic 56, 3) := by decide +kernel
theorem dX9_why_25 : decode cX9_why 25 = .ok (.ifCond .eq 16, 3) := by decide +kernel
theorem dX9_why_28 : decode cX9_why 28 = .ok (.aload_n 0, 1) := by decide +kernel
theorem dX9_why_29 : decode cX9_why 29 = .ok (.getfield 34, 3) := by decide +kernel
theorem dX9_why_32 : decode cX9_why 32 = .ok (.iconst 3, 1) := by decide +kernel
theorem dX9_why_33 : decode cX9_why 33 = .ok (.iload_n 1, 1) := by decide +kernel
theorem dX9_why_34 : decode cX9_why 34 = .ok (.imul, 1) := by decide +kernel
theorem dX9_why_35 : decode cX9_why 35 = .ok (.iload_n 2, 1) := by decide +kernel
theorem dX9_why_36 : decode cX9_why 36 = .ok (.iadd, 1) := by decide +kernel
theorem dX9_why_37 : decode cX9_why 37 = .ok (.iaload, 1) := by decide +kernel
theorem dX9_why_38 : decode cX9_why 38 = .ok (.goto 9, 3) := by decide +kernel
theorem dX9_why_41 : decode cX9_why 41 = .ok (.aload_n 0, 1) := by decide +kernel
theorem dX9_why_42 : decode cX9_why 42 = .ok (.bipush (-92), 2) := by decide +kernel
theorem dX9_why_44 : decode cX9_why 44 = .ok (.invokevirtual 60, 3) := by decide +kernel
theorem dX9_why_47 : decode cX9_why 47 = .ok (.ireturn, 1) := by decide +kernel
theorem dX9_yarnTried_0 : decode cX9_yarnTried 0 = .ok (.iconst 0, 1) := by decide +kernel
theorem dX9_yarnTried_1 : decode cX9_yarnTried 1 = .ok (.istore_n 1, 1) := by decide +kernel
theorem dX9_yarnTried_2 : decode cX9_yarnTried 2 = .ok (.iconst 0, 1) := by decide +kernel
theorem dX9_yarnTried_3 : decode cX9_yarnTried 3 = .ok (.istore_n 2, 1) := by decide +kernel
theorem dX9_yarnTried_4 : decode cX9_yarnTried 4 = .ok (.iload_n 2, 1) := by decide +kernel
theorem dX9_yarnTried_5 : decode cX9_yarnTried 5 = .ok (.aload_n 0, 1) := by decide +kernel
theorem dX9_yarnTried_6 : decode cX9_yarnTried 6 = .ok (.getfield 157, 3) := by decide +kernel
theorem dX9_yarnTried_9 : decode cX9_yarnTried 9 = .ok (.if_icmp .ge 21, 3) := by decide +kernel
theorem dX9_yarnTried_12 : decode cX9_yarnTried 12 = .ok (.iload_n 1, 1) := by decide +kernel
theorem dX9_yarnTried_13 : decode cX9_yarnTried 13 = .ok (.aload_n 0, 1) := by decide +kernel
theorem dX9_yarnTried_14 : decode cX9_yarnTried 14 = .ok (.getfield 25, 3) := by decide +kernel
theorem dX9_yarnTried_17 : decode cX9_yarnTried 17 = .ok (.iload_n 2, 1) := by decide +kernel
theorem dX9_yarnTried_18 : decode cX9_yarnTried 18 = .ok (.iaload, 1) := by decide +kernel
theorem dX9_yarnTried_19 : decode cX9_yarnTried 19 = .ok (.invokestatic 204, 3) := by decide +kernel
theorem dX9_yarnTried_22 : decode cX9_yarnTried 22 = .ok (.iadd, 1) := by decide +kernel
theorem dX9_yarnTried_23 : decode cX9_yarnTried 23 = .ok (.istore_n 1, 1) := by decide +kernel
theorem dX9_yarnTried_24 : decode cX9_yarnTried 24 = .ok (.iinc 2 1, 3) := by decide +kernel
theorem dX9_yarnTried_27 : decode cX9_yarnTried 27 = .ok (.goto (-23), 3) := by decide +kernel
theorem dX9_yarnTried_30 : decode cX9_yarnTried 30 = .ok (.iload_n 1, 1) := by decide +kernel
theorem dX9_yarnTried_31 : decode cX9_yarnTried 31 = .ok (.ireturn, 1) := by decide +kernel
theorem dX9_would_0 : decode cX9_would 0 = .ok (.aload_n 0, 1) := by decide +kernel
theorem dX9_would_1 : decode cX9_would 1 = .ok (.iload_n 1, 1) := by decide +kernel
theorem dX9_would_2 : decode cX9_would 2 = .ok (.invokevirtual 124, 3) := by decide +kernel
theorem dX9_would_5 : decode cX9_would 5 = .ok (.ifCond .eq 27, 3) := by decide +kernel
theorem dX9_would_8 : decode cX9_would 8 = .ok (.iload_n 2, 1) := by decide +kernel
theorem dX9_would_9 : decode cX9_would 9 = .ok (.i2l, 1) := by decide +kernel
theorem dX9_would_10 : decode cX9_would 10 = .ok (.lconst 0, 1) := by decide +kernel
theorem dX9_would_11 : decode cX9_would 11 = .ok (.ldc2_w 197, 3) := by decide +kernel
theorem dX9_would_14 : decode cX9_would 14 = .ok (.invokestatic 56, 3) := by decide +kernel
theorem dX9_would_17 : decode cX9_would 17 = .ok (.ifCond .eq 15, 3) := by decide +kernel
theorem dX9_would_20 : decode cX9_would 20 = .ok (.iload_n 3, 1) := by decide +kernel
theorem dX9_would_21 : decode cX9_would 21 = .ok (.i2l, 1) := by decide +kernel
theorem dX9_would_22 : decode cX9_would 22 = .ok (.lconst 0, 1) := by decide +kernel
theorem dX9_would_23 : decode cX9_would 23 = .ok (.ldc2_w 202, 3) := by decide +kernel
theorem dX9_would_26 : decode cX9_would 26 = .ok (.invokestatic 56, 3) := by decide +kernel
theorem dX9_would_29 : decode cX9_would 29 = .ok (.ifCond .ne 10, 3) := by decide +kernel
theorem dX9_would_32 : decode cX9_would 32 = .ok (.aload_n 0, 1) := by decide +kernel
theorem dX9_would_33 : decode cX9_would 33 = .ok (.bipush (-92), 2) := by decide +kernel
theorem dX9_would_35 : decode cX9_would 35 = .ok (.invokevirtual 60, 3) := by decide +kernel
theorem dX9_would_38 : decode cX9_would 38 = .ok (.ireturn, 1) := by decide +kernel
theorem dX9_would_39 : decode cX9_would 39 = .ok (.aload_n 0, 1) := by decide +kernel
theorem dX9_would_40 : decode cX9_would 40 = .ok (.iload_n 1, 1) := by decide +kernel
theorem dX9_would_41 : decode cX9_would 41 = .ok (.iload_n 2, 1) := by decide +kernel
theorem dX9_would_42 : decode cX9_would 42 = .ok (.invokevirtual 176, 3) := by decide +kernel
theorem dX9_would_45 : decode cX9_would 45 = .ok (.aload_n 0, 1) := by decide +kernel
theorem dX9_would_46 : decode cX9_would 46 = .ok (.getfield 132, 3) := by decide +kernel
theorem dX9_would_49 : decode cX9_would 49 = .ok (.ifCond .eq 7, 3) := by decide +kernel
theorem dX9_would_52 : decode cX9_would 52 = .ok (.iconst (-1), 1) := by decide +kernel
theorem dX9_would_53 : decode cX9_would 53 = .ok (.goto 30, 3) := by decide +kernel
theorem dX9_would_56 : decode cX9_would 56 = .ok (.iload_n 3, 1) := by decide +kernel
theorem dX9_would_57 : decode cX9_would 57 = .ok (.ifCond .ne 10, 3) := by decide +kernel
theorem dX9_would_60 : decode cX9_would 60 = .ok (.aload_n 0, 1) := by decide +kernel
theorem dX9_would_61 : decode cX9_would 61 = .ok (.getfield 151, 3) := by decide +kernel
theorem dX9_would_64 : decode cX9_would 64 = .ok (.goto 19, 3) := by decide +kernel
theorem dX9_would_67 : decode cX9_would 67 = .ok (.iload_n 3, 1) := by decide +kernel
theorem dX9_would_68 : decode cX9_would 68 = .ok (.iconst 1, 1) := by decide +kernel
theorem dX9_would_69 : decode cX9_would 69 = .ok (.if_icmp .ne 10, 3) := by decide +kernel
theorem dX9_would_72 : decode cX9_would 72 = .ok (.aload_n 0, 1) := by decide +kernel
theorem dX9_would_73 : decode cX9_would 73 = .ok (.getfield 157, 3) := by decide +kernel
theorem dX9_would_76 : decode cX9_would 76 = .ok (.goto 7, 3) := by decide +kernel
theorem dX9_would_79 : decode cX9_would 79 = .ok (.aload_n 0, 1) := by decide +kernel
theorem dX9_would_80 : decode cX9_would 80 = .ok (.invokevirtual 207, 3) := by decide +kernel
theorem dX9_would_83 : decode cX9_would 83 = .ok (.ireturn, 1) := by decide +kernel
theorem dX9_hitch_0 : decode cX9_hitch 0 = .ok (.aload_n 0, 1) := by decide +kernel
theorem dX9_hitch_1 : decode cX9_hitch 1 = .ok (.iload_n 1, 1) := by decide +kernel
theorem dX9_hitch_2 : decode cX9_hitch 2 = .ok (.invokevirtual 124, 3) := by decide +kernel
theorem dX9_hitch_5 : decode cX9_hitch 5 = .ok (.ifCond .eq 15, 3) := by decide +kernel
theorem dX9_hitch_8 : decode cX9_hitch 8 = .ok (.iload_n 2, 1) := by decide +kernel
theorem dX9_hitch_9 : decode cX9_hitch 9 = .ok (.i2l, 1) := by decide +kernel
theorem dX9_hitch_10 : decode cX9_hitch 10 = .ok (.lconst 0, 1) := by decide +kernel
theorem dX9_hitch_11 : decode cX9_hitch 11 = .ok (.ldc2_w 197, 3) := by decide +kernel
theorem dX9_hitch_14 : decode cX9_hitch 14 = .ok (.invokestatic 56, 3) := by decide +kernel
theorem dX9_hitch_17 : decode cX9_hitch 17 = .ok (.ifCond .ne 10, 3) := by decide +kernel
theorem dX9_hitch_20 : decode cX9_hitch 20 = .ok (.aload_n 0, 1) := by decide +kernel
theorem dX9_hitch_21 : decode cX9_hitch 21 = .ok (.bipush (-92), 2) := by decide +kernel
theorem dX9_hitch_23 : decode cX9_hitch 23 = .ok (.invokevirtual 60, 3) := by decide +kernel
theorem dX9_hitch_26 : decode cX9_hitch 26 = .ok (.ireturn, 1) := by decide +kernel
theorem dX9_hitch_27 : decode cX9_hitch 27 = .ok (.aload_n 0, 1) := by decide +kernel
theorem dX9_hitch_28 : decode cX9_hitch 28 = .ok (.iload_n 1, 1) := by decide +kernel
theorem dX9_hitch_29 : decode cX9_hitch 29 = .ok (.iload_n 2, 1) := by decide +kernel
theorem dX9_hitch_30 : decode cX9_hitch 30 = .ok (.invokevirtual 176, 3) := by decide +kernel
theorem dX9_hitch_33 : decode cX9_hitch 33 = .ok (.aload_n 0, 1) := by decide +kernel
theorem dX9_hitch_34 : decode cX9_hitch 34 = .ok (.getfield 132, 3) := by decide +kernel
theorem dX9_hitch_37 : decode cX9_hitch 37 = .ok (.ifCond .ne 7, 3) := by decide +kernel
theorem dX9_hitch_40 : decode cX9_hitch 40 = .ok (.iconst (-1), 1) := by decide +kernel
theorem dX9_hitch_41 : decode cX9_hitch 41 = .ok (.goto 7, 3) := by decide +kernel
theorem dX9_hitch_44 : decode cX9_hitch 44 = .ok (.aload_n 0, 1) := by decide +kernel
theorem dX9_hitch_45 : decode cX9_hitch 45 = .ok (.getfield 132, 3) := by decide +kernel
theorem dX9_hitch_48 : decode cX9_hitch 48 = .ok (.ireturn, 1) := by decide +kernel
theorem dX9_fits_0 : decode cX9_fits 0 = .ok (.aload_n 0, 1) := by decide +kernel
theorem dX9_fits_1 : decode cX9_fits 1 = .ok (.iload_n 1, 1) := by decide +kernel
theorem dX9_fits_2 : decode cX9_fits 2 = .ok (.invokevirtual 124, 3) := by decide +kernel
theorem dX9_fits_5 : decode cX9_fits 5 = .ok (.ifCond .ne 15, 3) := by decide +kernel
theorem dX9_fits_8 : decode cX9_fits 8 = .ok (.aload_n 0, 1) := by decide +kernel
theorem dX9_fits_9 : decode cX9_fits 9 = .ok (.bipush (-92), 2) := by decide +kernel
theorem dX9_fits_11 : decode cX9_fits 11 = .ok (.invokevirtual 60, 3) := by decide +kernel
theorem dX9_fits_14 : decode cX9_fits 14 = .ok (.i2l, 1) := by decide +kernel
theorem dX9_fits_15 : decode cX9_fits 15 = .ok (.ldc2_w 210, 3) := by decide +kernel
theorem dX9_fits_18 : decode cX9_fits 18 = .ok (.lsub, 1) := by decide +kernel
theorem dX9_fits_19 : decode cX9_fits 19 = .ok (.lreturn, 1) := by decide +kernel
theorem dX9_fits_20 : decode cX9_fits 20 = .ok (.lconst 0, 1) := by decide +kernel
theorem dX9_fits_21 : decode cX9_fits 21 = .ok (.lstore_n 2, 1) := by decide +kernel
theorem dX9_fits_22 : decode cX9_fits 22 = .ok (.iconst 0, 1) := by decide +kernel
theorem dX9_fits_23 : decode cX9_fits 23 = .ok (.istore 4, 2) := by decide +kernel
theorem dX9_fits_25 : decode cX9_fits 25 = .ok (.iload 4, 2) := by decide +kernel
theorem dX9_fits_27 : decode cX9_fits 27 = .ok (.bipush 60, 2) := by decide +kernel
theorem dX9_fits_29 : decode cX9_fits 29 = .ok (.if_icmp .gt 34, 3) := by decide +kernel
theorem dX9_fits_32 : decode cX9_fits 32 = .ok (.aload_n 0, 1) := by decide +kernel
theorem dX9_fits_33 : decode cX9_fits 33 = .ok (.iload_n 1, 1) := by decide +kernel
theorem dX9_fits_34 : decode cX9_fits 34 = .ok (.iload 4, 2) := by decide +kernel
theorem dX9_fits_36 : decode cX9_fits 36 = .ok (.invokevirtual 176, 3) := by decide +kernel
theorem dX9_fits_39 : decode cX9_fits 39 = .ok (.lload_n 2, 1) := by decide +kernel
theorem dX9_fits_40 : decode cX9_fits 40 = .ok (.aload_n 0, 1) := by decide +kernel
theorem dX9_fits_41 : decode cX9_fits 41 = .ok (.getfield 132, 3) := by decide +kernel
theorem dX9_fits_44 : decode cX9_fits 44 = .ok (.ifCond .ne 10, 3) := by decide +kernel
theorem dX9_fits_47 : decode cX9_fits 47 = .ok (.lconst 1, 1) := by decide +kernel
theorem dX9_fits_48 : decode cX9_fits 48 = .ok (.iload 4, 2) := by decide +kernel
theorem dX9_fits_50 : decode cX9_fits 50 = .ok (.lshl, 1) := by decide +kernel
theorem dX9_fits_51 : decode cX9_fits 51 = .ok (.goto 4, 3) := by decide +kernel
theorem dX9_fits_54 : decode cX9_fits 54 = .ok (.lconst 0, 1) := by decide +kernel
theorem dX9_fits_55 : decode cX9_fits 55 = .ok (.lor, 1) := by decide +kernel
theorem dX9_fits_56 : decode cX9_fits 56 = .ok (.lstore_n 2, 1) := by decide +kernel
theorem dX9_fits_57 : decode cX9_fits 57 = .ok (.iinc 4 1, 3) := by decide +kernel
theorem dX9_fits_60 : decode cX9_fits 60 = .ok (.goto (-35), 3) := by decide +kernel
theorem dX9_fits_63 : decode cX9_fits 63 = .ok (.lload_n 2, 1) := by decide +kernel
theorem dX9_fits_64 : decode cX9_fits 64 = .ok (.lreturn, 1) := by decide +kernel
theorem dX9_least_0 : decode cX9_least 0 = .ok (.iconst 0, 1) := by decide +kernel
theorem dX9_least_1 : decode cX9_least 1 = .ok (.istore_n 1, 1) := by decide +kernel
theorem dX9_least_2 : decode cX9_least 2 = .ok (.iload_n 1, 1) := by decide +kernel
theorem dX9_least_3 : decode cX9_least 3 = .ok (.bipush 60, 2) := by decide +kernel
theorem dX9_least_5 : decode cX9_least 5 = .ok (.if_icmp .gt 63, 3) := by decide +kernel
theorem dX9_least_8 : decode cX9_least 8 = .ok (.iload_n 1, 1) := by decide +kernel
theorem dX9_least_9 : decode cX9_least 9 = .ok (.istore_n 2, 1) := by decide +kernel
theorem dX9_least_10 : decode cX9_least 10 = .ok (.aload_n 0, 1) := by decide +kernel
theorem dX9_least_11 : decode cX9_least 11 = .ok (.iconst 0, 1) := by decide +kernel
theorem dX9_least_12 : decode cX9_least 12 = .ok (.putfield 132, 3) := by decide +kernel
theorem dX9_least_15 : decode cX9_least 15 = .ok (.iconst 0, 1) := by decide +kernel
theorem dX9_least_16 : decode cX9_least 16 = .ok (.istore_n 3, 1) := by decide +kernel
theorem dX9_least_17 : decode cX9_least 17 = .ok (.iload_n 3, 1) := by decide +kernel
theorem dX9_least_18 : decode cX9_least 18 = .ok (.aload_n 0, 1) := by decide +kernel
theorem dX9_least_19 : decode cX9_least 19 = .ok (.getfield 13, 3) := by decide +kernel
theorem dX9_least_22 : decode cX9_least 22 = .ok (.sipush 5020, 3) := by decide +kernel
theorem dX9_least_25 : decode cX9_least 25 = .ok (.iaload, 1) := by decide +kernel
theorem dX9_least_26 : decode cX9_least 26 = .ok (.if_icmp .ge 27, 3) := by decide +kernel
theorem dX9_least_29 : decode cX9_least 29 = .ok (.aload_n 0, 1) := by decide +kernel
theorem dX9_least_30 : decode cX9_least 30 = .ok (.getfield 132, 3) := by decide +kernel
theorem dX9_least_33 : decode cX9_least 33 = .ok (.ifCond .ne 20, 3) := by decide +kernel
theorem dX9_least_36 : decode cX9_least 36 = .ok (.aload_n 0, 1) := by decide +kernel
theorem dX9_least_37 : decode cX9_least 37 = .ok (.iload_n 3, 1) := by decide +kernel
theorem dX9_least_38 : decode cX9_least 38 = .ok (.iload_n 2, 1) := by decide +kernel
theorem dX9_least_39 : decode cX9_least 39 = .ok (.invokevirtual 176, 3) := by decide +kernel
theorem dX9_least_42 : decode cX9_least 42 = .ok (.aload_n 0, 1) := by decide +kernel
theorem dX9_least_43 : decode cX9_least 43 = .ok (.getfield 151, 3) := by decide +kernel
theorem dX9_least_46 : decode cX9_least 46 = .ok (.istore_n 2, 1) := by decide +kernel
theorem dX9_least_47 : decode cX9_least 47 = .ok (.iinc 3 1, 3) := by decide +kernel
theorem dX9_least_50 : decode cX9_least 50 = .ok (.goto (-33), 3) := by decide +kernel
theorem dX9_least_53 : decode cX9_least 53 = .ok (.aload_n 0, 1) := by decide +kernel
theorem dX9_least_54 : decode cX9_least 54 = .ok (.getfield 132, 3) := by decide +kernel
theorem dX9_least_57 : decode cX9_least 57 = .ok (.ifCond .ne 5, 3) := by decide +kernel
theorem dX9_least_60 : decode cX9_least 60 = .ok (.iload_n 1, 1) := by decide +kernel
theorem dX9_least_61 : decode cX9_least 61 = .ok (.ireturn, 1) := by decide +kernel
theorem dX9_least_62 : decode cX9_least 62 = .ok (.iinc 1 1, 3) := by decide +kernel
theorem dX9_least_65 : decode cX9_least 65 = .ok (.goto (-63), 3) := by decide +kernel
theorem dX9_least_68 : decode cX9_least 68 = .ok (.iconst (-1), 1) := by decide +kernel
theorem dX9_least_69 : decode cX9_least 69 = .ok (.ireturn, 1) := by decide +kernel
theorem dX9_times_0 : decode cX9_times 0 = .ok (.aload_n 0, 1) := by decide +kernel
theorem dX9_times_1 : decode cX9_times 1 = .ok (.iload_n 1, 1) := by decide +kernel
theorem dX9_times_2 : decode cX9_times 2 = .ok (.invokevirtual 124, 3) := by decide +kernel
theorem dX9_times_5 : decode cX9_times 5 = .ok (.ifCond .eq 16, 3) := by decide +kernel
theorem dX9_times_8 : decode cX9_times 8 = .ok (.aload_n 0, 1) := by decide +kernel
theorem dX9_times_9 : decode cX9_times 9 = .ok (.iload_n 2, 1) := by decide +kernel
theorem dX9_times_10 : decode cX9_times 10 = .ok (.invokevirtual 124, 3) := by decide +kernel
theorem dX9_times_13 : decode cX9_times 13 = .ok (.ifCond .eq 8, 3) := by decide +kernel
theorem dX9_times_16 : decode cX9_times 16 = .ok (.iload_n 2, 1) := by decide +kernel
theorem dX9_times_17 : decode cX9_times 17 = .ok (.iload_n 1, 1) := by decide +kernel
theorem dX9_times_18 : decode cX9_times 18 = .ok (.if_icmp .ge 10, 3) := by decide +kernel
theorem dX9_times_21 : decode cX9_times 21 = .ok (.aload_n 0, 1) := by decide +kernel
theorem dX9_times_22 : decode cX9_times 22 = .ok (.bipush (-92), 2) := by decide +kernel
theorem dX9_times_24 : decode cX9_times 24 = .ok (.invokevirtual 60, 3) := by decide +kernel
theorem dX9_times_27 : decode cX9_times 27 = .ok (.ireturn, 1) := by decide +kernel
theorem dX9_times_28 : decode cX9_times 28 = .ok (.aload_n 0, 1) := by decide +kernel
theorem dX9_times_29 : decode cX9_times 29 = .ok (.getfield 13, 3) := by decide +kernel
theorem dX9_times_32 : decode cX9_times 32 = .ok (.sipush 5023, 3) := by decide +kernel
theorem dX9_times_35 : decode cX9_times 35 = .ok (.iaload, 1) := by decide +kernel
theorem dX9_times_36 : decode cX9_times 36 = .ok (.istore_n 3, 1) := by decide +kernel
theorem dX9_times_37 : decode cX9_times 37 = .ok (.aload_n 0, 1) := by decide +kernel
theorem dX9_times_38 : decode cX9_times 38 = .ok (.getfield 13, 3) := by decide +kernel
theorem dX9_times_41 : decode cX9_times 41 = .ok (.sipush 5025, 3) := by decide +kernel
theorem dX9_times_44 : decode cX9_times 44 = .ok (.iaload, 1) := by decide +kernel
theorem dX9_times_45 : decode cX9_times 45 = .ok (.istore 4, 2) := by decide +kernel
theorem dX9_times_47 : decode cX9_times 47 = .ok (.iconst 0, 1) := by decide +kernel
theorem dX9_times_48 : decode cX9_times 48 = .ok (.istore 5, 2) := by decide +kernel
theorem dX9_times_50 : decode cX9_times 50 = .ok (.aload_n 0, 1) := by decide +kernel
theorem dX9_times_51 : decode cX9_times 51 = .ok (.iconst 0, 1) := by decide +kernel
theorem dX9_times_52 : decode cX9_times 52 = .ok (.putfield 132, 3) := by decide +kernel
theorem dX9_times_55 : decode cX9_times 55 = .ok (.aload_n 0, 1) := by decide +kernel
theorem dX9_times_56 : decode cX9_times 56 = .ok (.getfield 132, 3) := by decide +kernel
theorem dX9_times_59 : decode cX9_times 59 = .ok (.ifCond .ne 83, 3) := by decide +kernel
theorem dX9_times_62 : decode cX9_times 62 = .ok (.iload 5, 2) := by decide +kernel
theorem dX9_times_64 : decode cX9_times 64 = .ok (.bipush 50, 2) := by decide +kernel
theorem dX9_times_66 : decode cX9_times 66 = .ok (.if_icmp .ge 76, 3) := by decide +kernel
theorem dX9_times_69 : decode cX9_times 69 = .ok (.iload_n 1, 1) := by decide +kernel
theorem dX9_times_70 : decode cX9_times 70 = .ok (.istore 6, 2) := by decide +kernel
theorem dX9_times_72 : decode cX9_times 72 = .ok (.iload 6, 2) := by decide +kernel
theorem dX9_times_74 : decode cX9_times 74 = .ok (.iload_n 2, 1) := by decide +kernel
theorem dX9_times_75 : decode cX9_times 75 = .ok (.if_icmp .gt 47, 3) := by decide +kernel
theorem dX9_times_78 : decode cX9_times 78 = .ok (.aload_n 0, 1) := by decide +kernel
theorem dX9_times_79 : decode cX9_times 79 = .ok (.getfield 132, 3) := by decide +kernel
theorem dX9_times_82 : decode cX9_times 82 = .ok (.ifCond .ne 40, 3) := by decide +kernel
theorem dX9_times_85 : decode cX9_times 85 = .ok (.iload 4, 2) := by decide +kernel
theorem dX9_times_87 : decode cX9_times 87 = .ok (.bipush 50, 2) := by decide +kernel
theorem dX9_times_89 : decode cX9_times 89 = .ok (.if_icmp .ne 12, 3) := by decide +kernel
theorem dX9_times_92 : decode cX9_times 92 = .ok (.aload_n 0, 1) := by decide +kernel
theorem dX9_times_93 : decode cX9_times 93 = .ok (.bipush 7, 2) := by decide +kernel
theorem dX9_times_95 : decode cX9_times 95 = .ok (.putfield 132, 3) := by decide +kernel
theorem dX9_times_98 : decode cX9_times 98 = .ok (.goto 18, 3) := by decide +kernel
theorem dX9_times_101 : decode cX9_times 101 = .ok (.aload_n 0, 1) := by decide +kernel
theorem dX9_times_102 : decode cX9_times 102 = .ok (.iload 6, 2) := by decide +kernel
theorem dX9_times_104 : decode cX9_times 104 = .ok (.iload_n 3, 1) := by decide +kernel
theorem dX9_times_105 : decode cX9_times 105 = .ok (.invokevirtual 176, 3) := by decide +kernel
theorem dX9_times_108 : decode cX9_times 108 = .ok (.aload_n 0, 1) := by decide +kernel
theorem dX9_times_109 : decode cX9_times 109 = .ok (.getfield 151, 3) := by decide +kernel
theorem dX9_times_112 : decode cX9_times 112 = .ok (.istore_n 3, 1) := by decide +kernel
theorem dX9_times_113 : decode cX9_times 113 = .ok (.iinc 4 1, 3) := by decide +kernel
theorem dX9_times_116 : decode cX9_times 116 = .ok (.iinc 6 1, 3) := by decide +kernel
theorem dX9_times_119 : decode cX9_times 119 = .ok (.goto (-47), 3) := by decide +kernel
theorem dX9_times_122 : decode cX9_times 122 = .ok (.iload 5, 2) := by decide +kernel
theorem dX9_times_124 : decode cX9_times 124 = .ok (.aload_n 0, 1) := by decide +kernel
theorem dX9_times_125 : decode cX9_times 125 = .ok (.getfield 132, 3) := by decide +kernel
theorem dX9_times_128 : decode cX9_times 128 = .ok (.ifCond .ne 7, 3) := by decide +kernel
theorem dX9_times_131 : decode cX9_times 131 = .ok (.iconst 1, 1) := by decide +kernel
theorem dX9_times_132 : decode cX9_times 132 = .ok (.goto 4, 3) := by decide +kernel
theorem dX9_times_135 : decode cX9_times 135 = .ok (.iconst 0, 1) := by decide +kernel
theorem dX9_times_136 : decode cX9_times 136 = .ok (.iadd, 1) := by decide +kernel
theorem dX9_times_137 : decode cX9_times 137 = .ok (.istore 5, 2) := by decide +kernel
theorem dX9_times_139 : decode cX9_times 139 = .ok (.goto (-84), 3) := by decide +kernel
theorem dX9_times_142 : decode cX9_times 142 = .ok (.iload 5, 2) := by decide +kernel
theorem dX9_times_144 : decode cX9_times 144 = .ok (.ireturn, 1) := by decide +kernel
theorem dX9_isWorked_0 : decode cX9_isWorked 0 = .ok (.iload_n 1, 1) := by decide +kernel
theorem dX9_isWorked_1 : decode cX9_isWorked 1 = .ok (.i2l, 1) := by decide +kernel
theorem dX9_isWorked_2 : decode cX9_isWorked 2 = .ok (.lconst 0, 1) := by decide +kernel
theorem dX9_isWorked_3 : decode cX9_isWorked 3 = .ok (.aload_n 0, 1) := by decide +kernel
theorem dX9_isWorked_4 : decode cX9_isWorked 4 = .ok (.getfield 13, 3) := by decide +kernel
theorem dX9_isWorked_7 : decode cX9_isWorked 7 = .ok (.sipush 5025, 3) := by decide +kernel
theorem dX9_isWorked_10 : decode cX9_isWorked 10 = .ok (.iaload, 1) := by decide +kernel
theorem dX9_isWorked_11 : decode cX9_isWorked 11 = .ok (.iconst 1, 1) := by decide +kernel
theorem dX9_isWorked_12 : decode cX9_isWorked 12 = .ok (.isub, 1) := by decide +kernel
theorem dX9_isWorked_13 : decode cX9_isWorked 13 = .ok (.i2l, 1) := by decide +kernel
theorem dX9_isWorked_14 : decode cX9_isWorked 14 = .ok (.invokestatic 56, 3) := by decide +kernel
theorem dX9_isWorked_17 : decode cX9_isWorked 17 = .ok (.ireturn, 1) := by decide +kernel
theorem dX9_sizeOf_0 : decode cX9_sizeOf 0 = .ok (.aload_n 0, 1) := by decide +kernel
theorem dX9_sizeOf_1 : decode cX9_sizeOf 1 = .ok (.getfield 13, 3) := by decide +kernel
theorem dX9_sizeOf_4 : decode cX9_sizeOf 4 = .ok (.sipush 5026, 3) := by decide +kernel
theorem dX9_sizeOf_7 : decode cX9_sizeOf 7 = .ok (.sipush 204, 3) := by decide +kernel
theorem dX9_sizeOf_10 : decode cX9_sizeOf 10 = .ok (.iload_n 1, 1) := by decide +kernel
theorem dX9_sizeOf_11 : decode cX9_sizeOf 11 = .ok (.imul, 1) := by decide +kernel
theorem dX9_sizeOf_12 : decode cX9_sizeOf 12 = .ok (.iadd, 1) := by decide +kernel
theorem dX9_sizeOf_13 : decode cX9_sizeOf 13 = .ok (.iconst 2, 1) := by decide +kernel
theorem dX9_sizeOf_14 : decode cX9_sizeOf 14 = .ok (.iadd, 1) := by decide +kernel
theorem dX9_sizeOf_15 : decode cX9_sizeOf 15 = .ok (.iaload, 1) := by decide +kernel
theorem dX9_sizeOf_16 : decode cX9_sizeOf 16 = .ok (.ireturn, 1) := by decide +kernel
theorem dX9_kind_0 : decode cX9_kind 0 = .ok (.aload_n 0, 1) := by decide +kernel
theorem dX9_kind_1 : decode cX9_kind 1 = .ok (.getfield 13, 3) := by decide +kernel
theorem dX9_kind_4 : decode cX9_kind 4 = .ok (.sipush 5026, 3) := by decide +kernel
theorem dX9_kind_7 : decode cX9_kind 7 = .ok (.sipush 204, 3) := by decide +kernel
theorem dX9_kind_10 : decode cX9_kind 10 = .ok (.iload_n 1, 1) := by decide +kernel
theorem dX9_kind_11 : decode cX9_kind 11 = .ok (.imul, 1) := by decide +kernel
theorem dX9_kind_12 : decode cX9_kind 12 = .ok (.iadd, 1) := by decide +kernel
theorem dX9_kind_13 : decode cX9_kind 13 = .ok (.iconst 4, 1) := by decide +kernel
theorem dX9_kind_14 : decode cX9_kind 14 = .ok (.iadd, 1) := by decide +kernel
theorem dX9_kind_15 : decode cX9_kind 15 = .ok (.iload_n 2, 1) := by decide +kernel
theorem dX9_kind_16 : decode cX9_kind 16 = .ok (.iadd, 1) := by decide +kernel
theorem dX9_kind_17 : decode cX9_kind 17 = .ok (.iaload, 1) := by decide +kernel
theorem dX9_kind_18 : decode cX9_kind 18 = .ok (.ireturn, 1) := by decide +kernel
theorem dX9_counted_0 : decode cX9_counted 0 = .ok (.iconst 0, 1) := by decide +kernel
theorem dX9_counted_1 : decode cX9_counted 1 = .ok (.istore 4, 2) := by decide +kernel
theorem dX9_counted_3 : decode cX9_counted 3 = .ok (.iconst 0, 1) := by decide +kernel
theorem dX9_counted_4 : decode cX9_counted 4 = .ok (.istore 5, 2) := by decide +kernel
theorem dX9_counted_6 : decode cX9_counted 6 = .ok (.iload 5, 2) := by decide +kernel
theorem dX9_counted_8 : decode cX9_counted 8 = .ok (.iload_n 2, 1) := by decide +kernel
theorem dX9_counted_9 : decode cX9_counted 9 = .ok (.if_icmp .ge 53, 3) := by decide +kernel
theorem dX9_counted_12 : decode cX9_counted 12 = .ok (.aload_n 0, 1) := by decide +kernel
theorem dX9_counted_13 : decode cX9_counted 13 = .ok (.iload_n 1, 1) := by decide +kernel
theorem dX9_counted_14 : decode cX9_counted 14 = .ok (.iload 5, 2) := by decide +kernel
theorem dX9_counted_16 : decode cX9_counted 16 = .ok (.invokevirtual 212, 3) := by decide +kernel
theorem dX9_counted_19 : decode cX9_counted 19 = .ok (.istore 6, 2) := by decide +kernel
theorem dX9_counted_21 : decode cX9_counted 21 = .ok (.iload 4, 2) := by decide +kernel
theorem dX9_counted_23 : decode cX9_counted 23 = .ok (.iload_n 3, 1) := by decide +kernel
theorem dX9_counted_24 : decode cX9_counted 24 = .ok (.ifCond .ne 11, 3) := by decide +kernel
theorem dX9_counted_27 : decode cX9_counted 27 = .ok (.iload 6, 2) := by decide +kernel
theorem dX9_counted_29 : decode cX9_counted 29 = .ok (.invokestatic 141, 3) := by decide +kernel
theorem dX9_counted_32 : decode cX9_counted 32 = .ok (.goto 21, 3) := by decide +kernel
theorem dX9_counted_35 : decode cX9_counted 35 = .ok (.iload_n 3, 1) := by decide +kernel
theorem dX9_counted_36 : decode cX9_counted 36 = .ok (.iconst 1, 1) := by decide +kernel
theorem dX9_counted_37 : decode cX9_counted 37 = .ok (.if_icmp .ne 11, 3) := by decide +kernel
theorem dX9_counted_40 : decode cX9_counted 40 = .ok (.iload 6, 2) := by decide +kernel
theorem dX9_counted_42 : decode cX9_counted 42 = .ok (.invokestatic 154, 3) := by decide +kernel
theorem dX9_counted_45 : decode cX9_counted 45 = .ok (.goto 8, 3) := by decide +kernel
theorem dX9_counted_48 : decode cX9_counted 48 = .ok (.iload 6, 2) := by decide +kernel
theorem dX9_counted_50 : decode cX9_counted 50 = .ok (.invokestatic 204, 3) := by decide +kernel
theorem dX9_counted_53 : decode cX9_counted 53 = .ok (.iadd, 1) := by decide +kernel
theorem dX9_counted_54 : decode cX9_counted 54 = .ok (.istore 4, 2) := by decide +kernel
theorem dX9_counted_56 : decode cX9_counted 56 = .ok (.iinc 5 1, 3) := by decide +kernel
theorem dX9_counted_59 : decode cX9_counted 59 = .ok (.goto (-53), 3) := by decide +kernel
theorem dX9_counted_62 : decode cX9_counted 62 = .ok (.iload 4, 2) := by decide +kernel
theorem dX9_counted_64 : decode cX9_counted 64 = .ok (.ireturn, 1) := by decide +kernel
theorem dX9_workedOf_0 : decode cX9_workedOf 0 = .ok (.aload_n 0, 1) := by decide +kernel
theorem dX9_workedOf_1 : decode cX9_workedOf 1 = .ok (.iload_n 1, 1) := by decide +kernel
theorem dX9_workedOf_2 : decode cX9_workedOf 2 = .ok (.invokevirtual 215, 3) := by decide +kernel
theorem dX9_workedOf_5 : decode cX9_workedOf 5 = .ok (.ifCond .eq 15, 3) := by decide +kernel
theorem dX9_workedOf_8 : decode cX9_workedOf 8 = .ok (.iload_n 2, 1) := by decide +kernel
theorem dX9_workedOf_9 : decode cX9_workedOf 9 = .ok (.i2l, 1) := by decide +kernel
theorem dX9_workedOf_10 : decode cX9_workedOf 10 = .ok (.lconst 0, 1) := by decide +kernel
theorem dX9_workedOf_11 : decode cX9_workedOf 11 = .ok (.ldc2_w 218, 3) := by decide +kernel
theorem dX9_workedOf_14 : decode cX9_workedOf 14 = .ok (.invokestatic 56, 3) := by decide +kernel
theorem dX9_workedOf_17 : decode cX9_workedOf 17 = .ok (.ifCond .ne 10, 3) := by decide +kernel
theorem dX9_workedOf_20 : decode cX9_workedOf 20 = .ok (.aload_n 0, 1) := by decide +kernel
theorem dX9_workedOf_21 : decode cX9_workedOf 21 = .ok (.bipush (-92), 2) := by decide +kernel
theorem dX9_workedOf_23 : decode cX9_workedOf 23 = .ok (.invokevirtual 60, 3) := by decide +kernel
theorem dX9_workedOf_26 : decode cX9_workedOf 26 = .ok (.ireturn, 1) := by decide +kernel
theorem dX9_workedOf_27 : decode cX9_workedOf 27 = .ok (.aload_n 0, 1) := by decide +kernel
theorem dX9_workedOf_28 : decode cX9_workedOf 28 = .ok (.iload_n 1, 1) := by decide +kernel
theorem dX9_workedOf_29 : decode cX9_workedOf 29 = .ok (.invokevirtual 220, 3) := by decide +kernel
theorem dX9_workedOf_32 : decode cX9_workedOf 32 = .ok (.istore_n 3, 1) := by decide +kernel
theorem dX9_workedOf_33 : decode cX9_workedOf 33 = .ok (.sipush 5026, 3) := by decide +kernel
theorem dX9_workedOf_36 : decode cX9_workedOf 36 = .ok (.sipush 204, 3) := by decide +kernel
theorem dX9_workedOf_39 : decode cX9_workedOf 39 = .ok (.iload_n 1, 1) := by decide +kernel
theorem dX9_workedOf_40 : decode cX9_workedOf 40 = .ok (.imul, 1) := by decide +kernel
theorem dX9_workedOf_41 : decode cX9_workedOf 41 = .ok (.iadd, 1) := by decide +kernel
theorem dX9_workedOf_42 : decode cX9_workedOf 42 = .ok (.istore 4, 2) := by decide +kernel
theorem dX9_workedOf_44 : decode cX9_workedOf 44 = .ok (.iload_n 2, 1) := by decide +kernel
theorem dX9_workedOf_45 : decode cX9_workedOf 45 = .ok (.ifCond .ne 13, 3) := by decide +kernel
theorem dX9_workedOf_48 : decode cX9_workedOf 48 = .ok (.aload_n 0, 1) := by decide +kernel
theorem dX9_workedOf_49 : decode cX9_workedOf 49 = .ok (.getfield 13, 3) := by decide +kernel
theorem dX9_workedOf_52 : decode cX9_workedOf 52 = .ok (.iload 4, 2) := by decide +kernel
theorem dX9_workedOf_54 : decode cX9_workedOf 54 = .ok (.iaload, 1) := by decide +kernel
theorem dX9_workedOf_55 : decode cX9_workedOf 55 = .ok (.goto 38, 3) := by decide +kernel
theorem dX9_workedOf_58 : decode cX9_workedOf 58 = .ok (.iload_n 2, 1) := by decide +kernel
theorem dX9_workedOf_59 : decode cX9_workedOf 59 = .ok (.iconst 1, 1) := by decide +kernel
theorem dX9_workedOf_60 : decode cX9_workedOf 60 = .ok (.if_icmp .ne 7, 3) := by decide +kernel
theorem dX9_workedOf_63 : decode cX9_workedOf 63 = .ok (.iload_n 3, 1) := by decide +kernel
theorem dX9_workedOf_64 : decode cX9_workedOf 64 = .ok (.goto 29, 3) := by decide +kernel
theorem dX9_workedOf_67 : decode cX9_workedOf 67 = .ok (.iload_n 2, 1) := by decide +kernel
theorem dX9_workedOf_68 : decode cX9_workedOf 68 = .ok (.iconst 5, 1) := by decide +kernel
theorem dX9_workedOf_69 : decode cX9_workedOf 69 = .ok (.if_icmp .ne 15, 3) := by decide +kernel
theorem dX9_workedOf_72 : decode cX9_workedOf 72 = .ok (.aload_n 0, 1) := by decide +kernel
theorem dX9_workedOf_73 : decode cX9_workedOf 73 = .ok (.getfield 13, 3) := by decide +kernel
theorem dX9_workedOf_76 : decode cX9_workedOf 76 = .ok (.iload 4, 2) := by decide +kernel
theorem dX9_workedOf_78 : decode cX9_workedOf 78 = .ok (.iconst 1, 1) := by decide +kernel
theorem dX9_workedOf_79 : decode cX9_workedOf 79 = .ok (.iadd, 1) := by decide +kernel
theorem dX9_workedOf_80 : decode cX9_workedOf 80 = .ok (.iaload, 1) := by decide +kernel
theorem dX9_workedOf_81 : decode cX9_workedOf 81 = .ok (.goto 12, 3) := by decide +kernel
theorem dX9_workedOf_84 : decode cX9_workedOf 84 = .ok (.aload_n 0, 1) := by decide +kernel
theorem dX9_workedOf_85 : decode cX9_workedOf 85 = .ok (.iload_n 1, 1) := by decide +kernel
theorem dX9_workedOf_86 : decode cX9_workedOf 86 = .ok (.iload_n 3, 1) := by decide +kernel
theorem dX9_workedOf_87 : decode cX9_workedOf 87 = .ok (.iload_n 2, 1) := by decide +kernel
theorem dX9_workedOf_88 : decode cX9_workedOf 88 = .ok (.iconst 2, 1) := by decide +kernel
theorem dX9_workedOf_89 : decode cX9_workedOf 89 = .ok (.isub, 1) := by decide +kernel
theorem dX9_workedOf_90 : decode cX9_workedOf 90 = .ok (.invokevirtual 223, 3) := by decide +kernel
theorem dX9_workedOf_93 : decode cX9_workedOf 93 = .ok (.ireturn, 1) := by decide +kernel
theorem dX9_stitch_0 : decode cX9_stitch 0 = .ok (.aload_n 0, 1) := by decide +kernel
theorem dX9_stitch_1 : decode cX9_stitch 1 = .ok (.iload_n 1, 1) := by decide +kernel
theorem dX9_stitch_2 : decode cX9_stitch 2 = .ok (.invokevirtual 215, 3) := by decide +kernel
theorem dX9_stitch_5 : decode cX9_stitch 5 = .ok (.ifCond .eq 32, 3) := by decide +kernel
theorem dX9_stitch_8 : decode cX9_stitch 8 = .ok (.iload_n 2, 1) := by decide +kernel
theorem dX9_stitch_9 : decode cX9_stitch 9 = .ok (.i2l, 1) := by decide +kernel
theorem dX9_stitch_10 : decode cX9_stitch 10 = .ok (.lconst 0, 1) := by decide +kernel
theorem dX9_stitch_11 : decode cX9_stitch 11 = .ok (.aload_n 0, 1) := by decide +kernel
theorem dX9_stitch_12 : decode cX9_stitch 12 = .ok (.iload_n 1, 1) := by decide +kernel
theorem dX9_stitch_13 : decode cX9_stitch 13 = .ok (.invokevirtual 220, 3) := by decide +kernel
theorem dX9_stitch_16 : decode cX9_stitch 16 = .ok (.iconst 1, 1) := by decide +kernel
theorem dX9_stitch_17 : decode cX9_stitch 17 = .ok (.isub, 1) := by decide +kernel
theorem dX9_stitch_18 : decode cX9_stitch 18 = .ok (.i2l, 1) := by decide +kernel
theorem dX9_stitch_19 : decode cX9_stitch 19 = .ok (.invokestatic 56, 3) := by decide +kernel
theorem dX9_stitch_22 : decode cX9_stitch 22 = .ok (.ifCond .eq 15, 3) := by decide +kernel
theorem dX9_stitch_25 : decode cX9_stitch 25 = .ok (.iload_n 3, 1) := by decide +kernel
theorem dX9_stitch_26 : decode cX9_stitch 26 = .ok (.i2l, 1) := by decide +kernel
theorem dX9_stitch_27 : decode cX9_stitch 27 = .ok (.lconst 0, 1) := by decide +kernel
theorem dX9_stitch_28 : decode cX9_stitch 28 = .ok (.ldc2_w 202, 3) := by decide +kernel
theorem dX9_stitch_31 : decode cX9_stitch 31 = .ok (.invokestatic 56, 3) := by decide +kernel
theorem dX9_stitch_34 : decode cX9_stitch 34 = .ok (.ifCond .ne 10, 3) := by decide +kernel
theorem dX9_stitch_37 : decode cX9_stitch 37 = .ok (.aload_n 0, 1) := by decide +kernel
theorem dX9_stitch_38 : decode cX9_stitch 38 = .ok (.bipush (-92), 2) := by decide +kernel
theorem dX9_stitch_40 : decode cX9_stitch 40 = .ok (.invokevirtual 60, 3) := by decide +kernel
theorem dX9_stitch_43 : decode cX9_stitch 43 = .ok (.ireturn, 1) := by decide +kernel
theorem dX9_stitch_44 : decode cX9_stitch 44 = .ok (.iload_n 3, 1) := by decide +kernel
theorem dX9_stitch_45 : decode cX9_stitch 45 = .ok (.ifCond .ne 12, 3) := by decide +kernel
theorem dX9_stitch_48 : decode cX9_stitch 48 = .ok (.aload_n 0, 1) := by decide +kernel
theorem dX9_stitch_49 : decode cX9_stitch 49 = .ok (.iload_n 1, 1) := by decide +kernel
theorem dX9_stitch_50 : decode cX9_stitch 50 = .ok (.iload_n 2, 1) := by decide +kernel
theorem dX9_stitch_51 : decode cX9_stitch 51 = .ok (.invokevirtual 212, 3) := by decide +kernel
theorem dX9_stitch_54 : decode cX9_stitch 54 = .ok (.goto 12, 3) := by decide +kernel
theorem dX9_stitch_57 : decode cX9_stitch 57 = .ok (.aload_n 0, 1) := by decide +kernel
theorem dX9_stitch_58 : decode cX9_stitch 58 = .ok (.iload_n 1, 1) := by decide +kernel
theorem dX9_stitch_59 : decode cX9_stitch 59 = .ok (.iload_n 2, 1) := by decide +kernel
theorem dX9_stitch_60 : decode cX9_stitch 60 = .ok (.iload_n 3, 1) := by decide +kernel
theorem dX9_stitch_61 : decode cX9_stitch 61 = .ok (.iconst 1, 1) := by decide +kernel
theorem dX9_stitch_62 : decode cX9_stitch 62 = .ok (.isub, 1) := by decide +kernel
theorem dX9_stitch_63 : decode cX9_stitch 63 = .ok (.invokevirtual 223, 3) := by decide +kernel
theorem dX9_stitch_66 : decode cX9_stitch 66 = .ok (.ireturn, 1) := by decide +kernel
theorem dX9_charted_0 : decode cX9_charted 0 = .ok (.aload_n 0, 1) := by decide +kernel
theorem dX9_charted_1 : decode cX9_charted 1 = .ok (.iload_n 1, 1) := by decide +kernel
theorem dX9_charted_2 : decode cX9_charted 2 = .ok (.invokevirtual 220, 3) := by decide +kernel
theorem dX9_charted_5 : decode cX9_charted 5 = .ok (.istore_n 3, 1) := by decide +kernel
theorem dX9_charted_6 : decode cX9_charted 6 = .ok (.iload_n 2, 1) := by decide +kernel
theorem dX9_charted_7 : decode cX9_charted 7 = .ok (.i2l, 1) := by decide +kernel
theorem dX9_charted_8 : decode cX9_charted 8 = .ok (.lconst 0, 1) := by decide +kernel
theorem dX9_charted_9 : decode cX9_charted 9 = .ok (.iload_n 3, 1) := by decide +kernel
theorem dX9_charted_10 : decode cX9_charted 10 = .ok (.iconst 1, 1) := by decide +kernel
theorem dX9_charted_11 : decode cX9_charted 11 = .ok (.isub, 1) := by decide +kernel
theorem dX9_charted_12 : decode cX9_charted 12 = .ok (.i2l, 1) := by decide +kernel
theorem dX9_charted_13 : decode cX9_charted 13 = .ok (.invokestatic 56, 3) := by decide +kernel
theorem dX9_charted_16 : decode cX9_charted 16 = .ok (.ifCond .ne 5, 3) := by decide +kernel
theorem dX9_charted_19 : decode cX9_charted 19 = .ok (.iconst (-1), 1) := by decide +kernel
theorem dX9_charted_20 : decode cX9_charted 20 = .ok (.ireturn, 1) := by decide +kernel
theorem dX9_charted_21 : decode cX9_charted 21 = .ok (.aload_n 0, 1) := by decide +kernel
theorem dX9_charted_22 : decode cX9_charted 22 = .ok (.getfield 13, 3) := by decide +kernel
theorem dX9_charted_25 : decode cX9_charted 25 = .ok (.sipush 5026, 3) := by decide +kernel
theorem dX9_charted_28 : decode cX9_charted 28 = .ok (.sipush 204, 3) := by decide +kernel
theorem dX9_charted_31 : decode cX9_charted 31 = .ok (.iload_n 1, 1) := by decide +kernel
theorem dX9_charted_32 : decode cX9_charted 32 = .ok (.imul, 1) := by decide +kernel
theorem dX9_charted_33 : decode cX9_charted 33 = .ok (.iadd, 1) := by decide +kernel
theorem dX9_charted_34 : decode cX9_charted 34 = .ok (.iaload, 1) := by decide +kernel
theorem dX9_charted_35 : decode cX9_charted 35 = .ok (.ifCond .ne 12, 3) := by decide +kernel
theorem dX9_charted_38 : decode cX9_charted 38 = .ok (.aload_n 0, 1) := by decide +kernel
theorem dX9_charted_39 : decode cX9_charted 39 = .ok (.iload_n 1, 1) := by decide +kernel
theorem dX9_charted_40 : decode cX9_charted 40 = .ok (.iload_n 2, 1) := by decide +kernel
theorem dX9_charted_41 : decode cX9_charted 41 = .ok (.invokevirtual 212, 3) := by decide +kernel
theorem dX9_charted_44 : decode cX9_charted 44 = .ok (.goto 16, 3) := by decide +kernel
theorem dX9_charted_47 : decode cX9_charted 47 = .ok (.aload_n 0, 1) := by decide +kernel
theorem dX9_charted_48 : decode cX9_charted 48 = .ok (.iload_n 1, 1) := by decide +kernel
theorem dX9_charted_49 : decode cX9_charted 49 = .ok (.iload_n 3, 1) := by decide +kernel
theorem dX9_charted_50 : decode cX9_charted 50 = .ok (.iconst 1, 1) := by decide +kernel
theorem dX9_charted_51 : decode cX9_charted 51 = .ok (.isub, 1) := by decide +kernel
theorem dX9_charted_52 : decode cX9_charted 52 = .ok (.iload_n 2, 1) := by decide +kernel
theorem dX9_charted_53 : decode cX9_charted 53 = .ok (.isub, 1) := by decide +kernel
theorem dX9_charted_54 : decode cX9_charted 54 = .ok (.invokevirtual 212, 3) := by decide +kernel
theorem dX9_charted_57 : decode cX9_charted 57 = .ok (.invokestatic 227, 3) := by decide +kernel
theorem dX9_charted_60 : decode cX9_charted 60 = .ok (.ireturn, 1) := by decide +kernel
theorem dX9_chart_0 : decode cX9_chart 0 = .ok (.aload_n 0, 1) := by decide +kernel
theorem dX9_chart_1 : decode cX9_chart 1 = .ok (.iload_n 1, 1) := by decide +kernel
theorem dX9_chart_2 : decode cX9_chart 2 = .ok (.invokevirtual 215, 3) := by decide +kernel
theorem dX9_chart_5 : decode cX9_chart 5 = .ok (.ifCond .eq 12, 3) := by decide +kernel
theorem dX9_chart_8 : decode cX9_chart 8 = .ok (.aload_n 0, 1) := by decide +kernel
theorem dX9_chart_9 : decode cX9_chart 9 = .ok (.iload_n 1, 1) := by decide +kernel
theorem dX9_chart_10 : decode cX9_chart 10 = .ok (.iload_n 2, 1) := by decide +kernel
theorem dX9_chart_11 : decode cX9_chart 11 = .ok (.invokevirtual 230, 3) := by decide +kernel
theorem dX9_chart_14 : decode cX9_chart 14 = .ok (.goto 9, 3) := by decide +kernel
theorem dX9_chart_17 : decode cX9_chart 17 = .ok (.aload_n 0, 1) := by decide +kernel
theorem dX9_chart_18 : decode cX9_chart 18 = .ok (.bipush (-92), 2) := by decide +kernel
theorem dX9_chart_20 : decode cX9_chart 20 = .ok (.invokevirtual 60, 3) := by decide +kernel
theorem dX9_chart_23 : decode cX9_chart 23 = .ok (.ireturn, 1) := by decide +kernel
theorem dX9_shorthand_0 : decode cX9_shorthand 0 = .ok (.aload_n 0, 1) := by decide +kernel
theorem dX9_shorthand_1 : decode cX9_shorthand 1 = .ok (.iload_n 1, 1) := by decide +kernel
theorem dX9_shorthand_2 : decode cX9_shorthand 2 = .ok (.invokevirtual 215, 3) := by decide +kernel
theorem dX9_shorthand_5 : decode cX9_shorthand 5 = .ok (.ifCond .ne 10, 3) := by decide +kernel
theorem dX9_shorthand_8 : decode cX9_shorthand 8 = .ok (.aload_n 0, 1) := by decide +kernel
theorem dX9_shorthand_9 : decode cX9_shorthand 9 = .ok (.bipush (-92), 2) := by decide +kernel
theorem dX9_shorthand_11 : decode cX9_shorthand 11 = .ok (.invokevirtual 60, 3) := by decide +kernel
theorem dX9_shorthand_14 : decode cX9_shorthand 14 = .ok (.ireturn, 1) := by decide +kernel
theorem dX9_shorthand_15 : decode cX9_shorthand 15 = .ok (.aload_n 0, 1) := by decide +kernel
theorem dX9_shorthand_16 : decode cX9_shorthand 16 = .ok (.iload_n 1, 1) := by decide +kernel
theorem dX9_shorthand_17 : decode cX9_shorthand 17 = .ok (.invokevirtual 220, 3) := by decide +kernel
theorem dX9_shorthand_20 : decode cX9_shorthand 20 = .ok (.istore_n 3, 1) := by decide +kernel
theorem dX9_shorthand_21 : decode cX9_shorthand 21 = .ok (.iconst 0, 1) := by decide +kernel
theorem dX9_shorthand_22 : decode cX9_shorthand 22 = .ok (.istore 4, 2) := by decide +kernel
theorem dX9_shorthand_24 : decode cX9_shorthand 24 = .ok (.iconst 0, 1) := by decide +kernel
theorem dX9_shorthand_25 : decode cX9_shorthand 25 = .ok (.istore 5, 2) := by decide +kernel
theorem dX9_shorthand_27 : decode cX9_shorthand 27 = .ok (.iload 5, 2) := by decide +kernel
theorem dX9_shorthand_29 : decode cX9_shorthand 29 = .ok (.iload_n 3, 1) := by decide +kernel
theorem dX9_shorthand_30 : decode cX9_shorthand 30 = .ok (.if_icmp .ge 251, 3) := by decide +kernel
theorem dX9_shorthand_33 : decode cX9_shorthand 33 = .ok (.aload_n 0, 1) := by decide +kernel
theorem dX9_shorthand_34 : decode cX9_shorthand 34 = .ok (.iload_n 1, 1) := by decide +kernel
theorem dX9_shorthand_35 : decode cX9_shorthand 35 = .ok (.iload 5, 2) := by decide +kernel
theorem dX9_shorthand_37 : decode cX9_shorthand 37 = .ok (.invokevirtual 212, 3) := by decide +kernel
theorem dX9_shorthand_40 : decode cX9_shorthand 40 = .ok (.istore 6, 2) := by decide +kernel
theorem dX9_shorthand_42 : decode cX9_shorthand 42 = .ok (.iconst 0, 1) := by decide +kernel
theorem dX9_shorthand_43 : decode cX9_shorthand 43 = .ok (.istore 7, 2) := by decide +kernel
theorem dX9_shorthand_45 : decode cX9_shorthand 45 = .ok (.iload 5, 2) := by decide +kernel
theorem dX9_shorthand_47 : decode cX9_shorthand 47 = .ok (.iload 7, 2) := by decide +kernel
theorem dX9_shorthand_49 : decode cX9_shorthand 49 = .ok (.iadd, 1) := by decide +kernel
theorem dX9_shorthand_50 : decode cX9_shorthand 50 = .ok (.iload_n 3, 1) := by decide +kernel
theorem dX9_shorthand_51 : decode cX9_shorthand 51 = .ok (.if_icmp .ge 24, 3) := by decide +kernel
theorem dX9_shorthand_54 : decode cX9_shorthand 54 = .ok (.aload_n 0, 1) := by decide +kernel
theorem dX9_shorthand_55 : decode cX9_shorthand 55 = .ok (.iload_n 1, 1) := by decide +kernel
theorem dX9_shorthand_56 : decode cX9_shorthand 56 = .ok (.iload 5, 2) := by decide +kernel
theorem dX9_shorthand_58 : decode cX9_shorthand 58 = .ok (.iload 7, 2) := by decide +kernel
theorem dX9_shorthand_60 : decode cX9_shorthand 60 = .ok (.iadd, 1) := by decide +kernel
theorem dX9_shorthand_61 : decode cX9_shorthand 61 = .ok (.invokevirtual 212, 3) := by decide +kernel
theorem dX9_shorthand_64 : decode cX9_shorthand 64 = .ok (.iload 6, 2) := by decide +kernel
theorem dX9_shorthand_66 : decode cX9_shorthand 66 = .ok (.if_icmp .ne 9, 3) := by decide +kernel
theorem dX9_shorthand_69 : decode cX9_shorthand 69 = .ok (.iinc 7 1, 3) := by decide +kernel
theorem dX9_shorthand_72 : decode cX9_shorthand 72 = .ok (.goto (-27), 3) := by decide +kernel
theorem dX9_shorthand_75 : decode cX9_shorthand 75 = .ok (.iload 6, 2) := by decide +kernel
theorem dX9_shorthand_77 : decode cX9_shorthand 77 = .ok (.iconst 1, 1) := by decide +kernel
theorem dX9_shorthand_78 : decode cX9_shorthand 78 = .ok (.invokestatic 233, 3) := by decide +kernel
theorem dX9_shorthand_81 : decode cX9_shorthand 81 = .ok (.ifCond .ne 7, 3) := by decide +kernel
theorem dX9_shorthand_84 : decode cX9_shorthand 84 = .ok (.iconst 1, 1) := by decide +kernel
theorem dX9_shorthand_85 : decode cX9_shorthand 85 = .ok (.goto 4, 3) := by decide +kernel
theorem dX9_shorthand_88 : decode cX9_shorthand 88 = .ok (.iconst 2, 1) := by decide +kernel
theorem dX9_shorthand_89 : decode cX9_shorthand 89 = .ok (.istore 8, 2) := by decide +kernel
theorem dX9_shorthand_91 : decode cX9_shorthand 91 = .ok (.iload 7, 2) := by decide +kernel
theorem dX9_shorthand_93 : decode cX9_shorthand 93 = .ok (.iconst 2, 1) := by decide +kernel
theorem dX9_shorthand_94 : decode cX9_shorthand 94 = .ok (.if_icmp .ge 7, 3) := by decide +kernel
theorem dX9_shorthand_97 : decode cX9_shorthand 97 = .ok (.iconst 0, 1) := by decide +kernel
theorem dX9_shorthand_98 : decode cX9_shorthand 98 = .ok (.goto 26, 3) := by decide +kernel
theorem dX9_shorthand_101 : decode cX9_shorthand 101 = .ok (.iload 7, 2) := by decide +kernel
theorem dX9_shorthand_103 : decode cX9_shorthand 103 = .ok (.bipush 10, 2) := by decide +kernel
theorem dX9_shorthand_105 : decode cX9_shorthand 105 = .ok (.if_icmp .ge 7, 3) := by decide +kernel
theorem dX9_shorthand_108 : decode cX9_shorthand 108 = .ok (.iconst 1, 1) := by decide +kernel
theorem dX9_shorthand_109 : decode cX9_shorthand 109 = .ok (.goto 15, 3) := by decide +kernel
theorem dX9_shorthand_112 : decode cX9_shorthand 112 = .ok (.iload 7, 2) := by decide +kernel
theorem dX9_shorthand_114 : decode cX9_shorthand 114 = .ok (.bipush 100, 2) := by decide +kernel
theorem dX9_shorthand_116 : decode cX9_shorthand 116 = .ok (.if_icmp .ge 7, 3) := by decide +kernel
theorem dX9_shorthand_119 : decode cX9_shorthand 119 = .ok (.iconst 2, 1) := by decide +kernel
theorem dX9_shorthand_120 : decode cX9_shorthand 120 = .ok (.goto 4, 3) := by decide +kernel
theorem dX9_shorthand_123 : decode cX9_shorthand 123 = .ok (.iconst 3, 1) := by decide +kernel
theorem dX9_shorthand_124 : decode cX9_shorthand 124 = .ok (.istore 9, 2) := by decide +kernel
theorem dX9_shorthand_126 : decode cX9_shorthand 126 = .ok (.iload 5, 2) := by decide +kernel
theorem dX9_shorthand_128 : decode cX9_shorthand 128 = .ok (.iload 7, 2) := by decide +kernel
theorem dX9_shorthand_130 : decode cX9_shorthand 130 = .ok (.iadd, 1) := by decide +kernel
theorem dX9_shorthand_131 : decode cX9_shorthand 131 = .ok (.iload_n 3, 1) := by decide +kernel
theorem dX9_shorthand_132 : decode cX9_shorthand 132 = .ok (.if_icmp .ge 7, 3) := by decide +kernel
theorem dX9_shorthand_135 : decode cX9_shorthand 135 = .ok (.iconst 1, 1) := by decide +kernel
theorem dX9_shorthand_136 : decode cX9_shorthand 136 = .ok (.goto 4, 3) := by decide +kernel
theorem dX9_shorthand_139 : decode cX9_shorthand 139 = .ok (.iconst 0, 1) := by decide +kernel
theorem dX9_shorthand_140 : decode cX9_shorthand 140 = .ok (.istore 10, 2) := by decide +kernel
theorem dX9_shorthand_142 : decode cX9_shorthand 142 = .ok (.iload_n 2, 1) := by decide +kernel
theorem dX9_shorthand_143 : decode cX9_shorthand 143 = .ok (.iload 4, 2) := by decide +kernel
theorem dX9_shorthand_145 : decode cX9_shorthand 145 = .ok (.isub, 1) := by decide +kernel
theorem dX9_shorthand_146 : decode cX9_shorthand 146 = .ok (.istore 11, 2) := by decide +kernel
theorem dX9_shorthand_148 : decode cX9_shorthand 148 = .ok (.iload 11, 2) := by decide +kernel
theorem dX9_shorthand_150 : decode cX9_shorthand 150 = .ok (.i2l, 1) := by decide +kernel
theorem dX9_shorthand_151 : decode cX9_shorthand 151 = .ok (.lconst 0, 1) := by decide +kernel
theorem dX9_shorthand_152 : decode cX9_shorthand 152 = .ok (.iload 8, 2) := by decide +kernel
theorem dX9_shorthand_154 : decode cX9_shorthand 154 = .ok (.iconst 1, 1) := by decide +kernel
theorem dX9_shorthand_155 : decode cX9_shorthand 155 = .ok (.isub, 1) := by decide +kernel
theorem dX9_shorthand_156 : decode cX9_shorthand 156 = .ok (.i2l, 1) := by decide +kernel
theorem dX9_shorthand_157 : decode cX9_shorthand 157 = .ok (.invokestatic 56, 3) := by decide +kernel
theorem dX9_shorthand_160 : decode cX9_shorthand 160 = .ok (.ifCond .eq 11, 3) := by decide +kernel
theorem dX9_shorthand_163 : decode cX9_shorthand 163 = .ok (.iload 6, 2) := by decide +kernel
theorem dX9_shorthand_165 : decode cX9_shorthand 165 = .ok (.iload 11, 2) := by decide +kernel
theorem dX9_shorthand_167 : decode cX9_shorthand 167 = .ok (.invokestatic 233, 3) := by decide +kernel
theorem dX9_shorthand_170 : decode cX9_shorthand 170 = .ok (.ireturn, 1) := by decide +kernel
theorem dX9_shorthand_171 : decode cX9_shorthand 171 = .ok (.iload 11, 2) := by decide +kernel
theorem dX9_shorthand_173 : decode cX9_shorthand 173 = .ok (.i2l, 1) := by decide +kernel
theorem dX9_shorthand_174 : decode cX9_shorthand 174 = .ok (.iload 8, 2) := by decide +kernel
theorem dX9_shorthand_176 : decode cX9_shorthand 176 = .ok (.i2l, 1) := by decide +kernel
theorem dX9_shorthand_177 : decode cX9_shorthand 177 = .ok (.iload 8, 2) := by decide +kernel
theorem dX9_shorthand_179 : decode cX9_shorthand 179 = .ok (.iload 9, 2) := by decide +kernel
theorem dX9_shorthand_181 : decode cX9_shorthand 181 = .ok (.iadd, 1) := by decide +kernel
theorem dX9_shorthand_182 : decode cX9_shorthand 182 = .ok (.iconst 1, 1) := by decide +kernel
theorem dX9_shorthand_183 : decode cX9_shorthand 183 = .ok (.isub, 1) := by decide +kernel
theorem dX9_shorthand_184 : decode cX9_shorthand 184 = .ok (.i2l, 1) := by decide +kernel
theorem dX9_shorthand_185 : decode cX9_shorthand 185 = .ok (.invokestatic 56, 3) := by decide +kernel
theorem dX9_shorthand_188 : decode cX9_shorthand 188 = .ok (.ifCond .eq 51, 3) := by decide +kernel
theorem dX9_shorthand_191 : decode cX9_shorthand 191 = .ok (.iload 8, 2) := by decide +kernel
theorem dX9_shorthand_193 : decode cX9_shorthand 193 = .ok (.iload 9, 2) := by decide +kernel
theorem dX9_shorthand_195 : decode cX9_shorthand 195 = .ok (.iadd, 1) := by decide +kernel
theorem dX9_shorthand_196 : decode cX9_shorthand 196 = .ok (.iconst 1, 1) := by decide +kernel
theorem dX9_shorthand_197 : decode cX9_shorthand 197 = .ok (.isub, 1) := by decide +kernel
theorem dX9_shorthand_198 : decode cX9_shorthand 198 = .ok (.iload 11, 2) := by decide +kernel
theorem dX9_shorthand_200 : decode cX9_shorthand 200 = .ok (.isub, 1) := by decide +kernel
theorem dX9_shorthand_201 : decode cX9_shorthand 201 = .ok (.istore 12, 2) := by decide +kernel
theorem dX9_shorthand_203 : decode cX9_shorthand 203 = .ok (.bipush 48, 2) := by decide +kernel
theorem dX9_shorthand_205 : decode cX9_shorthand 205 = .ok (.iload 12, 2) := by decide +kernel
theorem dX9_shorthand_207 : decode cX9_shorthand 207 = .ok (.ifCond .ne 8, 3) := by decide +kernel
theorem dX9_shorthand_210 : decode cX9_shorthand 210 = .ok (.iload 7, 2) := by decide +kernel
theorem dX9_shorthand_212 : decode cX9_shorthand 212 = .ok (.goto 22, 3) := by decide +kernel
theorem dX9_shorthand_215 : decode cX9_shorthand 215 = .ok (.iload 12, 2) := by decide +kernel
theorem dX9_shorthand_217 : decode cX9_shorthand 217 = .ok (.iconst 1, 1) := by decide +kernel
theorem dX9_shorthand_218 : decode cX9_shorthand 218 = .ok (.if_icmp .ne 11, 3) := by decide +kernel
theorem dX9_shorthand_221 : decode cX9_shorthand 221 = .ok (.iload 7, 2) := by decide +kernel
theorem dX9_shorthand_223 : decode cX9_shorthand 223 = .ok (.bipush 10, 2) := by decide +kernel
theorem dX9_shorthand_225 : decode cX9_shorthand 225 = .ok (.idiv, 1) := by decide +kernel
theorem dX9_shorthand_226 : decode cX9_shorthand 226 = .ok (.goto 8, 3) := by decide +kernel
theorem dX9_shorthand_229 : decode cX9_shorthand 229 = .ok (.iload 7, 2) := by decide +kernel
theorem dX9_shorthand_231 : decode cX9_shorthand 231 = .ok (.bipush 100, 2) := by decide +kernel
theorem dX9_shorthand_233 : decode cX9_shorthand 233 = .ok (.idiv, 1) := by decide +kernel
theorem dX9_shorthand_234 : decode cX9_shorthand 234 = .ok (.bipush 10, 2) := by decide +kernel
theorem dX9_shorthand_236 : decode cX9_shorthand 236 = .ok (.irem, 1) := by decide +kernel
theorem dX9_shorthand_237 : decode cX9_shorthand 237 = .ok (.iadd, 1) := by decide +kernel
theorem dX9_shorthand_238 : decode cX9_shorthand 238 = .ok (.ireturn, 1) := by decide +kernel
theorem dX9_shorthand_239 : decode cX9_shorthand 239 = .ok (.iload 11, 2) := by decide +kernel
theorem dX9_shorthand_241 : decode cX9_shorthand 241 = .ok (.iload 8, 2) := by decide +kernel
theorem dX9_shorthand_243 : decode cX9_shorthand 243 = .ok (.iload 9, 2) := by decide +kernel
theorem dX9_shorthand_245 : decode cX9_shorthand 245 = .ok (.iadd, 1) := by decide +kernel
theorem dX9_shorthand_246 : decode cX9_shorthand 246 = .ok (.if_icmp .ne 12, 3) := by decide +kernel
theorem dX9_shorthand_249 : decode cX9_shorthand 249 = .ok (.iload 10, 2) := by decide +kernel
theorem dX9_shorthand_251 : decode cX9_shorthand 251 = .ok (.iconst 1, 1) := by decide +kernel
theorem dX9_shorthand_252 : decode cX9_shorthand 252 = .ok (.if_icmp .ne 6, 3) := by decide +kernel
theorem dX9_shorthand_255 : decode cX9_shorthand 255 = .ok (.bipush 44, 2) := by decide +kernel
theorem dX9_shorthand_257 : decode cX9_shorthand 257 = .ok (.ireturn, 1) := by decide +kernel
theorem dX9_shorthand_258 : decode cX9_shorthand 258 = .ok (.iload 4, 2) := by decide +kernel
theorem dX9_shorthand_260 : decode cX9_shorthand 260 = .ok (.iload 8, 2) := by decide +kernel
theorem dX9_shorthand_262 : decode cX9_shorthand 262 = .ok (.iload 9, 2) := by decide +kernel
theorem dX9_shorthand_264 : decode cX9_shorthand 264 = .ok (.iadd, 1) := by decide +kernel
theorem dX9_shorthand_265 : decode cX9_shorthand 265 = .ok (.iload 10, 2) := by decide +kernel
theorem dX9_shorthand_267 : decode cX9_shorthand 267 = .ok (.iadd, 1) := by decide +kernel
theorem dX9_shorthand_268 : decode cX9_shorthand 268 = .ok (.iadd, 1) := by decide +kernel
theorem dX9_shorthand_269 : decode cX9_shorthand 269 = .ok (.istore 4, 2) := by decide +kernel
theorem dX9_shorthand_271 : decode cX9_shorthand 271 = .ok (.iload 5, 2) := by decide +kernel
theorem dX9_shorthand_273 : decode cX9_shorthand 273 = .ok (.iload 7, 2) := by decide +kernel
theorem dX9_shorthand_275 : decode cX9_shorthand 275 = .ok (.iadd, 1) := by decide +kernel
theorem dX9_shorthand_276 : decode cX9_shorthand 276 = .ok (.istore 5, 2) := by decide +kernel
theorem dX9_shorthand_278 : decode cX9_shorthand 278 = .ok (.goto (-251), 3) := by decide +kernel
theorem dX9_shorthand_281 : decode cX9_shorthand 281 = .ok (.iconst (-1), 1) := by decide +kernel
theorem dX9_shorthand_282 : decode cX9_shorthand 282 = .ok (.ireturn, 1) := by decide +kernel
theorem dX9_unit_0 : decode cX9_unit 0 = .ok (.aload_n 0, 1) := by decide +kernel
theorem dX9_unit_1 : decode cX9_unit 1 = .ok (.iload_n 1, 1) := by decide +kernel
theorem dX9_unit_2 : decode cX9_unit 2 = .ok (.invokevirtual 215, 3) := by decide +kernel
theorem dX9_unit_5 : decode cX9_unit 5 = .ok (.ifCond .ne 10, 3) := by decide +kernel
theorem dX9_unit_8 : decode cX9_unit 8 = .ok (.aload_n 0, 1) := by decide +kernel
theorem dX9_unit_9 : decode cX9_unit 9 = .ok (.bipush (-92), 2) := by decide +kernel
theorem dX9_unit_11 : decode cX9_unit 11 = .ok (.invokevirtual 60, 3) := by decide +kernel
theorem dX9_unit_14 : decode cX9_unit 14 = .ok (.ireturn, 1) := by decide +kernel
theorem dX9_unit_15 : decode cX9_unit 15 = .ok (.aload_n 0, 1) := by decide +kernel
theorem dX9_unit_16 : decode cX9_unit 16 = .ok (.iload_n 1, 1) := by decide +kernel
theorem dX9_unit_17 : decode cX9_unit 17 = .ok (.invokevirtual 220, 3) := by decide +kernel
theorem dX9_unit_20 : decode cX9_unit 20 = .ok (.istore_n 2, 1) := by decide +kernel
theorem dX9_unit_21 : decode cX9_unit 21 = .ok (.iconst 1, 1) := by decide +kernel
theorem dX9_unit_22 : decode cX9_unit 22 = .ok (.istore_n 3, 1) := by decide +kernel
theorem dX9_unit_23 : decode cX9_unit 23 = .ok (.iload_n 3, 1) := by decide +kernel
theorem dX9_unit_24 : decode cX9_unit 24 = .ok (.iload_n 2, 1) := by decide +kernel
theorem dX9_unit_25 : decode cX9_unit 25 = .ok (.if_icmp .gt 75, 3) := by decide +kernel
theorem dX9_unit_28 : decode cX9_unit 28 = .ok (.iload_n 2, 1) := by decide +kernel
theorem dX9_unit_29 : decode cX9_unit 29 = .ok (.iload_n 3, 1) := by decide +kernel
theorem dX9_unit_30 : decode cX9_unit 30 = .ok (.irem, 1) := by decide +kernel
theorem dX9_unit_31 : decode cX9_unit 31 = .ok (.ifCond .ne 7, 3) := by decide +kernel
theorem dX9_unit_34 : decode cX9_unit 34 = .ok (.iconst 1, 1) := by decide +kernel
theorem dX9_unit_35 : decode cX9_unit 35 = .ok (.goto 4, 3) := by decide +kernel
theorem dX9_unit_38 : decode cX9_unit 38 = .ok (.iconst 0, 1) := by decide +kernel
theorem dX9_unit_39 : decode cX9_unit 39 = .ok (.istore 4, 2) := by decide +kernel
theorem dX9_unit_41 : decode cX9_unit 41 = .ok (.iload_n 3, 1) := by decide +kernel
theorem dX9_unit_42 : decode cX9_unit 42 = .ok (.istore 5, 2) := by decide +kernel
theorem dX9_unit_44 : decode cX9_unit 44 = .ok (.iload 5, 2) := by decide +kernel
theorem dX9_unit_46 : decode cX9_unit 46 = .ok (.iload_n 2, 1) := by decide +kernel
theorem dX9_unit_47 : decode cX9_unit 47 = .ok (.if_icmp .ge 40, 3) := by decide +kernel
theorem dX9_unit_50 : decode cX9_unit 50 = .ok (.iload 4, 2) := by decide +kernel
theorem dX9_unit_52 : decode cX9_unit 52 = .ok (.ifCond .eq 35, 3) := by decide +kernel
theorem dX9_unit_55 : decode cX9_unit 55 = .ok (.aload_n 0, 1) := by decide +kernel
theorem dX9_unit_56 : decode cX9_unit 56 = .ok (.iload_n 1, 1) := by decide +kernel
theorem dX9_unit_57 : decode cX9_unit 57 = .ok (.iload 5, 2) := by decide +kernel
theorem dX9_unit_59 : decode cX9_unit 59 = .ok (.invokevirtual 212, 3) := by decide +kernel
theorem dX9_unit_62 : decode cX9_unit 62 = .ok (.aload_n 0, 1) := by decide +kernel
theorem dX9_unit_63 : decode cX9_unit 63 = .ok (.iload_n 1, 1) := by decide +kernel
theorem dX9_unit_64 : decode cX9_unit 64 = .ok (.iload 5, 2) := by decide +kernel
theorem dX9_unit_66 : decode cX9_unit 66 = .ok (.iload_n 3, 1) := by decide +kernel
theorem dX9_unit_67 : decode cX9_unit 67 = .ok (.isub, 1) := by decide +kernel
theorem dX9_unit_68 : decode cX9_unit 68 = .ok (.invokevirtual 212, 3) := by decide +kernel
theorem dX9_unit_71 : decode cX9_unit 71 = .ok (.if_icmp .ne 7, 3) := by decide +kernel
theorem dX9_unit_74 : decode cX9_unit 74 = .ok (.iconst 1, 1) := by decide +kernel
theorem dX9_unit_75 : decode cX9_unit 75 = .ok (.goto 4, 3) := by decide +kernel
theorem dX9_unit_78 : decode cX9_unit 78 = .ok (.iconst 0, 1) := by decide +kernel
theorem dX9_unit_79 : decode cX9_unit 79 = .ok (.istore 4, 2) := by decide +kernel
theorem dX9_unit_81 : decode cX9_unit 81 = .ok (.iinc 5 1, 3) := by decide +kernel
theorem dX9_unit_84 : decode cX9_unit 84 = .ok (.goto (-40), 3) := by decide +kernel
theorem dX9_unit_87 : decode cX9_unit 87 = .ok (.iload 4, 2) := by decide +kernel
theorem dX9_unit_89 : decode cX9_unit 89 = .ok (.ifCond .eq 5, 3) := by decide +kernel
theorem dX9_unit_92 : decode cX9_unit 92 = .ok (.iload_n 3, 1) := by decide +kernel
theorem dX9_unit_93 : decode cX9_unit 93 = .ok (.ireturn, 1) := by decide +kernel
theorem dX9_unit_94 : decode cX9_unit 94 = .ok (.iinc 3 1, 3) := by decide +kernel
theorem dX9_unit_97 : decode cX9_unit 97 = .ok (.goto (-74), 3) := by decide +kernel
theorem dX9_unit_100 : decode cX9_unit 100 = .ok (.iconst 0, 1) := by decide +kernel
theorem dX9_unit_101 : decode cX9_unit 101 = .ok (.ireturn, 1) := by decide +kernel
theorem dX9_mirroredAt_0 : decode cX9_mirroredAt 0 = .ok (.aload_n 0, 1) := by decide +kernel
theorem dX9_mirroredAt_1 : decode cX9_mirroredAt 1 = .ok (.iload_n 1, 1) := by decide +kernel
theorem dX9_mirroredAt_2 : decode cX9_mirroredAt 2 = .ok (.invokevirtual 220, 3) := by decide +kernel
theorem dX9_mirroredAt_5 : decode cX9_mirroredAt 5 = .ok (.istore_n 3, 1) := by decide +kernel
theorem dX9_mirroredAt_6 : decode cX9_mirroredAt 6 = .ok (.iload_n 2, 1) := by decide +kernel
theorem dX9_mirroredAt_7 : decode cX9_mirroredAt 7 = .ok (.i2l, 1) := by decide +kernel
theorem dX9_mirroredAt_8 : decode cX9_mirroredAt 8 = .ok (.lconst 0, 1) := by decide +kernel
theorem dX9_mirroredAt_9 : decode cX9_mirroredAt 9 = .ok (.iload_n 3, 1) := by decide +kernel
theorem dX9_mirroredAt_10 : decode cX9_mirroredAt 10 = .ok (.iconst 1, 1) := by decide +kernel
theorem dX9_mirroredAt_11 : decode cX9_mirroredAt 11 = .ok (.isub, 1) := by decide +kernel
theorem dX9_mirroredAt_12 : decode cX9_mirroredAt 12 = .ok (.i2l, 1) := by decide +kernel
theorem dX9_mirroredAt_13 : decode cX9_mirroredAt 13 = .ok (.invokestatic 56, 3) := by decide +kernel
theorem dX9_mirroredAt_16 : decode cX9_mirroredAt 16 = .ok (.ifCond .eq 19, 3) := by decide +kernel
theorem dX9_mirroredAt_19 : decode cX9_mirroredAt 19 = .ok (.aload_n 0, 1) := by decide +kernel
theorem dX9_mirroredAt_20 : decode cX9_mirroredAt 20 = .ok (.iload_n 1, 1) := by decide +kernel
theorem dX9_mirroredAt_21 : decode cX9_mirroredAt 21 = .ok (.iload_n 3, 1) := by decide +kernel
theorem dX9_mirroredAt_22 : decode cX9_mirroredAt 22 = .ok (.iconst 1, 1) := by decide +kernel
theorem dX9_mirroredAt_23 : decode cX9_mirroredAt 23 = .ok (.isub, 1) := by decide +kernel
theorem dX9_mirroredAt_24 : decode cX9_mirroredAt 24 = .ok (.iload_n 2, 1) := by decide +kernel
theorem dX9_mirroredAt_25 : decode cX9_mirroredAt 25 = .ok (.isub, 1) := by decide +kernel
theorem dX9_mirroredAt_26 : decode cX9_mirroredAt 26 = .ok (.invokevirtual 212, 3) := by decide +kernel
theorem dX9_mirroredAt_29 : decode cX9_mirroredAt 29 = .ok (.invokestatic 50, 3) := by decide +kernel
theorem dX9_mirroredAt_32 : decode cX9_mirroredAt 32 = .ok (.goto 4, 3) := by decide +kernel
theorem dX9_mirroredAt_35 : decode cX9_mirroredAt 35 = .ok (.iconst (-1), 1) := by decide +kernel
theorem dX9_mirroredAt_36 : decode cX9_mirroredAt 36 = .ok (.ireturn, 1) := by decide +kernel
theorem dX9_mirrored_0 : decode cX9_mirrored 0 = .ok (.aload_n 0, 1) := by decide +kernel
theorem dX9_mirrored_1 : decode cX9_mirrored 1 = .ok (.iload_n 1, 1) := by decide +kernel
theorem dX9_mirrored_2 : decode cX9_mirrored 2 = .ok (.invokevirtual 215, 3) := by decide +kernel
theorem dX9_mirrored_5 : decode cX9_mirrored 5 = .ok (.ifCond .eq 12, 3) := by decide +kernel
theorem dX9_mirrored_8 : decode cX9_mirrored 8 = .ok (.aload_n 0, 1) := by decide +kernel
theorem dX9_mirrored_9 : decode cX9_mirrored 9 = .ok (.iload_n 1, 1) := by decide +kernel
theorem dX9_mirrored_10 : decode cX9_mirrored 10 = .ok (.iload_n 2, 1) := by decide +kernel
theorem dX9_mirrored_11 : decode cX9_mirrored 11 = .ok (.invokevirtual 236, 3) := by decide +kernel
theorem dX9_mirrored_14 : decode cX9_mirrored 14 = .ok (.goto 9, 3) := by decide +kernel
theorem dX9_mirrored_17 : decode cX9_mirrored 17 = .ok (.aload_n 0, 1) := by decide +kernel
theorem dX9_mirrored_18 : decode cX9_mirrored 18 = .ok (.bipush (-92), 2) := by decide +kernel
theorem dX9_mirrored_20 : decode cX9_mirrored 20 = .ok (.invokevirtual 60, 3) := by decide +kernel
theorem dX9_mirrored_23 : decode cX9_mirrored 23 = .ok (.ireturn, 1) := by decide +kernel
theorem dX9_even_0 : decode cX9_even 0 = .ok (.aload_n 0, 1) := by decide +kernel
theorem dX9_even_1 : decode cX9_even 1 = .ok (.iload_n 1, 1) := by decide +kernel
theorem dX9_even_2 : decode cX9_even 2 = .ok (.invokevirtual 215, 3) := by decide +kernel
theorem dX9_even_5 : decode cX9_even 5 = .ok (.ifCond .ne 10, 3) := by decide +kernel
theorem dX9_even_8 : decode cX9_even 8 = .ok (.aload_n 0, 1) := by decide +kernel
theorem dX9_even_9 : decode cX9_even 9 = .ok (.bipush (-92), 2) := by decide +kernel
theorem dX9_even_11 : decode cX9_even 11 = .ok (.invokevirtual 60, 3) := by decide +kernel
theorem dX9_even_14 : decode cX9_even 14 = .ok (.ireturn, 1) := by decide +kernel
theorem dX9_even_15 : decode cX9_even 15 = .ok (.iconst 1, 1) := by decide +kernel
theorem dX9_even_16 : decode cX9_even 16 = .ok (.istore_n 2, 1) := by decide +kernel
theorem dX9_even_17 : decode cX9_even 17 = .ok (.iconst 0, 1) := by decide +kernel
theorem dX9_even_18 : decode cX9_even 18 = .ok (.istore_n 3, 1) := by decide +kernel
theorem dX9_even_19 : decode cX9_even 19 = .ok (.iload_n 3, 1) := by decide +kernel
theorem dX9_even_20 : decode cX9_even 20 = .ok (.aload_n 0, 1) := by decide +kernel
theorem dX9_even_21 : decode cX9_even 21 = .ok (.iload_n 1, 1) := by decide +kernel
theorem dX9_even_22 : decode cX9_even 22 = .ok (.invokevirtual 220, 3) := by decide +kernel
theorem dX9_even_25 : decode cX9_even 25 = .ok (.if_icmp .ge 34, 3) := by decide +kernel
theorem dX9_even_28 : decode cX9_even 28 = .ok (.iload_n 2, 1) := by decide +kernel
theorem dX9_even_29 : decode cX9_even 29 = .ok (.ifCond .eq 22, 3) := by decide +kernel
theorem dX9_even_32 : decode cX9_even 32 = .ok (.aload_n 0, 1) := by decide +kernel
theorem dX9_even_33 : decode cX9_even 33 = .ok (.iload_n 1, 1) := by decide +kernel
theorem dX9_even_34 : decode cX9_even 34 = .ok (.iload_n 3, 1) := by decide +kernel
theorem dX9_even_35 : decode cX9_even 35 = .ok (.invokevirtual 236, 3) := by decide +kernel
theorem dX9_even_38 : decode cX9_even 38 = .ok (.aload_n 0, 1) := by decide +kernel
theorem dX9_even_39 : decode cX9_even 39 = .ok (.iload_n 1, 1) := by decide +kernel
theorem dX9_even_40 : decode cX9_even 40 = .ok (.iload_n 3, 1) := by decide +kernel
theorem dX9_even_41 : decode cX9_even 41 = .ok (.invokevirtual 212, 3) := by decide +kernel
theorem dX9_even_44 : decode cX9_even 44 = .ok (.if_icmp .ne 7, 3) := by decide +kernel
theorem dX9_even_47 : decode cX9_even 47 = .ok (.iconst 1, 1) := by decide +kernel
theorem dX9_even_48 : decode cX9_even 48 = .ok (.goto 4, 3) := by decide +kernel
theorem dX9_even_51 : decode cX9_even 51 = .ok (.iconst 0, 1) := by decide +kernel
theorem dX9_even_52 : decode cX9_even 52 = .ok (.istore_n 2, 1) := by decide +kernel
theorem dX9_even_53 : decode cX9_even 53 = .ok (.iinc 3 1, 3) := by decide +kernel
theorem dX9_even_56 : decode cX9_even 56 = .ok (.goto (-37), 3) := by decide +kernel
theorem dX9_even_59 : decode cX9_even 59 = .ok (.iload_n 2, 1) := by decide +kernel
theorem dX9_even_60 : decode cX9_even 60 = .ok (.ifCond .eq 7, 3) := by decide +kernel
theorem dX9_even_63 : decode cX9_even 63 = .ok (.iconst 1, 1) := by decide +kernel
theorem dX9_even_64 : decode cX9_even 64 = .ok (.goto 4, 3) := by decide +kernel
theorem dX9_even_67 : decode cX9_even 67 = .ok (.iconst 0, 1) := by decide +kernel
theorem dX9_even_68 : decode cX9_even 68 = .ok (.ireturn, 1) := by decide +kernel
theorem dX9_rooted_0 : decode cX9_rooted 0 = .ok (.iconst 0, 1) := by decide +kernel
theorem dX9_rooted_1 : decode cX9_rooted 1 = .ok (.istore_n 3, 1) := by decide +kernel
theorem dX9_rooted_2 : decode cX9_rooted 2 = .ok (.iconst 0, 1) := by decide +kernel
theorem dX9_rooted_3 : decode cX9_rooted 3 = .ok (.istore 4, 2) := by decide +kernel
theorem dX9_rooted_5 : decode cX9_rooted 5 = .ok (.iconst 0, 1) := by decide +kernel
theorem dX9_rooted_6 : decode cX9_rooted 6 = .ok (.istore 5, 2) := by decide +kernel
theorem dX9_rooted_8 : decode cX9_rooted 8 = .ok (.iload 5, 2) := by decide +kernel
theorem dX9_rooted_10 : decode cX9_rooted 10 = .ok (.aload_n 0, 1) := by decide +kernel
theorem dX9_rooted_11 : decode cX9_rooted 11 = .ok (.iload_n 1, 1) := by decide +kernel
theorem dX9_rooted_12 : decode cX9_rooted 12 = .ok (.invokevirtual 220, 3) := by decide +kernel
theorem dX9_rooted_15 : decode cX9_rooted 15 = .ok (.if_icmp .ge 63, 3) := by decide +kernel
theorem dX9_rooted_18 : decode cX9_rooted 18 = .ok (.aload_n 0, 1) := by decide +kernel
theorem dX9_rooted_19 : decode cX9_rooted 19 = .ok (.iload_n 1, 1) := by decide +kernel
theorem dX9_rooted_20 : decode cX9_rooted 20 = .ok (.iload 5, 2) := by decide +kernel
theorem dX9_rooted_22 : decode cX9_rooted 22 = .ok (.invokevirtual 212, 3) := by decide +kernel
theorem dX9_rooted_25 : decode cX9_rooted 25 = .ok (.istore 6, 2) := by decide +kernel
theorem dX9_rooted_27 : decode cX9_rooted 27 = .ok (.iload 6, 2) := by decide +kernel
theorem dX9_rooted_29 : decode cX9_rooted 29 = .ok (.invokestatic 154, 3) := by decide +kernel
theorem dX9_rooted_32 : decode cX9_rooted 32 = .ok (.iconst 1, 1) := by decide +kernel
theorem dX9_rooted_33 : decode cX9_rooted 33 = .ok (.if_icmp .ne 21, 3) := by decide +kernel
theorem dX9_rooted_36 : decode cX9_rooted 36 = .ok (.iload 4, 2) := by decide +kernel
theorem dX9_rooted_38 : decode cX9_rooted 38 = .ok (.iload_n 2, 1) := by decide +kernel
theorem dX9_rooted_39 : decode cX9_rooted 39 = .ok (.if_icmp .ne 15, 3) := by decide +kernel
theorem dX9_rooted_42 : decode cX9_rooted 42 = .ok (.lconst 1, 1) := by decide +kernel
theorem dX9_rooted_43 : decode cX9_rooted 43 = .ok (.iload 6, 2) := by decide +kernel
theorem dX9_rooted_45 : decode cX9_rooted 45 = .ok (.invokestatic 141, 3) := by decide +kernel
theorem dX9_rooted_48 : decode cX9_rooted 48 = .ok (.lshl, 1) := by decide +kernel
theorem dX9_rooted_49 : decode cX9_rooted 49 = .ok (.lconst 1, 1) := by decide +kernel
theorem dX9_rooted_50 : decode cX9_rooted 50 = .ok (.lsub, 1) := by decide +kernel
theorem dX9_rooted_51 : decode cX9_rooted 51 = .ok (.iload_n 3, 1) := by decide +kernel
theorem dX9_rooted_52 : decode cX9_rooted 52 = .ok (.lshl, 1) := by decide +kernel
theorem dX9_rooted_53 : decode cX9_rooted 53 = .ok (.lreturn, 1) := by decide +kernel
theorem dX9_rooted_54 : decode cX9_rooted 54 = .ok (.iload_n 3, 1) := by decide +kernel
theorem dX9_rooted_55 : decode cX9_rooted 55 = .ok (.iload 6, 2) := by decide +kernel
theorem dX9_rooted_57 : decode cX9_rooted 57 = .ok (.invokestatic 141, 3) := by decide +kernel
theorem dX9_rooted_60 : decode cX9_rooted 60 = .ok (.iadd, 1) := by decide +kernel
theorem dX9_rooted_61 : decode cX9_rooted 61 = .ok (.istore_n 3, 1) := by decide +kernel
theorem dX9_rooted_62 : decode cX9_rooted 62 = .ok (.iload 4, 2) := by decide +kernel
theorem dX9_rooted_64 : decode cX9_rooted 64 = .ok (.iload 6, 2) := by decide +kernel
theorem dX9_rooted_66 : decode cX9_rooted 66 = .ok (.invokestatic 154, 3) := by decide +kernel
theorem dX9_rooted_69 : decode cX9_rooted 69 = .ok (.iadd, 1) := by decide +kernel
theorem dX9_rooted_70 : decode cX9_rooted 70 = .ok (.istore 4, 2) := by decide +kernel
theorem dX9_rooted_72 : decode cX9_rooted 72 = .ok (.iinc 5 1, 3) := by decide +kernel
theorem dX9_rooted_75 : decode cX9_rooted 75 = .ok (.goto (-67), 3) := by decide +kernel
theorem dX9_rooted_78 : decode cX9_rooted 78 = .ok (.lconst 0, 1) := by decide +kernel
theorem dX9_rooted_79 : decode cX9_rooted 79 = .ok (.lreturn, 1) := by decide +kernel
theorem dX9_madeBy_0 : decode cX9_madeBy 0 = .ok (.aload_n 0, 1) := by decide +kernel
theorem dX9_madeBy_1 : decode cX9_madeBy 1 = .ok (.iload_n 1, 1) := by decide +kernel
theorem dX9_madeBy_2 : decode cX9_madeBy 2 = .ok (.aload_n 0, 1) := by decide +kernel
theorem dX9_madeBy_3 : decode cX9_madeBy 3 = .ok (.iload_n 1, 1) := by decide +kernel
theorem dX9_madeBy_4 : decode cX9_madeBy 4 = .ok (.invokevirtual 220, 3) := by decide +kernel
theorem dX9_madeBy_7 : decode cX9_madeBy 7 = .ok (.iconst 1, 1) := by decide +kernel
theorem dX9_madeBy_8 : decode cX9_madeBy 8 = .ok (.invokevirtual 223, 3) := by decide +kernel
theorem dX9_madeBy_11 : decode cX9_madeBy 11 = .ok (.ireturn, 1) := by decide +kernel
theorem dX9_roots_0 : decode cX9_roots 0 = .ok (.aload_n 0, 1) := by decide +kernel
theorem dX9_roots_1 : decode cX9_roots 1 = .ok (.iload_n 1, 1) := by decide +kernel
theorem dX9_roots_2 : decode cX9_roots 2 = .ok (.invokevirtual 215, 3) := by decide +kernel
theorem dX9_roots_5 : decode cX9_roots 5 = .ok (.ifCond .eq 20, 3) := by decide +kernel
theorem dX9_roots_8 : decode cX9_roots 8 = .ok (.iload_n 2, 1) := by decide +kernel
theorem dX9_roots_9 : decode cX9_roots 9 = .ok (.i2l, 1) := by decide +kernel
theorem dX9_roots_10 : decode cX9_roots 10 = .ok (.lconst 0, 1) := by decide +kernel
theorem dX9_roots_11 : decode cX9_roots 11 = .ok (.aload_n 0, 1) := by decide +kernel
theorem dX9_roots_12 : decode cX9_roots 12 = .ok (.iload_n 1, 1) := by decide +kernel
theorem dX9_roots_13 : decode cX9_roots 13 = .ok (.invokevirtual 239, 3) := by decide +kernel
theorem dX9_roots_16 : decode cX9_roots 16 = .ok (.iconst 1, 1) := by decide +kernel
theorem dX9_roots_17 : decode cX9_roots 17 = .ok (.isub, 1) := by decide +kernel
theorem dX9_roots_18 : decode cX9_roots 18 = .ok (.i2l, 1) := by decide +kernel
theorem dX9_roots_19 : decode cX9_roots 19 = .ok (.invokestatic 56, 3) := by decide +kernel
theorem dX9_roots_22 : decode cX9_roots 22 = .ok (.ifCond .ne 15, 3) := by decide +kernel
theorem dX9_roots_25 : decode cX9_roots 25 = .ok (.aload_n 0, 1) := by decide +kernel
theorem dX9_roots_26 : decode cX9_roots 26 = .ok (.bipush (-92), 2) := by decide +kernel
theorem dX9_roots_28 : decode cX9_roots 28 = .ok (.invokevirtual 60, 3) := by decide +kernel
theorem dX9_roots_31 : decode cX9_roots 31 = .ok (.i2l, 1) := by decide +kernel
theorem dX9_roots_32 : decode cX9_roots 32 = .ok (.ldc2_w 210, 3) := by decide +kernel
theorem dX9_roots_35 : decode cX9_roots 35 = .ok (.lsub, 1) := by decide +kernel
theorem dX9_roots_36 : decode cX9_roots 36 = .ok (.lreturn, 1) := by decide +kernel
theorem dX9_roots_37 : decode cX9_roots 37 = .ok (.aload_n 0, 1) := by decide +kernel
theorem dX9_roots_38 : decode cX9_roots 38 = .ok (.iload_n 1, 1) := by decide +kernel
theorem dX9_roots_39 : decode cX9_roots 39 = .ok (.iload_n 2, 1) := by decide +kernel
theorem dX9_roots_40 : decode cX9_roots 40 = .ok (.invokevirtual 242, 3) := by decide +kernel
theorem dX9_roots_43 : decode cX9_roots 43 = .ok (.lreturn, 1) := by decide +kernel
theorem dX9_origin_0 : decode cX9_origin 0 = .ok (.iload_n 1, 1) := by decide +kernel
theorem dX9_origin_1 : decode cX9_origin 1 = .ok (.i2l, 1) := by decide +kernel
theorem dX9_origin_2 : decode cX9_origin 2 = .ok (.lconst 0, 1) := by decide +kernel
theorem dX9_origin_3 : decode cX9_origin 3 = .ok (.aload_n 0, 1) := by decide +kernel
theorem dX9_origin_4 : decode cX9_origin 4 = .ok (.getfield 13, 3) := by decide +kernel
theorem dX9_origin_7 : decode cX9_origin 7 = .ok (.sipush 5023, 3) := by decide +kernel
theorem dX9_origin_10 : decode cX9_origin 10 = .ok (.iaload, 1) := by decide +kernel
theorem dX9_origin_11 : decode cX9_origin 11 = .ok (.iconst 1, 1) := by decide +kernel
theorem dX9_origin_12 : decode cX9_origin 12 = .ok (.isub, 1) := by decide +kernel
theorem dX9_origin_13 : decode cX9_origin 13 = .ok (.i2l, 1) := by decide +kernel
theorem dX9_origin_14 : decode cX9_origin 14 = .ok (.invokestatic 56, 3) := by decide +kernel
theorem dX9_origin_17 : decode cX9_origin 17 = .ok (.ifCond .ne 15, 3) := by decide +kernel
theorem dX9_origin_20 : decode cX9_origin 20 = .ok (.aload_n 0, 1) := by decide +kernel
theorem dX9_origin_21 : decode cX9_origin 21 = .ok (.bipush (-92), 2) := by decide +kernel
theorem dX9_origin_23 : decode cX9_origin 23 = .ok (.invokevirtual 60, 3) := by decide +kernel
theorem dX9_origin_26 : decode cX9_origin 26 = .ok (.i2l, 1) := by decide +kernel
theorem dX9_origin_27 : decode cX9_origin 27 = .ok (.ldc2_w 210, 3) := by decide +kernel
theorem dX9_origin_30 : decode cX9_origin 30 = .ok (.lsub, 1) := by decide +kernel
theorem dX9_origin_31 : decode cX9_origin 31 = .ok (.lreturn, 1) := by decide +kernel
theorem dX9_origin_32 : decode cX9_origin 32 = .ok (.lconst 1, 1) := by decide +kernel
theorem dX9_origin_33 : decode cX9_origin 33 = .ok (.iload_n 1, 1) := by decide +kernel
theorem dX9_origin_34 : decode cX9_origin 34 = .ok (.lshl, 1) := by decide +kernel
theorem dX9_origin_35 : decode cX9_origin 35 = .ok (.lstore_n 2, 1) := by decide +kernel
theorem dX9_origin_36 : decode cX9_origin 36 = .ok (.aload_n 0, 1) := by decide +kernel
theorem dX9_origin_37 : decode cX9_origin 37 = .ok (.getfield 13, 3) := by decide +kernel
theorem dX9_origin_40 : decode cX9_origin 40 = .ok (.sipush 5025, 3) := by decide +kernel
theorem dX9_origin_43 : decode cX9_origin 43 = .ok (.iaload, 1) := by decide +kernel
theorem dX9_origin_44 : decode cX9_origin 44 = .ok (.iconst 1, 1) := by decide +kernel
theorem dX9_origin_45 : decode cX9_origin 45 = .ok (.isub, 1) := by decide +kernel
theorem dX9_origin_46 : decode cX9_origin 46 = .ok (.istore 4, 2) := by decide +kernel
theorem dX9_origin_48 : decode cX9_origin 48 = .ok (.iload 4, 2) := by decide +kernel
theorem dX9_origin_50 : decode cX9_origin 50 = .ok (.ifCond .lt 92, 3) := by decide +kernel
theorem dX9_origin_53 : decode cX9_origin 53 = .ok (.aload_n 0, 1) := by decide +kernel
theorem dX9_origin_54 : decode cX9_origin 54 = .ok (.iload 4, 2) := by decide +kernel
theorem dX9_origin_56 : decode cX9_origin 56 = .ok (.invokevirtual 239, 3) := by decide +kernel
theorem dX9_origin_59 : decode cX9_origin 59 = .ok (.istore 5, 2) := by decide +kernel
theorem dX9_origin_61 : decode cX9_origin 61 = .ok (.lconst 0, 1) := by decide +kernel
theorem dX9_origin_62 : decode cX9_origin 62 = .ok (.lstore 6, 2) := by decide +kernel
theorem dX9_origin_64 : decode cX9_origin 64 = .ok (.iconst 0, 1) := by decide +kernel
theorem dX9_origin_65 : decode cX9_origin 65 = .ok (.istore 8, 2) := by decide +kernel
theorem dX9_origin_67 : decode cX9_origin 67 = .ok (.iload 8, 2) := by decide +kernel
theorem dX9_origin_69 : decode cX9_origin 69 = .ok (.iload 5, 2) := by decide +kernel
theorem dX9_origin_71 : decode cX9_origin 71 = .ok (.if_icmp .ge 62, 3) := by decide +kernel
theorem dX9_origin_74 : decode cX9_origin 74 = .ok (.aload_n 0, 1) := by decide +kernel
theorem dX9_origin_75 : decode cX9_origin 75 = .ok (.getfield 13, 3) := by decide +kernel
theorem dX9_origin_78 : decode cX9_origin 78 = .ok (.sipush 5021, 3) := by decide +kernel
theorem dX9_origin_81 : decode cX9_origin 81 = .ok (.iaload, 1) := by decide +kernel
theorem dX9_origin_82 : decode cX9_origin 82 = .ok (.ifCond .ne 13, 3) := by decide +kernel
theorem dX9_origin_85 : decode cX9_origin 85 = .ok (.iload 5, 2) := by decide +kernel
theorem dX9_origin_87 : decode cX9_origin 87 = .ok (.iconst 1, 1) := by decide +kernel
theorem dX9_origin_88 : decode cX9_origin 88 = .ok (.isub, 1) := by decide +kernel
theorem dX9_origin_89 : decode cX9_origin 89 = .ok (.iload 8, 2) := by decide +kernel
theorem dX9_origin_91 : decode cX9_origin 91 = .ok (.isub, 1) := by decide +kernel
theorem dX9_origin_92 : decode cX9_origin 92 = .ok (.goto 5, 3) := by decide +kernel
theorem dX9_origin_95 : decode cX9_origin 95 = .ok (.iload 8, 2) := by decide +kernel
theorem dX9_origin_97 : decode cX9_origin 97 = .ok (.istore 9, 2) := by decide +kernel
theorem dX9_origin_99 : decode cX9_origin 99 = .ok (.lload 6, 2) := by decide +kernel
theorem dX9_origin_101 : decode cX9_origin 101 = .ok (.lload_n 2, 1) := by decide +kernel
theorem dX9_origin_102 : decode cX9_origin 102 = .ok (.iload 9, 2) := by decide +kernel
theorem dX9_origin_104 : decode cX9_origin 104 = .ok (.lshr, 1) := by decide +kernel
theorem dX9_origin_105 : decode cX9_origin 105 = .ok (.lconst 1, 1) := by decide +kernel
theorem dX9_origin_106 : decode cX9_origin 106 = .ok (.land, 1) := by decide +kernel
theorem dX9_origin_107 : decode cX9_origin 107 = .ok (.lconst 1, 1) := by decide +kernel
theorem dX9_origin_108 : decode cX9_origin 108 = .ok (.lcmp, 1) := by decide +kernel
theorem dX9_origin_109 : decode cX9_origin 109 = .ok (.ifCond .ne 14, 3) := by decide +kernel
theorem dX9_origin_112 : decode cX9_origin 112 = .ok (.aload_n 0, 1) := by decide +kernel
theorem dX9_origin_113 : decode cX9_origin 113 = .ok (.iload 4, 2) := by decide +kernel
theorem dX9_origin_115 : decode cX9_origin 115 = .ok (.iload 8, 2) := by decide +kernel
theorem dX9_origin_117 : decode cX9_origin 117 = .ok (.invokevirtual 242, 3) := by decide +kernel
theorem dX9_origin_120 : decode cX9_origin 120 = .ok (.goto 4, 3) := by decide +kernel
theorem dX9_origin_123 : decode cX9_origin 123 = .ok (.lconst 0, 1) := by decide +kernel
theorem dX9_origin_124 : decode cX9_origin 124 = .ok (.lor, 1) := by decide +kernel
theorem dX9_origin_125 : decode cX9_origin 125 = .ok (.lstore 6, 2) := by decide +kernel
theorem dX9_origin_127 : decode cX9_origin 127 = .ok (.iinc 8 1, 3) := by decide +kernel
theorem dX9_origin_130 : decode cX9_origin 130 = .ok (.goto (-63), 3) := by decide +kernel
theorem dX9_origin_133 : decode cX9_origin 133 = .ok (.lload 6, 2) := by decide +kernel
theorem dX9_origin_135 : decode cX9_origin 135 = .ok (.lstore_n 2, 1) := by decide +kernel
theorem dX9_origin_136 : decode cX9_origin 136 = .ok (.iinc 4 (-1), 3) := by decide +kernel
theorem dX9_origin_139 : decode cX9_origin 139 = .ok (.goto (-91), 3) := by decide +kernel
theorem dX9_origin_142 : decode cX9_origin 142 = .ok (.lload_n 2, 1) := by decide +kernel
theorem dX9_origin_143 : decode cX9_origin 143 = .ok (.lreturn, 1) := by decide +kernel
theorem dX9_yarn_0 : decode cX9_yarn 0 = .ok (.lconst 0, 1) := by decide +kernel
theorem dX9_yarn_1 : decode cX9_yarn 1 = .ok (.lstore_n 1, 1) := by decide +kernel
theorem dX9_yarn_2 : decode cX9_yarn 2 = .ok (.iconst 0, 1) := by decide +kernel
theorem dX9_yarn_3 : decode cX9_yarn 3 = .ok (.istore_n 3, 1) := by decide +kernel
theorem dX9_yarn_4 : decode cX9_yarn 4 = .ok (.iload_n 3, 1) := by decide +kernel
theorem dX9_yarn_5 : decode cX9_yarn 5 = .ok (.aload_n 0, 1) := by decide +kernel
theorem dX9_yarn_6 : decode cX9_yarn 6 = .ok (.getfield 13, 3) := by decide +kernel
theorem dX9_yarn_9 : decode cX9_yarn 9 = .ok (.sipush 5025, 3) := by decide +kernel
theorem dX9_yarn_12 : decode cX9_yarn 12 = .ok (.iaload, 1) := by decide +kernel
theorem dX9_yarn_13 : decode cX9_yarn 13 = .ok (.if_icmp .ge 24, 3) := by decide +kernel
theorem dX9_yarn_16 : decode cX9_yarn 16 = .ok (.lload_n 1, 1) := by decide +kernel
theorem dX9_yarn_17 : decode cX9_yarn 17 = .ok (.aload_n 0, 1) := by decide +kernel
theorem dX9_yarn_18 : decode cX9_yarn 18 = .ok (.iload_n 3, 1) := by decide +kernel
theorem dX9_yarn_19 : decode cX9_yarn 19 = .ok (.aload_n 0, 1) := by decide +kernel
theorem dX9_yarn_20 : decode cX9_yarn 20 = .ok (.iload_n 3, 1) := by decide +kernel
theorem dX9_yarn_21 : decode cX9_yarn 21 = .ok (.invokevirtual 220, 3) := by decide +kernel
theorem dX9_yarn_24 : decode cX9_yarn 24 = .ok (.iconst 2, 1) := by decide +kernel
theorem dX9_yarn_25 : decode cX9_yarn 25 = .ok (.invokevirtual 223, 3) := by decide +kernel
theorem dX9_yarn_28 : decode cX9_yarn 28 = .ok (.i2l, 1) := by decide +kernel
theorem dX9_yarn_29 : decode cX9_yarn 29 = .ok (.ladd, 1) := by decide +kernel
theorem dX9_yarn_30 : decode cX9_yarn 30 = .ok (.lstore_n 1, 1) := by decide +kernel
theorem dX9_yarn_31 : decode cX9_yarn 31 = .ok (.iinc 3 1, 3) := by decide +kernel
theorem dX9_yarn_34 : decode cX9_yarn 34 = .ok (.goto (-30), 3) := by decide +kernel
theorem dX9_yarn_37 : decode cX9_yarn 37 = .ok (.lload_n 1, 1) := by decide +kernel
theorem dX9_yarn_38 : decode cX9_yarn 38 = .ok (.lreturn, 1) := by decide +kernel
theorem dX9_many_0 : decode cX9_many 0 = .ok (.iload_n 1, 1) := by decide +kernel
theorem dX9_many_1 : decode cX9_many 1 = .ok (.i2l, 1) := by decide +kernel
theorem dX9_many_2 : decode cX9_many 2 = .ok (.lconst 0, 1) := by decide +kernel
theorem dX9_many_3 : decode cX9_many 3 = .ok (.ldc2_w 246, 3) := by decide +kernel
theorem dX9_many_6 : decode cX9_many 6 = .ok (.invokestatic 56, 3) := by decide +kernel
theorem dX9_many_9 : decode cX9_many 9 = .ok (.ifCond .ne 10, 3) := by decide +kernel
theorem dX9_many_12 : decode cX9_many 12 = .ok (.aload_n 0, 1) := by decide +kernel
theorem dX9_many_13 : decode cX9_many 13 = .ok (.bipush (-92), 2) := by decide +kernel
theorem dX9_many_15 : decode cX9_many 15 = .ok (.invokevirtual 60, 3) := by decide +kernel
theorem dX9_many_18 : decode cX9_many 18 = .ok (.ireturn, 1) := by decide +kernel
theorem dX9_many_19 : decode cX9_many 19 = .ok (.iconst 0, 1) := by decide +kernel
theorem dX9_many_20 : decode cX9_many 20 = .ok (.istore_n 2, 1) := by decide +kernel
theorem dX9_many_21 : decode cX9_many 21 = .ok (.iconst 0, 1) := by decide +kernel
theorem dX9_many_22 : decode cX9_many 22 = .ok (.istore_n 3, 1) := by decide +kernel
theorem dX9_many_23 : decode cX9_many 23 = .ok (.iload_n 3, 1) := by decide +kernel
theorem dX9_many_24 : decode cX9_many 24 = .ok (.aload_n 0, 1) := by decide +kernel
theorem dX9_many_25 : decode cX9_many 25 = .ok (.getfield 13, 3) := by decide +kernel
theorem dX9_many_28 : decode cX9_many 28 = .ok (.sipush 5025, 3) := by decide +kernel
theorem dX9_many_31 : decode cX9_many 31 = .ok (.iaload, 1) := by decide +kernel
theorem dX9_many_32 : decode cX9_many 32 = .ok (.if_icmp .ge 50, 3) := by decide +kernel
theorem dX9_many_35 : decode cX9_many 35 = .ok (.iconst 0, 1) := by decide +kernel
theorem dX9_many_36 : decode cX9_many 36 = .ok (.istore 4, 2) := by decide +kernel
theorem dX9_many_38 : decode cX9_many 38 = .ok (.iload 4, 2) := by decide +kernel
theorem dX9_many_40 : decode cX9_many 40 = .ok (.aload_n 0, 1) := by decide +kernel
theorem dX9_many_41 : decode cX9_many 41 = .ok (.iload_n 3, 1) := by decide +kernel
theorem dX9_many_42 : decode cX9_many 42 = .ok (.invokevirtual 220, 3) := by decide +kernel
theorem dX9_many_45 : decode cX9_many 45 = .ok (.if_icmp .ge 31, 3) := by decide +kernel
theorem dX9_many_48 : decode cX9_many 48 = .ok (.iload_n 2, 1) := by decide +kernel
theorem dX9_many_49 : decode cX9_many 49 = .ok (.aload_n 0, 1) := by decide +kernel
theorem dX9_many_50 : decode cX9_many 50 = .ok (.iload_n 3, 1) := by decide +kernel
theorem dX9_many_51 : decode cX9_many 51 = .ok (.iload 4, 2) := by decide +kernel
theorem dX9_many_53 : decode cX9_many 53 = .ok (.invokevirtual 212, 3) := by decide +kernel
theorem dX9_many_56 : decode cX9_many 56 = .ok (.iload_n 1, 1) := by decide +kernel
theorem dX9_many_57 : decode cX9_many 57 = .ok (.invokestatic 248, 3) := by decide +kernel
theorem dX9_many_60 : decode cX9_many 60 = .ok (.ifCond .eq 7, 3) := by decide +kernel
theorem dX9_many_63 : decode cX9_many 63 = .ok (.iconst 1, 1) := by decide +kernel
theorem dX9_many_64 : decode cX9_many 64 = .ok (.goto 4, 3) := by decide +kernel
theorem dX9_many_67 : decode cX9_many 67 = .ok (.iconst 0, 1) := by decide +kernel
theorem dX9_many_68 : decode cX9_many 68 = .ok (.iadd, 1) := by decide +kernel
theorem dX9_many_69 : decode cX9_many 69 = .ok (.istore_n 2, 1) := by decide +kernel
theorem dX9_many_70 : decode cX9_many 70 = .ok (.iinc 4 1, 3) := by decide +kernel
theorem dX9_many_73 : decode cX9_many 73 = .ok (.goto (-35), 3) := by decide +kernel
theorem dX9_many_76 : decode cX9_many 76 = .ok (.iinc 3 1, 3) := by decide +kernel
theorem dX9_many_79 : decode cX9_many 79 = .ok (.goto (-56), 3) := by decide +kernel
theorem dX9_many_82 : decode cX9_many 82 = .ok (.iload_n 2, 1) := by decide +kernel
theorem dX9_many_83 : decode cX9_many 83 = .ok (.ireturn, 1) := by decide +kernel
theorem dX9_differ_0 : decode cX9_differ 0 = .ok (.aload_n 0, 1) := by decide +kernel
theorem dX9_differ_1 : decode cX9_differ 1 = .ok (.iload_n 1, 1) := by decide +kernel
theorem dX9_differ_2 : decode cX9_differ 2 = .ok (.invokevirtual 215, 3) := by decide +kernel
theorem dX9_differ_5 : decode cX9_differ 5 = .ok (.ifCond .eq 11, 3) := by decide +kernel
theorem dX9_differ_8 : decode cX9_differ 8 = .ok (.aload_n 0, 1) := by decide +kernel
theorem dX9_differ_9 : decode cX9_differ 9 = .ok (.iload_n 2, 1) := by decide +kernel
theorem dX9_differ_10 : decode cX9_differ 10 = .ok (.invokevirtual 215, 3) := by decide +kernel
theorem dX9_differ_13 : decode cX9_differ 13 = .ok (.ifCond .ne 10, 3) := by decide +kernel
theorem dX9_differ_16 : decode cX9_differ 16 = .ok (.aload_n 0, 1) := by decide +kernel
theorem dX9_differ_17 : decode cX9_differ 17 = .ok (.bipush (-92), 2) := by decide +kernel
theorem dX9_differ_19 : decode cX9_differ 19 = .ok (.invokevirtual 60, 3) := by decide +kernel
theorem dX9_differ_22 : decode cX9_differ 22 = .ok (.ireturn, 1) := by decide +kernel
theorem dX9_differ_23 : decode cX9_differ 23 = .ok (.aload_n 0, 1) := by decide +kernel
theorem dX9_differ_24 : decode cX9_differ 24 = .ok (.iload_n 1, 1) := by decide +kernel
theorem dX9_differ_25 : decode cX9_differ 25 = .ok (.invokevirtual 220, 3) := by decide +kernel
theorem dX9_differ_28 : decode cX9_differ 28 = .ok (.aload_n 0, 1) := by decide +kernel
theorem dX9_differ_29 : decode cX9_differ 29 = .ok (.iload_n 2, 1) := by decide +kernel
theorem dX9_differ_30 : decode cX9_differ 30 = .ok (.invokevirtual 220, 3) := by decide +kernel
theorem dX9_differ_33 : decode cX9_differ 33 = .ok (.invokestatic 103, 3) := by decide +kernel
theorem dX9_differ_36 : decode cX9_differ 36 = .ok (.istore_n 3, 1) := by decide +kernel
theorem dX9_differ_37 : decode cX9_differ 37 = .ok (.iconst 0, 1) := by decide +kernel
theorem dX9_differ_38 : decode cX9_differ 38 = .ok (.istore 4, 2) := by decide +kernel
theorem dX9_differ_40 : decode cX9_differ 40 = .ok (.iload 4, 2) := by decide +kernel
theorem dX9_differ_42 : decode cX9_differ 42 = .ok (.iload_n 3, 1) := by decide +kernel
theorem dX9_differ_43 : decode cX9_differ 43 = .ok (.if_icmp .ge 29, 3) := by decide +kernel
theorem dX9_differ_46 : decode cX9_differ 46 = .ok (.aload_n 0, 1) := by decide +kernel
theorem dX9_differ_47 : decode cX9_differ 47 = .ok (.iload_n 1, 1) := by decide +kernel
theorem dX9_differ_48 : decode cX9_differ 48 = .ok (.iload 4, 2) := by decide +kernel
theorem dX9_differ_50 : decode cX9_differ 50 = .ok (.invokevirtual 230, 3) := by decide +kernel
theorem dX9_differ_53 : decode cX9_differ 53 = .ok (.aload_n 0, 1) := by decide +kernel
theorem dX9_differ_54 : decode cX9_differ 54 = .ok (.iload_n 2, 1) := by decide +kernel
theorem dX9_differ_55 : decode cX9_differ 55 = .ok (.iload 4, 2) := by decide +kernel
theorem dX9_differ_57 : decode cX9_differ 57 = .ok (.invokevirtual 230, 3) := by decide +kernel
theorem dX9_differ_60 : decode cX9_differ 60 = .ok (.if_icmp .eq 6, 3) := by decide +kernel
theorem dX9_differ_63 : decode cX9_differ 63 = .ok (.iload 4, 2) := by decide +kernel
theorem dX9_differ_65 : decode cX9_differ 65 = .ok (.ireturn, 1) := by decide +kernel
theorem dX9_differ_66 : decode cX9_differ 66 = .ok (.iinc 4 1, 3) := by decide +kernel
theorem dX9_differ_69 : decode cX9_differ 69 = .ok (.goto (-29), 3) := by decide +kernel
theorem dX9_differ_72 : decode cX9_differ 72 = .ok (.iconst (-1), 1) := by decide +kernel
theorem dX9_differ_73 : decode cX9_differ 73 = .ok (.ireturn, 1) := by decide +kernel
theorem dX9_isShelf_0 : decode cX9_isShelf 0 = .ok (.iload_n 0, 1) := by decide +kernel
theorem dX9_isShelf_1 : decode cX9_isShelf 1 = .ok (.i2l, 1) := by decide +kernel
theorem dX9_isShelf_2 : decode cX9_isShelf 2 = .ok (.lconst 0, 1) := by decide +kernel
theorem dX9_isShelf_3 : decode cX9_isShelf 3 = .ok (.ldc2_w 252, 3) := by decide +kernel
theorem dX9_isShelf_6 : decode cX9_isShelf 6 = .ok (.invokestatic 56, 3) := by decide +kernel
theorem dX9_isShelf_9 : decode cX9_isShelf 9 = .ok (.ireturn, 1) := by decide +kernel
theorem dX9_amiss_0 : decode cX9_amiss 0 = .ok (.aload_n 0, 1) := by decide +kernel
theorem dX9_amiss_1 : decode cX9_amiss 1 = .ok (.getfield 37, 3) := by decide +kernel
theorem dX9_amiss_4 : decode cX9_amiss 4 = .ok (.iload_n 1, 1) := by decide +kernel
theorem dX9_amiss_5 : decode cX9_amiss 5 = .ok (.iaload, 1) := by decide +kernel
theorem dX9_amiss_6 : decode cX9_amiss 6 = .ok (.ifCond .ge 8, 3) := by decide +kernel
theorem dX9_amiss_9 : decode cX9_amiss 9 = .ok (.bipush (-94), 2) := by decide +kernel
theorem dX9_amiss_11 : decode cX9_amiss 11 = .ok (.goto 20, 3) := by decide +kernel
theorem dX9_amiss_14 : decode cX9_amiss 14 = .ok (.aload_n 0, 1) := by decide +kernel
theorem dX9_amiss_15 : decode cX9_amiss 15 = .ok (.getfield 37, 3) := by decide +kernel
theorem dX9_amiss_18 : decode cX9_amiss 18 = .ok (.iload_n 1, 1) := by decide +kernel
theorem dX9_amiss_19 : decode cX9_amiss 19 = .ok (.iaload, 1) := by decide +kernel
theorem dX9_amiss_20 : decode cX9_amiss 20 = .ok (.bipush 9, 2) := by decide +kernel
theorem dX9_amiss_22 : decode cX9_amiss 22 = .ok (.if_icmp .le 8, 3) := by decide +kernel
theorem dX9_amiss_25 : decode cX9_amiss 25 = .ok (.bipush (-93), 2) := by decide +kernel
theorem dX9_amiss_27 : decode cX9_amiss 27 = .ok (.goto 4, 3) := by decide +kernel
theorem dX9_amiss_30 : decode cX9_amiss 30 = .ok (.iconst 0, 1) := by decide +kernel
theorem dX9_amiss_31 : decode cX9_amiss 31 = .ok (.ireturn, 1) := by decide +kernel
theorem dX9_row_0 : decode cX9_row 0 = .ok (.iload_n 1, 1) := by decide +kernel
theorem dX9_row_1 : decode cX9_row 1 = .ok (.invokestatic 254, 3) := by decide +kernel
theorem dX9_row_4 : decode cX9_row 4 = .ok (.ifCond .eq 27, 3) := by decide +kernel
theorem dX9_row_7 : decode cX9_row 7 = .ok (.iload_n 2, 1) := by decide +kernel
theorem dX9_row_8 : decode cX9_row 8 = .ok (.i2l, 1) := by decide +kernel
theorem dX9_row_9 : decode cX9_row 9 = .ok (.lconst 0, 1) := by decide +kernel
theorem dX9_row_10 : decode cX9_row 10 = .ok (.ldc2_w 257, 3) := by decide +kernel
theorem dX9_row_13 : decode cX9_row 13 = .ok (.invokestatic 56, 3) := by decide +kernel
theorem dX9_row_16 : decode cX9_row 16 = .ok (.ifCond .eq 15, 3) := by decide +kernel
theorem dX9_row_19 : decode cX9_row 19 = .ok (.iload_n 3, 1) := by decide +kernel
theorem dX9_row_20 : decode cX9_row 20 = .ok (.i2l, 1) := by decide +kernel
theorem dX9_row_21 : decode cX9_row 21 = .ok (.lconst 0, 1) := by decide +kernel
theorem dX9_row_22 : decode cX9_row 22 = .ok (.ldc2_w 259, 3) := by decide +kernel
theorem dX9_row_25 : decode cX9_row 25 = .ok (.invokestatic 56, 3) := by decide +kernel
theorem dX9_row_28 : decode cX9_row 28 = .ok (.ifCond .ne 10, 3) := by decide +kernel
theorem dX9_row_31 : decode cX9_row 31 = .ok (.aload_n 0, 1) := by decide +kernel
theorem dX9_row_32 : decode cX9_row 32 = .ok (.bipush (-92), 2) := by decide +kernel
theorem dX9_row_34 : decode cX9_row 34 = .ok (.invokevirtual 60, 3) := by decide +kernel
theorem dX9_row_37 : decode cX9_row 37 = .ok (.ireturn, 1) := by decide +kernel
theorem dX9_row_38 : decode cX9_row 38 = .ok (.aload_n 0, 1) := by decide +kernel
theorem dX9_row_39 : decode cX9_row 39 = .ok (.getfield 37, 3) := by decide +kernel
theorem dX9_row_42 : decode cX9_row 42 = .ok (.iload_n 1, 1) := by decide +kernel
theorem dX9_row_43 : decode cX9_row 43 = .ok (.iload_n 2, 1) := by decide +kernel
theorem dX9_row_44 : decode cX9_row 44 = .ok (.iastore, 1) := by decide +kernel
theorem dX9_row_45 : decode cX9_row 45 = .ok (.aload_n 0, 1) := by decide +kernel
theorem dX9_row_46 : decode cX9_row 46 = .ok (.getfield 40, 3) := by decide +kernel
theorem dX9_row_49 : decode cX9_row 49 = .ok (.iload_n 1, 1) := by decide +kernel
theorem dX9_row_50 : decode cX9_row 50 = .ok (.iload_n 3, 1) := by decide +kernel
theorem dX9_row_51 : decode cX9_row 51 = .ok (.iastore, 1) := by decide +kernel
theorem dX9_row_52 : decode cX9_row 52 = .ok (.iconst 0, 1) := by decide +kernel
theorem dX9_row_53 : decode cX9_row 53 = .ok (.istore 4, 2) := by decide +kernel
theorem dX9_row_55 : decode cX9_row 55 = .ok (.iload 4, 2) := by decide +kernel
theorem dX9_row_57 : decode cX9_row 57 = .ok (.bipush 40, 2) := by decide +kernel
theorem dX9_row_59 : decode cX9_row 59 = .ok (.if_icmp .ge 22, 3) := by decide +kernel
theorem dX9_row_62 : decode cX9_row 62 = .ok (.aload_n 0, 1) := by decide +kernel
theorem dX9_row_63 : decode cX9_row 63 = .ok (.getfield 43, 3) := by decide +kernel
theorem dX9_row_66 : decode cX9_row 66 = .ok (.bipush 40, 2) := by decide +kernel
theorem dX9_row_68 : decode cX9_row 68 = .ok (.iload_n 1, 1) := by decide +kernel
theorem dX9_row_69 : decode cX9_row 69 = .ok (.imul, 1) := by decide +kernel
theorem dX9_row_70 : decode cX9_row 70 = .ok (.iload 4, 2) := by decide +kernel
theorem dX9_row_72 : decode cX9_row 72 = .ok (.iadd, 1) := by decide +kernel
theorem dX9_row_73 : decode cX9_row 73 = .ok (.lconst 0, 1) := by decide +kernel
theorem dX9_row_74 : decode cX9_row 74 = .ok (.lastore, 1) := by decide +kernel
theorem dX9_row_75 : decode cX9_row 75 = .ok (.iinc 4 1, 3) := by decide +kernel
theorem dX9_row_78 : decode cX9_row 78 = .ok (.goto (-23), 3) := by decide +kernel
theorem dX9_row_81 : decode cX9_row 81 = .ok (.iconst 1, 1) := by decide +kernel
theorem dX9_row_82 : decode cX9_row 82 = .ok (.ireturn, 1) := by decide +kernel
theorem dX9_set_0 : decode cX9_set 0 = .ok (.iload_n 1, 1) := by decide +kernel
theorem dX9_set_1 : decode cX9_set 1 = .ok (.invokestatic 254, 3) := by decide +kernel
theorem dX9_set_4 : decode cX9_set 4 = .ok (.ifCond .eq 11, 3) := by decide +kernel
theorem dX9_set_7 : decode cX9_set 7 = .ok (.aload_n 0, 1) := by decide +kernel
theorem dX9_set_8 : decode cX9_set 8 = .ok (.iload_n 1, 1) := by decide +kernel
theorem dX9_set_9 : decode cX9_set 9 = .ok (.invokevirtual 261, 3) := by decide +kernel
theorem dX9_set_12 : decode cX9_set 12 = .ok (.goto 5, 3) := by decide +kernel
theorem dX9_set_15 : decode cX9_set 15 = .ok (.bipush (-92), 2) := by decide +kernel
theorem dX9_set_17 : decode cX9_set 17 = .ok (.istore 5, 2) := by decide +kernel
theorem dX9_set_19 : decode cX9_set 19 = .ok (.iload 5, 2) := by decide +kernel
theorem dX9_set_21 : decode cX9_set 21 = .ok (.ifCond .ne 21, 3) := by decide +kernel
theorem dX9_set_24 : decode cX9_set 24 = .ok (.iload_n 2, 1) := by decide +kernel
theorem dX9_set_25 : decode cX9_set 25 = .ok (.i2l, 1) := by decide +kernel
theorem dX9_set_26 : decode cX9_set 26 = .ok (.lconst 0, 1) := by decide +kernel
theorem dX9_set_27 : decode cX9_set 27 = .ok (.aload_n 0, 1) := by decide +kernel
theorem dX9_set_28 : decode cX9_set 28 = .ok (.getfield 40, 3) := by decide +kernel
theorem dX9_set_31 : decode cX9_set 31 = .ok (.iload_n 1, 1) := by decide +kernel
theorem dX9_set_32 : decode cX9_set 32 = .ok (.iaload, 1) := by decide +kernel
theorem dX9_set_33 : decode cX9_set 33 = .ok (.iconst 1, 1) := by decide +kernel
theorem dX9_set_34 : decode cX9_set 34 = .ok (.isub, 1) := by decide +kernel
theorem dX9_set_35 : decode cX9_set 35 = .ok (.i2l, 1) := by decide +kernel
theorem dX9_set_36 : decode cX9_set 36 = .ok (.invokestatic 56, 3) := by decide +kernel
theorem dX9_set_39 : decode cX9_set 39 = .ok (.ifCond .ne 20, 3) := by decide +kernel
theorem dX9_set_42 : decode cX9_set 42 = .ok (.aload_n 0, 1) := by decide +kernel
theorem dX9_set_43 : decode cX9_set 43 = .ok (.iload 5, 2) := by decide +kernel
theorem dX9_set_45 : decode cX9_set 45 = .ok (.ifCond .eq 8, 3) := by decide +kernel
theorem dX9_set_48 : decode cX9_set 48 = .ok (.iload 5, 2) := by decide +kernel
theorem dX9_set_50 : decode cX9_set 50 = .ok (.goto 5, 3) := by decide +kernel
theorem dX9_set_53 : decode cX9_set 53 = .ok (.bipush (-92), 2) := by decide +kernel
theorem dX9_set_55 : decode cX9_set 55 = .ok (.invokevirtual 60, 3) := by decide +kernel
theorem dX9_set_58 : decode cX9_set 58 = .ok (.ireturn, 1) := by decide +kernel
theorem dX9_set_59 : decode cX9_set 59 = .ok (.aload_n 0, 1) := by decide +kernel
theorem dX9_set_60 : decode cX9_set 60 = .ok (.getfield 37, 3) := by decide +kernel
theorem dX9_set_63 : decode cX9_set 63 = .ok (.iload_n 1, 1) := by decide +kernel
theorem dX9_set_64 : decode cX9_set 64 = .ok (.iaload, 1) := by decide +kernel
theorem dX9_set_65 : decode cX9_set 65 = .ok (.istore 6, 2) := by decide +kernel
theorem dX9_set_67 : decode cX9_set 67 = .ok (.aload_n 0, 1) := by decide +kernel
theorem dX9_set_68 : decode cX9_set 68 = .ok (.getfield 43, 3) := by decide +kernel
theorem dX9_set_71 : decode cX9_set 71 = .ok (.bipush 40, 2) := by decide +kernel
theorem dX9_set_73 : decode cX9_set 73 = .ok (.iload_n 1, 1) := by decide +kernel
theorem dX9_set_74 : decode cX9_set 74 = .ok (.imul, 1) := by decide +kernel
theorem dX9_set_75 : decode cX9_set 75 = .ok (.iload_n 2, 1) := by decide +kernel
theorem dX9_set_76 : decode cX9_set 76 = .ok (.iadd, 1) := by decide +kernel
theorem dX9_set_77 : decode cX9_set 77 = .ok (.iload 6, 2) := by decide +kernel
theorem dX9_set_79 : decode cX9_set 79 = .ok (.ifCond .ne 10, 3) := by decide +kernel
theorem dX9_set_82 : decode cX9_set 82 = .ok (.lload_n 3, 1) := by decide +kernel
theorem dX9_set_83 : decode cX9_set 83 = .ok (.l2i, 1) := by decide +kernel
theorem dX9_set_84 : decode cX9_set 84 = .ok (.i2b, 1) := by decide +kernel
theorem dX9_set_85 : decode cX9_set 85 = .ok (.i2l, 1) := by decide +kernel
theorem dX9_set_86 : decode cX9_set 86 = .ok (.goto 49, 3) := by decide +kernel
theorem dX9_set_89 : decode cX9_set 89 = .ok (.iload 6, 2) := by decide +kernel
theorem dX9_set_91 : decode cX9_set 91 = .ok (.iconst 1, 1) := by decide +kernel
theorem dX9_set_92 : decode cX9_set 92 = .ok (.if_icmp .ne 10, 3) := by decide +kernel
theorem dX9_set_95 : decode cX9_set 95 = .ok (.lload_n 3, 1) := by decide +kernel
theorem dX9_set_96 : decode cX9_set 96 = .ok (.l2i, 1) := by decide +kernel
theorem dX9_set_97 : decode cX9_set 97 = .ok (.i2s, 1) := by decide +kernel
theorem dX9_set_98 : decode cX9_set 98 = .ok (.i2l, 1) := by decide +kernel
theorem dX9_set_99 : decode cX9_set 99 = .ok (.goto 36, 3) := by decide +kernel
theorem dX9_set_102 : decode cX9_set 102 = .ok (.iload 6, 2) := by decide +kernel
theorem dX9_set_104 : decode cX9_set 104 = .ok (.iconst 2, 1) := by decide +kernel
theorem dX9_set_105 : decode cX9_set 105 = .ok (.if_icmp .ne 9, 3) := by decide +kernel
theorem dX9_set_108 : decode cX9_set 108 = .ok (.lload_n 3, 1) := by decide +kernel
theorem dX9_set_109 : decode cX9_set 109 = .ok (.l2i, 1) := by decide +kernel
theorem dX9_set_110 : decode cX9_set 110 = .ok (.i2l, 1) := by decide +kernel
theorem dX9_set_111 : decode cX9_set 111 = .ok (.goto 24, 3) := by decide +kernel
theorem dX9_set_114 : decode cX9_set 114 = .ok (.iload 6, 2) := by decide +kernel
theorem dX9_set_116 : decode cX9_set 116 = .ok (.iconst 3, 1) := by decide +kernel
theorem dX9_set_117 : decode cX9_set 117 = .ok (.if_icmp .ne 7, 3) := by decide +kernel
theorem dX9_set_120 : decode cX9_set 120 = .ok (.lload_n 3, 1) := by decide +kernel
theorem dX9_set_121 : decode cX9_set 121 = .ok (.goto 14, 3) := by decide +kernel
theorem dX9_set_124 : decode cX9_set 124 = .ok (.lload_n 3, 1) := by decide +kernel
theorem dX9_set_125 : decode cX9_set 125 = .ok (.lconst 0, 1) := by decide +kernel
theorem dX9_set_126 : decode cX9_set 126 = .ok (.lcmp, 1) := by decide +kernel
theorem dX9_set_127 : decode cX9_set 127 = .ok (.ifCond .eq 7, 3) := by decide +kernel
theorem dX9_set_130 : decode cX9_set 130 = .ok (.lconst 1, 1) := by decide +kernel
theorem dX9_set_131 : decode cX9_set 131 = .ok (.goto 4, 3) := by decide +kernel
theorem dX9_set_134 : decode cX9_set 134 = .ok (.lconst 0, 1) := by decide +kernel
theorem dX9_set_135 : decode cX9_set 135 = .ok (.lastore, 1) := by decide +kernel
theorem dX9_set_136 : decode cX9_set 136 = .ok (.iconst 1, 1) := by decide +kernel
theorem dX9_set_137 : decode cX9_set 137 = .ok (.ireturn, 1) := by decide +kernel
theorem dX9_copy_0 : decode cX9_copy 0 = .ok (.iload_n 1, 1) := by decide +kernel
theorem dX9_copy_1 : decode cX9_copy 1 = .ok (.invokestatic 254, 3) := by decide +kernel
theorem dX9_copy_4 : decode cX9_copy 4 = .ok (.ifCond .eq 10, 3) := by decide +kernel
theorem dX9_copy_7 : decode cX9_copy 7 = .ok (.iload_n 2, 1) := by decide +kernel
theorem dX9_copy_8 : decode cX9_copy 8 = .ok (.invokestatic 254, 3) := by decide +kernel
theorem dX9_copy_11 : decode cX9_copy 11 = .ok (.ifCond .ne 10, 3) := by decide +kernel
theorem dX9_copy_14 : decode cX9_copy 14 = .ok (.aload_n 0, 1) := by decide +kernel
theorem dX9_copy_15 : decode cX9_copy 15 = .ok (.bipush (-92), 2) := by decide +kernel
theorem dX9_copy_17 : decode cX9_copy 17 = .ok (.invokevirtual 60, 3) := by decide +kernel
theorem dX9_copy_20 : decode cX9_copy 20 = .ok (.ireturn, 1) := by decide +kernel
theorem dX9_copy_21 : decode cX9_copy 21 = .ok (.aload_n 0, 1) := by decide +kernel
theorem dX9_copy_22 : decode cX9_copy 22 = .ok (.iload_n 1, 1) := by decide +kernel
theorem dX9_copy_23 : decode cX9_copy 23 = .ok (.invokevirtual 261, 3) := by decide +kernel
theorem dX9_copy_26 : decode cX9_copy 26 = .ok (.istore 6, 2) := by decide +kernel
theorem dX9_copy_28 : decode cX9_copy 28 = .ok (.aload_n 0, 1) := by decide +kernel
theorem dX9_copy_29 : decode cX9_copy 29 = .ok (.iload_n 2, 1) := by decide +kernel
theorem dX9_copy_30 : decode cX9_copy 30 = .ok (.invokevirtual 261, 3) := by decide +kernel
theorem dX9_copy_33 : decode cX9_copy 33 = .ok (.istore 7, 2) := by decide +kernel
theorem dX9_copy_35 : decode cX9_copy 35 = .ok (.iload 6, 2) := by decide +kernel
theorem dX9_copy_37 : decode cX9_copy 37 = .ok (.bipush (-93), 2) := by decide +kernel
theorem dX9_copy_39 : decode cX9_copy 39 = .ok (.if_icmp .eq 35, 3) := by decide +kernel
theorem dX9_copy_42 : decode cX9_copy 42 = .ok (.iload 7, 2) := by decide +kernel
theorem dX9_copy_44 : decode cX9_copy 44 = .ok (.bipush (-93), 2) := by decide +kernel
theorem dX9_copy_46 : decode cX9_copy 46 = .ok (.if_icmp .eq 28, 3) := by decide +kernel
theorem dX9_copy_49 : decode cX9_copy 49 = .ok (.iload 6, 2) := by decide +kernel
theorem dX9_copy_51 : decode cX9_copy 51 = .ok (.ifCond .ne 30, 3) := by decide +kernel
theorem dX9_copy_54 : decode cX9_copy 54 = .ok (.iload 7, 2) := by decide +kernel
theorem dX9_copy_56 : decode cX9_copy 56 = .ok (.ifCond .ne 25, 3) := by decide +kernel
theorem dX9_copy_59 : decode cX9_copy 59 = .ok (.aload_n 0, 1) := by decide +kernel
theorem dX9_copy_60 : decode cX9_copy 60 = .ok (.getfield 37, 3) := by decide +kernel
theorem dX9_copy_63 : decode cX9_copy 63 = .ok (.iload_n 1, 1) := by decide +kernel
theorem dX9_copy_64 : decode cX9_copy 64 = .ok (.iaload, 1) := by decide +kernel
theorem dX9_copy_65 : decode cX9_copy 65 = .ok (.aload_n 0, 1) := by decide +kernel
theorem dX9_copy_66 : decode cX9_copy 66 = .ok (.getfield 37, 3) := by decide +kernel
theorem dX9_copy_69 : decode cX9_copy 69 = .ok (.iload_n 2, 1) := by decide +kernel
theorem dX9_copy_70 : decode cX9_copy 70 = .ok (.iaload, 1) := by decide +kernel
theorem dX9_copy_71 : decode cX9_copy 71 = .ok (.if_icmp .eq 10, 3) := by decide +kernel
theorem dX9_copy_74 : decode cX9_copy 74 = .ok (.aload_n 0, 1) := by decide +kernel
theorem dX9_copy_75 : decode cX9_copy 75 = .ok (.bipush (-93), 2) := by decide +kernel
theorem dX9_copy_77 : decode cX9_copy 77 = .ok (.invokevirtual 60, 3) := by decide +kernel
theorem dX9_copy_80 : decode cX9_copy 80 = .ok (.ireturn, 1) := by decide +kernel
theorem dX9_copy_81 : decode cX9_copy 81 = .ok (.iload 6, 2) := by decide +kernel
theorem dX9_copy_83 : decode cX9_copy 83 = .ok (.ifCond .ne 8, 3) := by decide +kernel
theorem dX9_copy_86 : decode cX9_copy 86 = .ok (.iload 7, 2) := by decide +kernel
theorem dX9_copy_88 : decode cX9_copy 88 = .ok (.ifCond .eq 10, 3) := by decide +kernel
theorem dX9_copy_91 : decode cX9_copy 91 = .ok (.aload_n 0, 1) := by decide +kernel
theorem dX9_copy_92 : decode cX9_copy 92 = .ok (.bipush (-94), 2) := by decide +kernel
theorem dX9_copy_94 : decode cX9_copy 94 = .ok (.invokevirtual 60, 3) := by decide +kernel
theorem dX9_copy_97 : decode cX9_copy 97 = .ok (.ireturn, 1) := by decide +kernel
theorem dX9_copy_98 : decode cX9_copy 98 = .ok (.iload 5, 2) := by decide +kernel
theorem dX9_copy_100 : decode cX9_copy 100 = .ok (.ifCond .lt 39, 3) := by decide +kernel
theorem dX9_copy_103 : decode cX9_copy 103 = .ok (.iload_n 3, 1) := by decide +kernel
theorem dX9_copy_104 : decode cX9_copy 104 = .ok (.ifCond .lt 35, 3) := by decide +kernel
theorem dX9_copy_107 : decode cX9_copy 107 = .ok (.iload 4, 2) := by decide +kernel
theorem dX9_copy_109 : decode cX9_copy 109 = .ok (.ifCond .lt 30, 3) := by decide +kernel
theorem dX9_copy_112 : decode cX9_copy 112 = .ok (.iload 5, 2) := by decide +kernel
theorem dX9_copy_114 : decode cX9_copy 114 = .ok (.aload_n 0, 1) := by decide +kernel
theorem dX9_copy_115 : decode cX9_copy 115 = .ok (.getfield 40, 3) := by decide +kernel
theorem dX9_copy_118 : decode cX9_copy 118 = .ok (.iload_n 1, 1) := by decide +kernel
theorem dX9_copy_119 : decode cX9_copy 119 = .ok (.iaload, 1) := by decide +kernel
theorem dX9_copy_120 : decode cX9_copy 120 = .ok (.iload_n 3, 1) := by decide +kernel
theorem dX9_copy_121 : decode cX9_copy 121 = .ok (.isub, 1) := by decide +kernel
theorem dX9_copy_122 : decode cX9_copy 122 = .ok (.if_icmp .gt 17, 3) := by decide +kernel
theorem dX9_copy_125 : decode cX9_copy 125 = .ok (.iload 5, 2) := by decide +kernel
theorem dX9_copy_127 : decode cX9_copy 127 = .ok (.aload_n 0, 1) := by decide +kernel
theorem dX9_copy_128 : decode cX9_copy 128 = .ok (.getfield 40, 3) := by decide +kernel
theorem dX9_copy_131 : decode cX9_copy 131 = .ok (.iload_n 2, 1) := by decide +kernel
theorem dX9_copy_132 : decode cX9_copy 132 = .ok (.iaload, 1) := by decide +kernel
theorem dX9_copy_133 : decode cX9_copy 133 = .ok (.iload 4, 2) := by decide +kernel
theorem dX9_copy_135 : decode cX9_copy 135 = .ok (.isub, 1) := by decide +kernel
theorem dX9_copy_136 : decode cX9_copy 136 = .ok (.if_icmp .le 10, 3) := by decide +kernel
theorem dX9_copy_139 : decode cX9_copy 139 = .ok (.aload_n 0, 1) := by decide +kernel
theorem dX9_copy_140 : decode cX9_copy 140 = .ok (.bipush (-92), 2) := by decide +kernel
theorem dX9_copy_142 : decode cX9_copy 142 = .ok (.invokevirtual 60, 3) := by decide +kernel
theorem dX9_copy_145 : decode cX9_copy 145 = .ok (.ireturn, 1) := by decide +kernel
theorem dX9_copy_146 : decode cX9_copy 146 = .ok (.iconst 0, 1) := by decide +kernel
theorem dX9_copy_147 : decode cX9_copy 147 = .ok (.istore 8, 2) := by decide +kernel
theorem dX9_copy_149 : decode cX9_copy 149 = .ok (.iload 8, 2) := by decide +kernel
theorem dX9_copy_151 : decode cX9_copy 151 = .ok (.iload 5, 2) := by decide +kernel
theorem dX9_copy_153 : decode cX9_copy 153 = .ok (.if_icmp .ge 30, 3) := by decide +kernel
theorem dX9_copy_156 : decode cX9_copy 156 = .ok (.aload_n 0, 1) := by decide +kernel
theorem dX9_copy_157 : decode cX9_copy 157 = .ok (.getfield 47, 3) := by decide +kernel
theorem dX9_copy_160 : decode cX9_copy 160 = .ok (.iload 8, 2) := by decide +kernel
theorem dX9_copy_162 : decode cX9_copy 162 = .ok (.aload_n 0, 1) := by decide +kernel
theorem dX9_copy_163 : decode cX9_copy 163 = .ok (.getfield 43, 3) := by decide +kernel
theorem dX9_copy_166 : decode cX9_copy 166 = .ok (.bipush 40, 2) := by decide +kernel
theorem dX9_copy_168 : decode cX9_copy 168 = .ok (.iload_n 1, 1) := by decide +kernel
theorem dX9_copy_169 : decode cX9_copy 169 = .ok (.imul, 1) := by decide +kernel
theorem dX9_copy_170 : decode cX9_copy 170 = .ok (.iload_n 3, 1) := by decide +kernel
theorem dX9_copy_171 : decode cX9_copy 171 = .ok (.iadd, 1) := by decide +kernel
theorem dX9_copy_172 : decode cX9_copy 172 = .ok (.iload 8, 2) := by decide +kernel
theorem dX9_copy_174 : decode cX9_copy 174 = .ok (.iadd, 1) := by decide +kernel
theorem dX9_copy_175 : decode cX9_copy 175 = .ok (.laload, 1) := by decide +kernel
theorem dX9_copy_176 : decode cX9_copy 176 = .ok (.lastore, 1) := by decide +kernel
theorem dX9_copy_177 : decode cX9_copy 177 = .ok (.iinc 8 1, 3) := by decide +kernel
theorem dX9_copy_180 : decode cX9_copy 180 = .ok (.goto (-31), 3) := by decide +kernel
theorem dX9_copy_183 : decode cX9_copy 183 = .ok (.iconst 0, 1) := by decide +kernel
theorem dX9_copy_184 : decode cX9_copy 184 = .ok (.istore 8, 2) := by decide +kernel
theorem dX9_copy_186 : decode cX9_copy 186 = .ok (.iload 8, 2) := by decide +kernel
theorem dX9_copy_188 : decode cX9_copy 188 = .ok (.iload 5, 2) := by decide +kernel
theorem dX9_copy_190 : decode cX9_copy 190 = .ok (.if_icmp .ge 31, 3) := by decide +kernel
theorem dX9_copy_193 : decode cX9_copy 193 = .ok (.aload_n 0, 1) := by decide +kernel
theorem dX9_copy_194 : decode cX9_copy 194 = .ok (.getfield 43, 3) := by decide +kernel
theorem dX9_copy_197 : decode cX9_copy 197 = .ok (.bipush 40, 2) := by decide +kernel
theorem dX9_copy_199 : decode cX9_copy 199 = .ok (.iload_n 2, 1) := by decide +kernel
theorem dX9_copy_200 : decode cX9_copy 200 = .ok (.imul, 1) := by decide +kernel
theorem dX9_copy_201 : decode cX9_copy 201 = .ok (.iload 4, 2) := by decide +kernel
theorem dX9_copy_203 : decode cX9_copy 203 = .ok (.iadd, 1) := by decide +kernel
theorem dX9_copy_204 : decode cX9_copy 204 = .ok (.iload 8, 2) := by decide +kernel
theorem dX9_copy_206 : decode cX9_copy 206 = .ok (.iadd, 1) := by decide +kernel
theorem dX9_copy_207 : decode cX9_copy 207 = .ok (.aload_n 0, 1) := by decide +kernel
theorem dX9_copy_208 : decode cX9_copy 208 = .ok (.getfield 47, 3) := by decide +kernel
theorem dX9_copy_211 : decode cX9_copy 211 = .ok (.iload 8, 2) := by decide +kernel
theorem dX9_copy_213 : decode cX9_copy 213 = .ok (.laload, 1) := by decide +kernel
theorem dX9_copy_214 : decode cX9_copy 214 = .ok (.lastore, 1) := by decide +kernel
theorem dX9_copy_215 : decode cX9_copy 215 = .ok (.iinc 8 1, 3) := by decide +kernel
theorem dX9_copy_218 : decode cX9_copy 218 = .ok (.goto (-32), 3) := by decide +kernel
theorem dX9_copy_221 : decode cX9_copy 221 = .ok (.iload 5, 2) := by decide +kernel
theorem dX9_copy_223 : decode cX9_copy 223 = .ok (.ireturn, 1) := by decide +kernel
theorem dX9_element_0 : decode cX9_element 0 = .ok (.iload_n 1, 1) := by decide +kernel
theorem dX9_element_1 : decode cX9_element 1 = .ok (.invokestatic 254, 3) := by decide +kernel
theorem dX9_element_4 : decode cX9_element 4 = .ok (.ifCond .eq 43, 3) := by decide +kernel
theorem dX9_element_7 : decode cX9_element 7 = .ok (.aload_n 0, 1) := by decide +kernel
theorem dX9_element_8 : decode cX9_element 8 = .ok (.iload_n 1, 1) := by decide +kernel
theorem dX9_element_9 : decode cX9_element 9 = .ok (.invokevirtual 261, 3) := by decide +kernel
theorem dX9_element_12 : decode cX9_element 12 = .ok (.ifCond .ne 35, 3) := by decide +kernel
theorem dX9_element_15 : decode cX9_element 15 = .ok (.iload_n 2, 1) := by decide +kernel
theorem dX9_element_16 : decode cX9_element 16 = .ok (.i2l, 1) := by decide +kernel
theorem dX9_element_17 : decode cX9_element 17 = .ok (.lconst 0, 1) := by decide +kernel
theorem dX9_element_18 : decode cX9_element 18 = .ok (.aload_n 0, 1) := by decide +kernel
theorem dX9_element_19 : decode cX9_element 19 = .ok (.getfield 40, 3) := by decide +kernel
theorem dX9_element_22 : decode cX9_element 22 = .ok (.iload_n 1, 1) := by decide +kernel
theorem dX9_element_23 : decode cX9_element 23 = .ok (.iaload, 1) := by decide +kernel
theorem dX9_element_24 : decode cX9_element 24 = .ok (.iconst 1, 1) := by decide +kernel
theorem dX9_element_25 : decode cX9_element 25 = .ok (.isub, 1) := by decide +kernel
theorem dX9_element_26 : decode cX9_element 26 = .ok (.i2l, 1) := by decide +kernel
theorem dX9_element_27 : decode cX9_element 27 = .ok (.invokestatic 56, 3) := by decide +kernel
theorem dX9_element_30 : decode cX9_element 30 = .ok (.ifCond .eq 17, 3) := by decide +kernel
theorem dX9_element_33 : decode cX9_element 33 = .ok (.aload_n 0, 1) := by decide +kernel
theorem dX9_element_34 : decode cX9_element 34 = .ok (.getfield 43, 3) := by decide +kernel
theorem dX9_element_37 : decode cX9_element 37 = .ok (.bipush 40, 2) := by decide +kernel
theorem dX9_element_39 : decode cX9_element 39 = .ok (.iload_n 1, 1) := by decide +kernel
theorem dX9_element_40 : decode cX9_element 40 = .ok (.imul, 1) := by decide +kernel
theorem dX9_element_41 : decode cX9_element 41 = .ok (.iload_n 2, 1) := by decide +kernel
theorem dX9_element_42 : decode cX9_element 42 = .ok (.iadd, 1) := by decide +kernel
theorem dX9_element_43 : decode cX9_element 43 = .ok (.laload, 1) := by decide +kernel
theorem dX9_element_44 : decode cX9_element 44 = .ok (.goto 4, 3) := by decide +kernel
theorem dX9_element_47 : decode cX9_element 47 = .ok (.lconst 0, 1) := by decide +kernel
theorem dX9_element_48 : decode cX9_element 48 = .ok (.lreturn, 1) := by decide +kernel
theorem dX9_holds_0 : decode cX9_holds 0 = .ok (.iload_n 1, 1) := by decide +kernel
theorem dX9_holds_1 : decode cX9_holds 1 = .ok (.invokestatic 254, 3) := by decide +kernel
theorem dX9_holds_4 : decode cX9_holds 4 = .ok (.ifCond .eq 12, 3) := by decide +kernel
theorem dX9_holds_7 : decode cX9_holds 7 = .ok (.aload_n 0, 1) := by decide +kernel
theorem dX9_holds_8 : decode cX9_holds 8 = .ok (.getfield 37, 3) := by decide +kernel
theorem dX9_holds_11 : decode cX9_holds 11 = .ok (.iload_n 1, 1) := by decide +kernel
theorem dX9_holds_12 : decode cX9_holds 12 = .ok (.iaload, 1) := by decide +kernel
theorem dX9_holds_13 : decode cX9_holds 13 = .ok (.goto 4, 3) := by decide +kernel
theorem dX9_holds_16 : decode cX9_holds 16 = .ok (.iconst (-1), 1) := by decide +kernel
theorem dX9_holds_17 : decode cX9_holds 17 = .ok (.ireturn, 1) := by decide +kernel
theorem dX9_show_0 : decode cX9_show 0 = .ok (.iload_n 1, 1) := by decide +kernel
theorem dX9_show_1 : decode cX9_show 1 = .ok (.invokestatic 254, 3) := by decide +kernel
theorem dX9_show_4 : decode cX9_show 4 = .ok (.ifCond .eq 33, 3) := by decide +kernel
theorem dX9_show_7 : decode cX9_show 7 = .ok (.iload_n 2, 1) := by decide +kernel
theorem dX9_show_8 : decode cX9_show 8 = .ok (.iconst (-1), 1) := by decide +kernel
theorem dX9_show_9 : decode cX9_show 9 = .ok (.if_icmp .eq 35, 3) := by decide +kernel
theorem dX9_show_12 : decode cX9_show 12 = .ok (.aload_n 0, 1) := by decide +kernel
theorem dX9_show_13 : decode cX9_show 13 = .ok (.iload_n 2, 1) := by decide +kernel
theorem dX9_show_14 : decode cX9_show 14 = .ok (.invokevirtual 215, 3) := by decide +kernel
theorem dX9_show_17 : decode cX9_show 17 = .ok (.ifCond .eq 20, 3) := by decide +kernel
theorem dX9_show_20 : decode cX9_show 20 = .ok (.iload_n 3, 1) := by decide +kernel
theorem dX9_show_21 : decode cX9_show 21 = .ok (.i2l, 1) := by decide +kernel
theorem dX9_show_22 : decode cX9_show 22 = .ok (.lconst 0, 1) := by decide +kernel
theorem dX9_show_23 : decode cX9_show 23 = .ok (.aload_n 0, 1) := by decide +kernel
theorem dX9_show_24 : decode cX9_show 24 = .ok (.iload_n 2, 1) := by decide +kernel
theorem dX9_show_25 : decode cX9_show 25 = .ok (.invokevirtual 220, 3) := by decide +kernel
theorem dX9_show_28 : decode cX9_show 28 = .ok (.iconst 1, 1) := by decide +kernel
theorem dX9_show_29 : decode cX9_show 29 = .ok (.isub, 1) := by decide +kernel
theorem dX9_show_30 : decode cX9_show 30 = .ok (.i2l, 1) := by decide +kernel
theorem dX9_show_31 : decode cX9_show 31 = .ok (.invokestatic 56, 3) := by decide +kernel
theorem dX9_show_34 : decode cX9_show 34 = .ok (.ifCond .ne 10, 3) := by decide +kernel
theorem dX9_show_37 : decode cX9_show 37 = .ok (.aload_n 0, 1) := by decide +kernel
theorem dX9_show_38 : decode cX9_show 38 = .ok (.bipush (-92), 2) := by decide +kernel
theorem dX9_show_40 : decode cX9_show 40 = .ok (.invokevirtual 60, 3) := by decide +kernel
theorem dX9_show_43 : decode cX9_show 43 = .ok (.ireturn, 1) := by decide +kernel
theorem dX9_show_44 : decode cX9_show 44 = .ok (.aload_n 0, 1) := by decide +kernel
theorem dX9_show_45 : decode cX9_show 45 = .ok (.getfield 37, 3) := by decide +kernel
theorem dX9_show_48 : decode cX9_show 48 = .ok (.iload_n 1, 1) := by decide +kernel
theorem dX9_show_49 : decode cX9_show 49 = .ok (.iload_n 2, 1) := by decide +kernel
theorem dX9_show_50 : decode cX9_show 50 = .ok (.iconst (-1), 1) := by decide +kernel
theorem dX9_show_51 : decode cX9_show 51 = .ok (.if_icmp .ne 7, 3) := by decide +kernel
theorem dX9_show_54 : decode cX9_show 54 = .ok (.iconst (-1), 1) := by decide +kernel
theorem dX9_show_55 : decode cX9_show 55 = .ok (.goto 12, 3) := by decide +kernel
theorem dX9_show_58 : decode cX9_show 58 = .ok (.bipush 10, 2) := by decide +kernel
theorem dX9_show_60 : decode cX9_show 60 = .ok (.aload_n 0, 1) := by decide +kernel
theorem dX9_show_61 : decode cX9_show 61 = .ok (.iload_n 2, 1) := by decide +kernel
theorem dX9_show_62 : decode cX9_show 62 = .ok (.iload_n 3, 1) := by decide +kernel
theorem dX9_show_63 : decode cX9_show 63 = .ok (.invokevirtual 212, 3) := by decide +kernel
theorem dX9_show_66 : decode cX9_show 66 = .ok (.iadd, 1) := by decide +kernel
theorem dX9_show_67 : decode cX9_show 67 = .ok (.iastore, 1) := by decide +kernel
theorem dX9_show_68 : decode cX9_show 68 = .ok (.iconst 1, 1) := by decide +kernel
theorem dX9_show_69 : decode cX9_show 69 = .ok (.ireturn, 1) := by decide +kernel
theorem dX9_says_0 : decode cX9_says 0 = .ok (.iload_n 1, 1) := by decide +kernel
theorem dX9_says_1 : decode cX9_says 1 = .ok (.invokestatic 254, 3) := by decide +kernel
theorem dX9_says_4 : decode cX9_says 4 = .ok (.ifCond .eq 15, 3) := by decide +kernel
theorem dX9_says_7 : decode cX9_says 7 = .ok (.iload_n 2, 1) := by decide +kernel
theorem dX9_says_8 : decode cX9_says 8 = .ok (.i2l, 1) := by decide +kernel
theorem dX9_says_9 : decode cX9_says 9 = .ok (.lconst 0, 1) := by decide +kernel
theorem dX9_says_10 : decode cX9_says 10 = .ok (.ldc2_w 246, 3) := by decide +kernel
theorem dX9_says_13 : decode cX9_says 13 = .ok (.invokestatic 56, 3) := by decide +kernel
theorem dX9_says_16 : decode cX9_says 16 = .ok (.ifCond .ne 10, 3) := by decide +kernel
theorem dX9_says_19 : decode cX9_says 19 = .ok (.aload_n 0, 1) := by decide +kernel
theorem dX9_says_20 : decode cX9_says 20 = .ok (.bipush (-92), 2) := by decide +kernel
theorem dX9_says_22 : decode cX9_says 22 = .ok (.invokevirtual 60, 3) := by decide +kernel
theorem dX9_says_25 : decode cX9_says 25 = .ok (.ireturn, 1) := by decide +kernel
theorem dX9_says_26 : decode cX9_says 26 = .ok (.aload_n 0, 1) := by decide +kernel
theorem dX9_says_27 : decode cX9_says 27 = .ok (.getfield 37, 3) := by decide +kernel
theorem dX9_says_30 : decode cX9_says 30 = .ok (.iload_n 1, 1) := by decide +kernel
theorem dX9_says_31 : decode cX9_says 31 = .ok (.iaload, 1) := by decide +kernel
theorem dX9_says_32 : decode cX9_says 32 = .ok (.ifCond .ge 10, 3) := by decide +kernel
theorem dX9_says_35 : decode cX9_says 35 = .ok (.aload_n 0, 1) := by decide +kernel
theorem dX9_says_36 : decode cX9_says 36 = .ok (.bipush (-94), 2) := by decide +kernel
theorem dX9_says_38 : decode cX9_says 38 = .ok (.invokevirtual 60, 3) := by decide +kernel
theorem dX9_says_41 : decode cX9_says 41 = .ok (.ireturn, 1) := by decide +kernel
theorem dX9_says_42 : decode cX9_says 42 = .ok (.aload_n 0, 1) := by decide +kernel
theorem dX9_says_43 : decode cX9_says 43 = .ok (.getfield 37, 3) := by decide +kernel
theorem dX9_says_46 : decode cX9_says 46 = .ok (.iload_n 1, 1) := by decide +kernel
theorem dX9_says_47 : decode cX9_says 47 = .ok (.iaload, 1) := by decide +kernel
theorem dX9_says_48 : decode cX9_says 48 = .ok (.bipush 10, 2) := by decide +kernel
theorem dX9_says_50 : decode cX9_says 50 = .ok (.isub, 1) := by decide +kernel
theorem dX9_says_51 : decode cX9_says 51 = .ok (.istore_n 3, 1) := by decide +kernel
theorem dX9_says_52 : decode cX9_says 52 = .ok (.iload_n 3, 1) := by decide +kernel
theorem dX9_says_53 : decode cX9_says 53 = .ok (.ifCond .lt 11, 3) := by decide +kernel
theorem dX9_says_56 : decode cX9_says 56 = .ok (.iload_n 3, 1) := by decide +kernel
theorem dX9_says_57 : decode cX9_says 57 = .ok (.iload_n 2, 1) := by decide +kernel
theorem dX9_says_58 : decode cX9_says 58 = .ok (.invokestatic 248, 3) := by decide +kernel
theorem dX9_says_61 : decode cX9_says 61 = .ok (.ifCond .ne 10, 3) := by decide +kernel
theorem dX9_says_64 : decode cX9_says 64 = .ok (.aload_n 0, 1) := by decide +kernel
theorem dX9_says_65 : decode cX9_says 65 = .ok (.bipush (-93), 2) := by decide +kernel
theorem dX9_says_67 : decode cX9_says 67 = .ok (.invokevirtual 60, 3) := by decide +kernel
theorem dX9_says_70 : decode cX9_says 70 = .ok (.ireturn, 1) := by decide +kernel
theorem dX9_says_71 : decode cX9_says 71 = .ok (.iload_n 2, 1) := by decide +kernel
theorem dX9_says_72 : decode cX9_says 72 = .ok (.tableswitch 98 0 12 #[68, 73, 75, 80, 98, 98, 90, 92, 92, 98, 98, 94, 96], 68) := by decide +kernel
theorem dX9_says_140 : decode cX9_says 140 = .ok (.iload_n 3, 1) := by decide +kernel
theorem dX9_says_141 : decode cX9_says 141 = .ok (.invokestatic 204, 3) := by decide +kernel
theorem dX9_says_144 : decode cX9_says 144 = .ok (.ireturn, 1) := by decide +kernel
theorem dX9_says_145 : decode cX9_says 145 = .ok (.iconst 1, 1) := by decide +kernel
theorem dX9_says_146 : decode cX9_says 146 = .ok (.ireturn, 1) := by decide +kernel
theorem dX9_says_147 : decode cX9_says 147 = .ok (.iload_n 3, 1) := by decide +kernel
theorem dX9_says_148 : decode cX9_says 148 = .ok (.invokestatic 154, 3) := by decide +kernel
theorem dX9_says_151 : decode cX9_says 151 = .ok (.ireturn, 1) := by decide +kernel
theorem dX9_says_152 : decode cX9_says 152 = .ok (.iload_n 3, 1) := by decide +kernel
theorem dX9_says_153 : decode cX9_says 153 = .ok (.invokestatic 141, 3) := by decide +kernel
theorem dX9_says_156 : decode cX9_says 156 = .ok (.iload_n 3, 1) := by decide +kernel
theorem dX9_says_157 : decode cX9_says 157 = .ok (.invokestatic 154, 3) := by decide +kernel
theorem dX9_says_160 : decode cX9_says 160 = .ok (.isub, 1) := by decide +kernel
theorem dX9_says_161 : decode cX9_says 161 = .ok (.ireturn, 1) := by decide +kernel
theorem dX9_says_162 : decode cX9_says 162 = .ok (.iconst 4, 1) := by decide +kernel
theorem dX9_says_163 : decode cX9_says 163 = .ok (.ireturn, 1) := by decide +kernel
theorem dX9_says_164 : decode cX9_says 164 = .ok (.iload_n 3, 1) := by decide +kernel
theorem dX9_says_165 : decode cX9_says 165 = .ok (.ireturn, 1) := by decide +kernel
theorem dX9_says_166 : decode cX9_says 166 = .ok (.iconst 0, 1) := by decide +kernel
theorem dX9_says_167 : decode cX9_says 167 = .ok (.ireturn, 1) := by decide +kernel
theorem dX9_says_168 : decode cX9_says 168 = .ok (.iconst 2, 1) := by decide +kernel
theorem dX9_says_169 : decode cX9_says 169 = .ok (.ireturn, 1) := by decide +kernel
theorem dX9_says_170 : decode cX9_says 170 = .ok (.iload_n 3, 1) := by decide +kernel
theorem dX9_says_171 : decode cX9_says 171 = .ok (.invokestatic 227, 3) := by decide +kernel
theorem dX9_says_174 : decode cX9_says 174 = .ok (.ireturn, 1) := by decide +kernel
theorem dX9_judge_0 : decode cX9_judge 0 = .ok (.aload_n 0, 1) := by decide +kernel
theorem dX9_judge_1 : decode cX9_judge 1 = .ok (.iload_n 1, 1) := by decide +kernel
theorem dX9_judge_2 : decode cX9_judge 2 = .ok (.invokevirtual 215, 3) := by decide +kernel
theorem dX9_judge_5 : decode cX9_judge 5 = .ok (.ifCond .eq 22, 3) := by decide +kernel
theorem dX9_judge_8 : decode cX9_judge 8 = .ok (.iload_n 2, 1) := by decide +kernel
theorem dX9_judge_9 : decode cX9_judge 9 = .ok (.invokestatic 254, 3) := by decide +kernel
theorem dX9_judge_12 : decode cX9_judge 12 = .ok (.ifCond .eq 15, 3) := by decide +kernel
theorem dX9_judge_15 : decode cX9_judge 15 = .ok (.iload_n 3, 1) := by decide +kernel
theorem dX9_judge_16 : decode cX9_judge 16 = .ok (.i2l, 1) := by decide +kernel
theorem dX9_judge_17 : decode cX9_judge 17 = .ok (.lconst 0, 1) := by decide +kernel
theorem dX9_judge_18 : decode cX9_judge 18 = .ok (.ldc2_w 259, 3) := by decide +kernel
theorem dX9_judge_21 : decode cX9_judge 21 = .ok (.invokestatic 56, 3) := by decide +kernel
theorem dX9_judge_24 : decode cX9_judge 24 = .ok (.ifCond .ne 10, 3) := by decide +kernel
theorem dX9_judge_27 : decode cX9_judge 27 = .ok (.aload_n 0, 1) := by decide +kernel
theorem dX9_judge_28 : decode cX9_judge 28 = .ok (.bipush (-92), 2) := by decide +kernel
theorem dX9_judge_30 : decode cX9_judge 30 = .ok (.invokevirtual 60, 3) := by decide +kernel
theorem dX9_judge_33 : decode cX9_judge 33 = .ok (.ireturn, 1) := by decide +kernel
theorem dX9_judge_34 : decode cX9_judge 34 = .ok (.aload_n 0, 1) := by decide +kernel
theorem dX9_judge_35 : decode cX9_judge 35 = .ok (.iload_n 2, 1) := by decide +kernel
theorem dX9_judge_36 : decode cX9_judge 36 = .ok (.invokevirtual 261, 3) := by decide +kernel
theorem dX9_judge_39 : decode cX9_judge 39 = .ok (.istore 4, 2) := by decide +kernel
theorem dX9_judge_41 : decode cX9_judge 41 = .ok (.iload 4, 2) := by decide +kernel
theorem dX9_judge_43 : decode cX9_judge 43 = .ok (.ifCond .ne 13, 3) := by decide +kernel
theorem dX9_judge_46 : decode cX9_judge 46 = .ok (.iload_n 3, 1) := by decide +kernel
theorem dX9_judge_47 : decode cX9_judge 47 = .ok (.aload_n 0, 1) := by decide +kernel
theorem dX9_judge_48 : decode cX9_judge 48 = .ok (.getfield 40, 3) := by decide +kernel
theorem dX9_judge_51 : decode cX9_judge 51 = .ok (.iload_n 2, 1) := by decide +kernel
theorem dX9_judge_52 : decode cX9_judge 52 = .ok (.iaload, 1) := by decide +kernel
theorem dX9_judge_53 : decode cX9_judge 53 = .ok (.if_icmp .le 20, 3) := by decide +kernel
theorem dX9_judge_56 : decode cX9_judge 56 = .ok (.aload_n 0, 1) := by decide +kernel
theorem dX9_judge_57 : decode cX9_judge 57 = .ok (.iload 4, 2) := by decide +kernel
theorem dX9_judge_59 : decode cX9_judge 59 = .ok (.ifCond .eq 8, 3) := by decide +kernel
theorem dX9_judge_62 : decode cX9_judge 62 = .ok (.iload 4, 2) := by decide +kernel
theorem dX9_judge_64 : decode cX9_judge 64 = .ok (.goto 5, 3) := by decide +kernel
theorem dX9_judge_67 : decode cX9_judge 67 = .ok (.bipush (-92), 2) := by decide +kernel
theorem dX9_judge_69 : decode cX9_judge 69 = .ok (.invokevirtual 60, 3) := by decide +kernel
theorem dX9_judge_72 : decode cX9_judge 72 = .ok (.ireturn, 1) := by decide +kernel
theorem dX9_judge_73 : decode cX9_judge 73 = .ok (.iconst 0, 1) := by decide +kernel
theorem dX9_judge_74 : decode cX9_judge 74 = .ok (.istore 5, 2) := by decide +kernel
theorem dX9_judge_76 : decode cX9_judge 76 = .ok (.iload 5, 2) := by decide +kernel
theorem dX9_judge_78 : decode cX9_judge 78 = .ok (.iload_n 3, 1) := by decide +kernel
theorem dX9_judge_79 : decode cX9_judge 79 = .ok (.if_icmp .ge 46, 3) := by decide +kernel
theorem dX9_judge_82 : decode cX9_judge 82 = .ok (.iload 5, 2) := by decide +kernel
theorem dX9_judge_84 : decode cX9_judge 84 = .ok (.aload_n 0, 1) := by decide +kernel
theorem dX9_judge_85 : decode cX9_judge 85 = .ok (.iload_n 1, 1) := by decide +kernel
theorem dX9_judge_86 : decode cX9_judge 86 = .ok (.invokevirtual 220, 3) := by decide +kernel
theorem dX9_judge_89 : decode cX9_judge 89 = .ok (.if_icmp .ge 27, 3) := by decide +kernel
theorem dX9_judge_92 : decode cX9_judge 92 = .ok (.aload_n 0, 1) := by decide +kernel
theorem dX9_judge_93 : decode cX9_judge 93 = .ok (.getfield 43, 3) := by decide +kernel
theorem dX9_judge_96 : decode cX9_judge 96 = .ok (.bipush 40, 2) := by decide +kernel
theorem dX9_judge_98 : decode cX9_judge 98 = .ok (.iload_n 2, 1) := by decide +kernel
theorem dX9_judge_99 : decode cX9_judge 99 = .ok (.imul, 1) := by decide +kernel
theorem dX9_judge_100 : decode cX9_judge 100 = .ok (.iload 5, 2) := by decide +kernel
theorem dX9_judge_102 : decode cX9_judge 102 = .ok (.iadd, 1) := by decide +kernel
theorem dX9_judge_103 : decode cX9_judge 103 = .ok (.laload, 1) := by decide +kernel
theorem dX9_judge_104 : decode cX9_judge 104 = .ok (.aload_n 0, 1) := by decide +kernel
theorem dX9_judge_105 : decode cX9_judge 105 = .ok (.iload_n 1, 1) := by decide +kernel
theorem dX9_judge_106 : decode cX9_judge 106 = .ok (.iload 5, 2) := by decide +kernel
theorem dX9_judge_108 : decode cX9_judge 108 = .ok (.invokevirtual 212, 3) := by decide +kernel
theorem dX9_judge_111 : decode cX9_judge 111 = .ok (.i2l, 1) := by decide +kernel
theorem dX9_judge_112 : decode cX9_judge 112 = .ok (.lcmp, 1) := by decide +kernel
theorem dX9_judge_113 : decode cX9_judge 113 = .ok (.ifCond .eq 6, 3) := by decide +kernel
theorem dX9_judge_116 : decode cX9_judge 116 = .ok (.iload 5, 2) := by decide +kernel
theorem dX9_judge_118 : decode cX9_judge 118 = .ok (.ireturn, 1) := by decide +kernel
theorem dX9_judge_119 : decode cX9_judge 119 = .ok (.iinc 5 1, 3) := by decide +kernel
theorem dX9_judge_122 : decode cX9_judge 122 = .ok (.goto (-46), 3) := by decide +kernel
theorem dX9_judge_125 : decode cX9_judge 125 = .ok (.aload_n 0, 1) := by decide +kernel
theorem dX9_judge_126 : decode cX9_judge 126 = .ok (.iload_n 1, 1) := by decide +kernel
theorem dX9_judge_127 : decode cX9_judge 127 = .ok (.invokevirtual 220, 3) := by decide +kernel
theorem dX9_judge_130 : decode cX9_judge 130 = .ok (.iload_n 3, 1) := by decide +kernel
theorem dX9_judge_131 : decode cX9_judge 131 = .ok (.if_icmp .le 7, 3) := by decide +kernel
theorem dX9_judge_134 : decode cX9_judge 134 = .ok (.iload_n 3, 1) := by decide +kernel
theorem dX9_judge_135 : decode cX9_judge 135 = .ok (.goto 4, 3) := by decide +kernel
theorem dX9_judge_138 : decode cX9_judge 138 = .ok (.iconst (-1), 1) := by decide +kernel
theorem dX9_judge_139 : decode cX9_judge 139 = .ok (.ireturn, 1) := by decide +kernel
theorem dX9_draw_0 : decode cX9_draw 0 = .ok (.aload_n 0, 1) := by decide +kernel
theorem dX9_draw_1 : decode cX9_draw 1 = .ok (.getfield 13, 3) := by decide +kernel
theorem dX9_draw_4 : decode cX9_draw 4 = .ok (.sipush 5024, 3) := by decide +kernel
theorem dX9_draw_7 : decode cX9_draw 7 = .ok (.aload_n 0, 1) := by decide +kernel
theorem dX9_draw_8 : decode cX9_draw 8 = .ok (.getfield 13, 3) := by decide +kernel
theorem dX9_draw_11 : decode cX9_draw 11 = .ok (.sipush 5024, 3) := by decide +kernel
theorem dX9_draw_14 : decode cX9_draw 14 = .ok (.iaload, 1) := by decide +kernel
theorem dX9_draw_15 : decode cX9_draw 15 = .ok (.ldc_w 264, 3) := by decide +kernel
theorem dX9_draw_18 : decode cX9_draw 18 = .ok (.imul, 1) := by decide +kernel
theorem dX9_draw_19 : decode cX9_draw 19 = .ok (.sipush 12345, 3) := by decide +kernel
theorem dX9_draw_22 : decode cX9_draw 22 = .ok (.iadd, 1) := by decide +kernel
theorem dX9_draw_23 : decode cX9_draw 23 = .ok (.iastore, 1) := by decide +kernel
theorem dX9_draw_24 : decode cX9_draw 24 = .ok (.aload_n 0, 1) := by decide +kernel
theorem dX9_draw_25 : decode cX9_draw 25 = .ok (.getfield 13, 3) := by decide +kernel
theorem dX9_draw_28 : decode cX9_draw 28 = .ok (.sipush 5024, 3) := by decide +kernel
theorem dX9_draw_31 : decode cX9_draw 31 = .ok (.iaload, 1) := by decide +kernel
theorem dX9_draw_32 : decode cX9_draw 32 = .ok (.bipush 16, 2) := by decide +kernel
theorem dX9_draw_34 : decode cX9_draw 34 = .ok (.iushr, 1) := by decide +kernel
theorem dX9_draw_35 : decode cX9_draw 35 = .ok (.iload_n 1, 1) := by decide +kernel
theorem dX9_draw_36 : decode cX9_draw 36 = .ok (.irem, 1) := by decide +kernel
theorem dX9_draw_37 : decode cX9_draw 37 = .ok (.ireturn, 1) := by decide +kernel
theorem dX9_days_0 : decode cX9_days 0 = .ok (.iload_n 1, 1) := by decide +kernel
theorem dX9_days_1 : decode cX9_days 1 = .ok (.i2l, 1) := by decide +kernel
theorem dX9_days_2 : decode cX9_days 2 = .ok (.lconst 1, 1) := by decide +kernel
theorem dX9_days_3 : decode cX9_days 3 = .ok (.ldc2_w 197, 3) := by decide +kernel
theorem dX9_days_6 : decode cX9_days 6 = .ok (.invokestatic 56, 3) := by decide +kernel
theorem dX9_days_9 : decode cX9_days 9 = .ok (.ifCond .ne 10, 3) := by decide +kernel
theorem dX9_days_12 : decode cX9_days 12 = .ok (.aload_n 0, 1) := by decide +kernel
theorem dX9_days_13 : decode cX9_days 13 = .ok (.bipush (-92), 2) := by decide +kernel
theorem dX9_days_15 : decode cX9_days 15 = .ok (.invokevirtual 60, 3) := by decide +kernel
theorem dX9_days_18 : decode cX9_days 18 = .ok (.ireturn, 1) := by decide +kernel
theorem dX9_days_19 : decode cX9_days 19 = .ok (.aload_n 0, 1) := by decide +kernel
theorem dX9_days_20 : decode cX9_days 20 = .ok (.getfield 13, 3) := by decide +kernel
theorem dX9_days_23 : decode cX9_days 23 = .ok (.sipush 5020, 3) := by decide +kernel
theorem dX9_days_26 : decode cX9_days 26 = .ok (.iaload, 1) := by decide +kernel
theorem dX9_days_27 : decode cX9_days 27 = .ok (.ifCond .ne 10, 3) := by decide +kernel
theorem dX9_days_30 : decode cX9_days 30 = .ok (.aload_n 0, 1) := by decide +kernel
theorem dX9_days_31 : decode cX9_days 31 = .ok (.bipush (-95), 2) := by decide +kernel
theorem dX9_days_33 : decode cX9_days 33 = .ok (.invokevirtual 60, 3) := by decide +kernel
theorem dX9_days_36 : decode cX9_days 36 = .ok (.ireturn, 1) := by decide +kernel
theorem dX9_days_37 : decode cX9_days 37 = .ok (.iconst 0, 1) := by decide +kernel
theorem dX9_days_38 : decode cX9_days 38 = .ok (.istore_n 2, 1) := by decide +kernel
theorem dX9_days_39 : decode cX9_days 39 = .ok (.iconst 0, 1) := by decide +kernel
theorem dX9_days_40 : decode cX9_days 40 = .ok (.istore_n 3, 1) := by decide +kernel
theorem dX9_days_41 : decode cX9_days 41 = .ok (.iload_n 3, 1) := by decide +kernel
theorem dX9_days_42 : decode cX9_days 42 = .ok (.iload_n 1, 1) := by decide +kernel
theorem dX9_days_43 : decode cX9_days 43 = .ok (.if_icmp .ge 69, 3) := by decide +kernel
theorem dX9_days_46 : decode cX9_days 46 = .ok (.aload_n 0, 1) := by decide +kernel
theorem dX9_days_47 : decode cX9_days 47 = .ok (.aload_n 0, 1) := by decide +kernel
theorem dX9_days_48 : decode cX9_days 48 = .ok (.getfield 13, 3) := by decide +kernel
theorem dX9_days_51 : decode cX9_days 51 = .ok (.sipush 5020, 3) := by decide +kernel
theorem dX9_days_54 : decode cX9_days 54 = .ok (.iaload, 1) := by decide +kernel
theorem dX9_days_55 : decode cX9_days 55 = .ok (.invokevirtual 265, 3) := by decide +kernel
theorem dX9_days_58 : decode cX9_days 58 = .ok (.istore 4, 2) := by decide +kernel
theorem dX9_days_60 : decode cX9_days 60 = .ok (.aload_n 0, 1) := by decide +kernel
theorem dX9_days_61 : decode cX9_days 61 = .ok (.iconst 0, 1) := by decide +kernel
theorem dX9_days_62 : decode cX9_days 62 = .ok (.putfield 132, 3) := by decide +kernel
theorem dX9_days_65 : decode cX9_days 65 = .ok (.aload_n 0, 1) := by decide +kernel
theorem dX9_days_66 : decode cX9_days 66 = .ok (.iload 4, 2) := by decide +kernel
theorem dX9_days_68 : decode cX9_days 68 = .ok (.invokevirtual 186, 3) := by decide +kernel
theorem dX9_days_71 : decode cX9_days 71 = .ok (.aload_n 0, 1) := by decide +kernel
theorem dX9_days_72 : decode cX9_days 72 = .ok (.getfield 132, 3) := by decide +kernel
theorem dX9_days_75 : decode cX9_days 75 = .ok (.ifCond .ne 15, 3) := by decide +kernel
theorem dX9_days_78 : decode cX9_days 78 = .ok (.aload_n 0, 1) := by decide +kernel
theorem dX9_days_79 : decode cX9_days 79 = .ok (.iload 4, 2) := by decide +kernel
theorem dX9_days_81 : decode cX9_days 81 = .ok (.invokevirtual 192, 3) := by decide +kernel
theorem dX9_days_84 : decode cX9_days 84 = .ok (.iinc 2 1, 3) := by decide +kernel
theorem dX9_days_87 : decode cX9_days 87 = .ok (.goto 19, 3) := by decide +kernel
theorem dX9_days_90 : decode cX9_days 90 = .ok (.aload_n 0, 1) := by decide +kernel
theorem dX9_days_91 : decode cX9_days 91 = .ok (.getfield 13, 3) := by decide +kernel
theorem dX9_days_94 : decode cX9_days 94 = .ok (.sipush 5025, 3) := by decide +kernel
theorem dX9_days_97 : decode cX9_days 97 = .ok (.iaload, 1) := by decide +kernel
theorem dX9_days_98 : decode cX9_days 98 = .ok (.ifCond .le 8, 3) := by decide +kernel
theorem dX9_days_101 : decode cX9_days 101 = .ok (.aload_n 0, 1) := by decide +kernel
theorem dX9_days_102 : decode cX9_days 102 = .ok (.iconst 1, 1) := by decide +kernel
theorem dX9_days_103 : decode cX9_days 103 = .ok (.invokevirtual 199, 3) := by decide +kernel
theorem dX9_days_106 : decode cX9_days 106 = .ok (.iinc 3 1, 3) := by decide +kernel
theorem dX9_days_109 : decode cX9_days 109 = .ok (.goto (-68), 3) := by decide +kernel
theorem dX9_days_112 : decode cX9_days 112 = .ok (.iload_n 2, 1) := by decide +kernel
theorem dX9_days_113 : decode cX9_days 113 = .ok (.ireturn, 1) := by decide +kernel
theorem dX9_seed_0 : decode cX9_seed 0 = .ok (.aload_n 0, 1) := by decide +kernel
theorem dX9_seed_1 : decode cX9_seed 1 = .ok (.getfield 13, 3) := by decide +kernel
theorem dX9_seed_4 : decode cX9_seed 4 = .ok (.sipush 5024, 3) := by decide +kernel
theorem dX9_seed_7 : decode cX9_seed 7 = .ok (.iaload, 1) := by decide +kernel
theorem dX9_seed_8 : decode cX9_seed 8 = .ok (.istore_n 2, 1) := by decide +kernel
theorem dX9_seed_9 : decode cX9_seed 9 = .ok (.aload_n 0, 1) := by decide +kernel
theorem dX9_seed_10 : decode cX9_seed 10 = .ok (.getfield 13, 3) := by decide +kernel
theorem dX9_seed_13 : decode cX9_seed 13 = .ok (.sipush 5024, 3) := by decide +kernel
theorem dX9_seed_16 : decode cX9_seed 16 = .ok (.iload_n 1, 1) := by decide +kernel
theorem dX9_seed_17 : decode cX9_seed 17 = .ok (.iastore, 1) := by decide +kernel
theorem dX9_seed_18 : decode cX9_seed 18 = .ok (.iload_n 2, 1) := by decide +kernel
theorem dX9_seed_19 : decode cX9_seed 19 = .ok (.ireturn, 1) := by decide +kernel
theorem dX9_image_0 : decode cX9_image 0 = .ok (.aload_n 0, 1) := by decide +kernel
theorem dX9_image_1 : decode cX9_image 1 = .ok (.getfield 13, 3) := by decide +kernel
theorem dX9_image_4 : decode cX9_image 4 = .ok (.aload_n 0, 1) := by decide +kernel
theorem dX9_image_5 : decode cX9_image 5 = .ok (.getfield 16, 3) := by decide +kernel
theorem dX9_image_8 : decode cX9_image 8 = .ok (.invokestatic 268, 3) := by decide +kernel
theorem dX9_image_11 : decode cX9_image 11 = .ok (.aload_n 0, 1) := by decide +kernel
theorem dX9_image_12 : decode cX9_image 12 = .ok (.iconst 1, 1) := by decide +kernel
theorem dX9_image_13 : decode cX9_image 13 = .ok (.putfield 272, 3) := by decide +kernel
theorem dX9_image_16 : decode cX9_image 16 = .ok (.iconst 1, 1) := by decide +kernel
theorem dX9_image_17 : decode cX9_image 17 = .ok (.ireturn, 1) := by decide +kernel
theorem dX9_back_0 : decode cX9_back 0 = .ok (.aload_n 0, 1) := by decide +kernel
theorem dX9_back_1 : decode cX9_back 1 = .ok (.getfield 272, 3) := by decide +kernel
theorem dX9_back_4 : decode cX9_back 4 = .ok (.ifCond .ne 10, 3) := by decide +kernel
theorem dX9_back_7 : decode cX9_back 7 = .ok (.aload_n 0, 1) := by decide +kernel
theorem dX9_back_8 : decode cX9_back 8 = .ok (.bipush (-95), 2) := by decide +kernel
theorem dX9_back_10 : decode cX9_back 10 = .ok (.invokevirtual 60, 3) := by decide +kernel
theorem dX9_back_13 : decode cX9_back 13 = .ok (.ireturn, 1) := by decide +kernel
theorem dX9_back_14 : decode cX9_back 14 = .ok (.aload_n 0, 1) := by decide +kernel
theorem dX9_back_15 : decode cX9_back 15 = .ok (.getfield 16, 3) := by decide +kernel
theorem dX9_back_18 : decode cX9_back 18 = .ok (.aload_n 0, 1) := by decide +kernel
theorem dX9_back_19 : decode cX9_back 19 = .ok (.getfield 13, 3) := by decide +kernel
theorem dX9_back_22 : decode cX9_back 22 = .ok (.invokestatic 268, 3) := by decide +kernel
theorem dX9_back_25 : decode cX9_back 25 = .ok (.iconst 1, 1) := by decide +kernel
theorem dX9_back_26 : decode cX9_back 26 = .ok (.ireturn, 1) := by decide +kernel
theorem dX9_status_0 : decode cX9_status 0 = .ok (.iload_n 1, 1) := by decide +kernel
theorem dX9_status_1 : decode cX9_status 1 = .ok (.i2l, 1) := by decide +kernel
theorem dX9_status_2 : decode cX9_status 2 = .ok (.ldc2_w 246, 3) := by decide +kernel
theorem dX9_status_5 : decode cX9_status 5 = .ok (.ldc2_w 275, 3) := by decide +kernel
theorem dX9_status_8 : decode cX9_status 8 = .ok (.invokestatic 56, 3) := by decide +kernel
theorem dX9_status_11 : decode cX9_status 11 = .ok (.ifCond .eq 13, 3) := by decide +kernel
theorem dX9_status_14 : decode cX9_status 14 = .ok (.aload_n 0, 1) := by decide +kernel
theorem dX9_status_15 : decode cX9_status 15 = .ok (.getfield 1, 3) := by decide +kernel
theorem dX9_status_18 : decode cX9_status 18 = .ok (.iload_n 1, 1) := by decide +kernel
theorem dX9_status_19 : decode cX9_status 19 = .ok (.bipush 12, 2) := by decide +kernel
theorem dX9_status_21 : decode cX9_status 21 = .ok (.isub, 1) := by decide +kernel
theorem dX9_status_22 : decode cX9_status 22 = .ok (.iaload, 1) := by decide +kernel
theorem dX9_status_23 : decode cX9_status 23 = .ok (.ireturn, 1) := by decide +kernel
theorem dX9_status_24 : decode cX9_status 24 = .ok (.iconst 0, 1) := by decide +kernel
theorem dX9_status_25 : decode cX9_status 25 = .ok (.istore_n 2, 1) := by decide +kernel
theorem dX9_status_26 : decode cX9_status 26 = .ok (.iconst 0, 1) := by decide +kernel
theorem dX9_status_27 : decode cX9_status 27 = .ok (.istore_n 3, 1) := by decide +kernel
theorem dX9_status_28 : decode cX9_status 28 = .ok (.iload_n 3, 1) := by decide +kernel
theorem dX9_status_29 : decode cX9_status 29 = .ok (.bipush 8, 2) := by decide +kernel
theorem dX9_status_31 : decode cX9_status 31 = .ok (.if_icmp .ge 26, 3) := by decide +kernel
theorem dX9_status_34 : decode cX9_status 34 = .ok (.iload_n 2, 1) := by decide +kernel
theorem dX9_status_35 : decode cX9_status 35 = .ok (.aload_n 0, 1) := by decide +kernel
theorem dX9_status_36 : decode cX9_status 36 = .ok (.getfield 37, 3) := by decide +kernel
theorem dX9_status_39 : decode cX9_status 39 = .ok (.iload_n 3, 1) := by decide +kernel
theorem dX9_status_40 : decode cX9_status 40 = .ok (.iaload, 1) := by decide +kernel
theorem dX9_status_41 : decode cX9_status 41 = .ok (.ifCond .ge 7, 3) := by decide +kernel
theorem dX9_status_44 : decode cX9_status 44 = .ok (.iconst 0, 1) := by decide +kernel
theorem dX9_status_45 : decode cX9_status 45 = .ok (.goto 4, 3) := by decide +kernel
theorem dX9_status_48 : decode cX9_status 48 = .ok (.iconst 1, 1) := by decide +kernel
theorem dX9_status_49 : decode cX9_status 49 = .ok (.iadd, 1) := by decide +kernel
theorem dX9_status_50 : decode cX9_status 50 = .ok (.istore_n 2, 1) := by decide +kernel
theorem dX9_status_51 : decode cX9_status 51 = .ok (.iinc 3 1, 3) := by decide +kernel
theorem dX9_status_54 : decode cX9_status 54 = .ok (.goto (-26), 3) := by decide +kernel
theorem dX9_status_57 : decode cX9_status 57 = .ok (.iload_n 1, 1) := by decide +kernel
theorem dX9_status_58 : decode cX9_status 58 = .ok (.tableswitch 107 0 7 #[46, 55, 64, 73, 82, 91, 96, 105], 46) := by decide +kernel
theorem dX9_status_104 : decode cX9_status 104 = .ok (.aload_n 0, 1) := by decide +kernel
theorem dX9_status_105 : decode cX9_status 105 = .ok (.getfield 13, 3) := by decide +kernel
theorem dX9_status_108 : decode cX9_status 108 = .ok (.sipush 5020, 3) := by decide +kernel
theorem dX9_status_111 : decode cX9_status 111 = .ok (.iaload, 1) := by decide +kernel
theorem dX9_status_112 : decode cX9_status 112 = .ok (.ireturn, 1) := by decide +kernel
theorem dX9_status_113 : decode cX9_status 113 = .ok (.aload_n 0, 1) := by decide +kernel
theorem dX9_status_114 : decode cX9_status 114 = .ok (.getfield 13, 3) := by decide +kernel
theorem dX9_status_117 : decode cX9_status 117 = .ok (.sipush 5025, 3) := by decide +kernel
theorem dX9_status_120 : decode cX9_status 120 = .ok (.iaload, 1) := by decide +kernel
theorem dX9_status_121 : decode cX9_status 121 = .ok (.ireturn, 1) := by decide +kernel
theorem dX9_status_122 : decode cX9_status 122 = .ok (.aload_n 0, 1) := by decide +kernel
theorem dX9_status_123 : decode cX9_status 123 = .ok (.getfield 13, 3) := by decide +kernel
theorem dX9_status_126 : decode cX9_status 126 = .ok (.sipush 5023, 3) := by decide +kernel
theorem dX9_status_129 : decode cX9_status 129 = .ok (.iaload, 1) := by decide +kernel
theorem dX9_status_130 : decode cX9_status 130 = .ok (.ireturn, 1) := by decide +kernel
theorem dX9_status_131 : decode cX9_status 131 = .ok (.aload_n 0, 1) := by decide +kernel
theorem dX9_status_132 : decode cX9_status 132 = .ok (.getfield 13, 3) := by decide +kernel
theorem dX9_status_135 : decode cX9_status 135 = .ok (.sipush 5022, 3) := by decide +kernel
theorem dX9_status_138 : decode cX9_status 138 = .ok (.iaload, 1) := by decide +kernel
theorem dX9_status_139 : decode cX9_status 139 = .ok (.ireturn, 1) := by decide +kernel
theorem dX9_status_140 : decode cX9_status 140 = .ok (.aload_n 0, 1) := by decide +kernel
theorem dX9_status_141 : decode cX9_status 141 = .ok (.getfield 13, 3) := by decide +kernel
theorem dX9_status_144 : decode cX9_status 144 = .ok (.sipush 5021, 3) := by decide +kernel
theorem dX9_status_147 : decode cX9_status 147 = .ok (.iaload, 1) := by decide +kernel
theorem dX9_status_148 : decode cX9_status 148 = .ok (.ireturn, 1) := by decide +kernel
theorem dX9_status_149 : decode cX9_status 149 = .ok (.aload_n 0, 1) := by decide +kernel
theorem dX9_status_150 : decode cX9_status 150 = .ok (.getfield 63, 3) := by decide +kernel
theorem dX9_status_153 : decode cX9_status 153 = .ok (.ireturn, 1) := by decide +kernel
theorem dX9_status_154 : decode cX9_status 154 = .ok (.aload_n 0, 1) := by decide +kernel
theorem dX9_status_155 : decode cX9_status 155 = .ok (.getfield 13, 3) := by decide +kernel
theorem dX9_status_158 : decode cX9_status 158 = .ok (.sipush 5024, 3) := by decide +kernel
theorem dX9_status_161 : decode cX9_status 161 = .ok (.iaload, 1) := by decide +kernel
theorem dX9_status_162 : decode cX9_status 162 = .ok (.ireturn, 1) := by decide +kernel
theorem dX9_status_163 : decode cX9_status 163 = .ok (.iload_n 2, 1) := by decide +kernel
theorem dX9_status_164 : decode cX9_status 164 = .ok (.ireturn, 1) := by decide +kernel
theorem dX9_status_165 : decode cX9_status 165 = .ok (.iconst (-1), 1) := by decide +kernel
theorem dX9_status_166 : decode cX9_status 166 = .ok (.ireturn, 1) := by decide +kernel
