/-! decode rows (printed by the program of the task) -/
theorem dX8_init_0 : decode cX8_init 0 = .ok (.aload_n 0, 1) := by decide +kernel
theorem dX8_init_1 : decode cX8_init 1 = .ok (.invokespecial 1, 3) := by decide +kernel
theorem dX8_init_4 : decode cX8_init 4 = .ok (.aload_n 0, 1) := by decide +kernel
theorem dX8_init_5 : decode cX8_init 5 = .ok (.new 7, 3) := by decide +kernel
theorem dX8_init_8 : decode cX8_init 8 = .ok (.dup, 1) := by decide +kernel
theorem dX8_init_9 : decode cX8_init 9 = .ok (.invokespecial 9, 3) := by decide +kernel
theorem dX8_init_12 : decode cX8_init 12 = .ok (.putfield 10, 3) := by decide +kernel
theorem dX8_init_15 : decode cX8_init 15 = .ok (.aload_n 0, 1) := by decide +kernel
theorem dX8_init_16 : decode cX8_init 16 = .ok (.new 7, 3) := by decide +kernel
theorem dX8_init_19 : decode cX8_init 19 = .ok (.dup, 1) := by decide +kernel
theorem dX8_init_20 : decode cX8_init 20 = .ok (.invokespecial 9, 3) := by decide +kernel
theorem dX8_init_23 : decode cX8_init 23 = .ok (.putfield 16, 3) := by decide +kernel
theorem dX8_init_26 : decode cX8_init 26 = .ok (.aload_n 0, 1) := by decide +kernel
theorem dX8_init_27 : decode cX8_init 27 = .ok (.sipush 250, 3) := by decide +kernel
theorem dX8_init_30 : decode cX8_init 30 = .ok (.newarray .int, 2) := by decide +kernel
theorem dX8_init_32 : decode cX8_init 32 = .ok (.putfield 19, 3) := by decide +kernel
theorem dX8_init_35 : decode cX8_init 35 = .ok (.aload_n 0, 1) := by decide +kernel
theorem dX8_init_36 : decode cX8_init 36 = .ok (.bipush 8, 2) := by decide +kernel
theorem dX8_init_38 : decode cX8_init 38 = .ok (.anewarray 23, 3) := by decide +kernel
theorem dX8_init_41 : decode cX8_init 41 = .ok (.putfield 25, 3) := by decide +kernel
theorem dX8_init_44 : decode cX8_init 44 = .ok (.aload_n 0, 1) := by decide +kernel
theorem dX8_init_45 : decode cX8_init 45 = .ok (.new 29, 3) := by decide +kernel
theorem dX8_init_48 : decode cX8_init 48 = .ok (.dup, 1) := by decide +kernel
theorem dX8_init_49 : decode cX8_init 49 = .ok (.invokespecial 31, 3) := by decide +kernel
theorem dX8_init_52 : decode cX8_init 52 = .ok (.putfield 32, 3) := by decide +kernel
theorem dX8_init_55 : decode cX8_init 55 = .ok (.aload_n 0, 1) := by decide +kernel
theorem dX8_init_56 : decode cX8_init 56 = .ok (.new 36, 3) := by decide +kernel
theorem dX8_init_59 : decode cX8_init 59 = .ok (.dup, 1) := by decide +kernel
theorem dX8_init_60 : decode cX8_init 60 = .ok (.invokespecial 38, 3) := by decide +kernel
theorem dX8_init_63 : decode cX8_init 63 = .ok (.putfield 39, 3) := by decide +kernel
theorem dX8_init_66 : decode cX8_init 66 = .ok (.aload_n 0, 1) := by decide +kernel
theorem dX8_init_67 : decode cX8_init 67 = .ok (.iconst 5, 1) := by decide +kernel
theorem dX8_init_68 : decode cX8_init 68 = .ok (.newarray .int, 2) := by decide +kernel
theorem dX8_init_70 : decode cX8_init 70 = .ok (.putfield 43, 3) := by decide +kernel
theorem dX8_init_73 : decode cX8_init 73 = .ok (.iconst 0, 1) := by decide +kernel
theorem dX8_init_74 : decode cX8_init 74 = .ok (.istore_n 1, 1) := by decide +kernel
theorem dX8_init_75 : decode cX8_init 75 = .ok (.iload_n 1, 1) := by decide +kernel
theorem dX8_init_76 : decode cX8_init 76 = .ok (.aload_n 0, 1) := by decide +kernel
theorem dX8_init_77 : decode cX8_init 77 = .ok (.getfield 25, 3) := by decide +kernel
theorem dX8_init_80 : decode cX8_init 80 = .ok (.arraylength, 1) := by decide +kernel
theorem dX8_init_81 : decode cX8_init 81 = .ok (.if_icmp .ge 22, 3) := by decide +kernel
theorem dX8_init_84 : decode cX8_init 84 = .ok (.aload_n 0, 1) := by decide +kernel
theorem dX8_init_85 : decode cX8_init 85 = .ok (.getfield 25, 3) := by decide +kernel
theorem dX8_init_88 : decode cX8_init 88 = .ok (.iload_n 1, 1) := by decide +kernel
theorem dX8_init_89 : decode cX8_init 89 = .ok (.new 23, 3) := by decide +kernel
theorem dX8_init_92 : decode cX8_init 92 = .ok (.dup, 1) := by decide +kernel
theorem dX8_init_93 : decode cX8_init 93 = .ok (.invokespecial 46, 3) := by decide +kernel
theorem dX8_init_96 : decode cX8_init 96 = .ok (.aastore, 1) := by decide +kernel
theorem dX8_init_97 : decode cX8_init 97 = .ok (.iinc 1 1, 3) := by decide +kernel
theorem dX8_init_100 : decode cX8_init 100 = .ok (.goto (-25), 3) := by decide +kernel
theorem dX8_init_103 : decode cX8_init 103 = .ok (.return_, 1) := by decide +kernel
theorem dX8_row_0 : decode cX8_row 0 = .ok (.aload_n 0, 1) := by decide +kernel
theorem dX8_row_1 : decode cX8_row 1 = .ok (.iload_n 1, 1) := by decide +kernel
theorem dX8_row_2 : decode cX8_row 2 = .ok (.invokevirtual 47, 3) := by decide +kernel
theorem dX8_row_5 : decode cX8_row 5 = .ok (.astore 4, 2) := by decide +kernel
theorem dX8_row_7 : decode cX8_row 7 = .ok (.aload 4, 2) := by decide +kernel
theorem dX8_row_9 : decode cX8_row 9 = .ok (.ifnull 20, 3) := by decide +kernel
theorem dX8_row_12 : decode cX8_row 12 = .ok (.iload_n 2, 1) := by decide +kernel
theorem dX8_row_13 : decode cX8_row 13 = .ok (.invokestatic 51, 3) := by decide +kernel
theorem dX8_row_16 : decode cX8_row 16 = .ok (.ifCond .eq 13, 3) := by decide +kernel
theorem dX8_row_19 : decode cX8_row 19 = .ok (.iload_n 3, 1) := by decide +kernel
theorem dX8_row_20 : decode cX8_row 20 = .ok (.ifCond .lt 9, 3) := by decide +kernel
theorem dX8_row_23 : decode cX8_row 23 = .ok (.iload_n 3, 1) := by decide +kernel
theorem dX8_row_24 : decode cX8_row 24 = .ok (.bipush 40, 2) := by decide +kernel
theorem dX8_row_26 : decode cX8_row 26 = .ok (.if_icmp .le 10, 3) := by decide +kernel
theorem dX8_row_29 : decode cX8_row 29 = .ok (.aload_n 0, 1) := by decide +kernel
theorem dX8_row_30 : decode cX8_row 30 = .ok (.bipush (-92), 2) := by decide +kernel
theorem dX8_row_32 : decode cX8_row 32 = .ok (.invokevirtual 55, 3) := by decide +kernel
theorem dX8_row_35 : decode cX8_row 35 = .ok (.ireturn, 1) := by decide +kernel
theorem dX8_row_36 : decode cX8_row 36 = .ok (.aload 4, 2) := by decide +kernel
theorem dX8_row_38 : decode cX8_row 38 = .ok (.iload_n 2, 1) := by decide +kernel
theorem dX8_row_39 : decode cX8_row 39 = .ok (.iload_n 3, 1) := by decide +kernel
theorem dX8_row_40 : decode cX8_row 40 = .ok (.invokevirtual 59, 3) := by decide +kernel
theorem dX8_row_43 : decode cX8_row 43 = .ok (.iconst 1, 1) := by decide +kernel
theorem dX8_row_44 : decode cX8_row 44 = .ok (.ireturn, 1) := by decide +kernel
theorem dX8_set_0 : decode cX8_set 0 = .ok (.aload_n 0, 1) := by decide +kernel
theorem dX8_set_1 : decode cX8_set 1 = .ok (.iload_n 1, 1) := by decide +kernel
theorem dX8_set_2 : decode cX8_set 2 = .ok (.invokevirtual 47, 3) := by decide +kernel
theorem dX8_set_5 : decode cX8_set 5 = .ok (.astore 5, 2) := by decide +kernel
theorem dX8_set_7 : decode cX8_set 7 = .ok (.aload 5, 2) := by decide +kernel
theorem dX8_set_9 : decode cX8_set 9 = .ok (.ifnonnull 10, 3) := by decide +kernel
theorem dX8_set_12 : decode cX8_set 12 = .ok (.aload_n 0, 1) := by decide +kernel
theorem dX8_set_13 : decode cX8_set 13 = .ok (.bipush (-92), 2) := by decide +kernel
theorem dX8_set_15 : decode cX8_set 15 = .ok (.invokevirtual 55, 3) := by decide +kernel
theorem dX8_set_18 : decode cX8_set 18 = .ok (.ireturn, 1) := by decide +kernel
theorem dX8_set_19 : decode cX8_set 19 = .ok (.aload 5, 2) := by decide +kernel
theorem dX8_set_21 : decode cX8_set 21 = .ok (.invokevirtual 63, 3) := by decide +kernel
theorem dX8_set_24 : decode cX8_set 24 = .ok (.ifCond .ne 23, 3) := by decide +kernel
theorem dX8_set_27 : decode cX8_set 27 = .ok (.aload_n 0, 1) := by decide +kernel
theorem dX8_set_28 : decode cX8_set 28 = .ok (.aload 5, 2) := by decide +kernel
theorem dX8_set_30 : decode cX8_set 30 = .ok (.invokevirtual 67, 3) := by decide +kernel
theorem dX8_set_33 : decode cX8_set 33 = .ok (.ifCond .eq 8, 3) := by decide +kernel
theorem dX8_set_36 : decode cX8_set 36 = .ok (.bipush (-94), 2) := by decide +kernel
theorem dX8_set_38 : decode cX8_set 38 = .ok (.goto 5, 3) := by decide +kernel
theorem dX8_set_41 : decode cX8_set 41 = .ok (.bipush (-93), 2) := by decide +kernel
theorem dX8_set_43 : decode cX8_set 43 = .ok (.invokevirtual 55, 3) := by decide +kernel
theorem dX8_set_46 : decode cX8_set 46 = .ok (.ireturn, 1) := by decide +kernel
theorem dX8_set_47 : decode cX8_set 47 = .ok (.aload 5, 2) := by decide +kernel
theorem dX8_set_49 : decode cX8_set 49 = .ok (.iload_n 2, 1) := by decide +kernel
theorem dX8_set_50 : decode cX8_set 50 = .ok (.lload_n 3, 1) := by decide +kernel
theorem dX8_set_51 : decode cX8_set 51 = .ok (.invokevirtual 70, 3) := by decide +kernel
theorem dX8_set_54 : decode cX8_set 54 = .ok (.ifCond .eq 7, 3) := by decide +kernel
theorem dX8_set_57 : decode cX8_set 57 = .ok (.iconst 1, 1) := by decide +kernel
theorem dX8_set_58 : decode cX8_set 58 = .ok (.goto 9, 3) := by decide +kernel
theorem dX8_set_61 : decode cX8_set 61 = .ok (.aload_n 0, 1) := by decide +kernel
theorem dX8_set_62 : decode cX8_set 62 = .ok (.bipush (-92), 2) := by decide +kernel
theorem dX8_set_64 : decode cX8_set 64 = .ok (.invokevirtual 55, 3) := by decide +kernel
theorem dX8_set_67 : decode cX8_set 67 = .ok (.ireturn, 1) := by decide +kernel
theorem dX8_copy_0 : decode cX8_copy 0 = .ok (.aload_n 0, 1) := by decide +kernel
theorem dX8_copy_1 : decode cX8_copy 1 = .ok (.iload_n 1, 1) := by decide +kernel
theorem dX8_copy_2 : decode cX8_copy 2 = .ok (.invokevirtual 47, 3) := by decide +kernel
theorem dX8_copy_5 : decode cX8_copy 5 = .ok (.astore 6, 2) := by decide +kernel
theorem dX8_copy_7 : decode cX8_copy 7 = .ok (.aload_n 0, 1) := by decide +kernel
theorem dX8_copy_8 : decode cX8_copy 8 = .ok (.iload_n 2, 1) := by decide +kernel
theorem dX8_copy_9 : decode cX8_copy 9 = .ok (.invokevirtual 47, 3) := by decide +kernel
theorem dX8_copy_12 : decode cX8_copy 12 = .ok (.astore 7, 2) := by decide +kernel
theorem dX8_copy_14 : decode cX8_copy 14 = .ok (.aload 6, 2) := by decide +kernel
theorem dX8_copy_16 : decode cX8_copy 16 = .ok (.ifnull 8, 3) := by decide +kernel
theorem dX8_copy_19 : decode cX8_copy 19 = .ok (.aload 7, 2) := by decide +kernel
theorem dX8_copy_21 : decode cX8_copy 21 = .ok (.ifnonnull 10, 3) := by decide +kernel
theorem dX8_copy_24 : decode cX8_copy 24 = .ok (.aload_n 0, 1) := by decide +kernel
theorem dX8_copy_25 : decode cX8_copy 25 = .ok (.bipush (-92), 2) := by decide +kernel
theorem dX8_copy_27 : decode cX8_copy 27 = .ok (.invokevirtual 55, 3) := by decide +kernel
theorem dX8_copy_30 : decode cX8_copy 30 = .ok (.ireturn, 1) := by decide +kernel
theorem dX8_copy_31 : decode cX8_copy 31 = .ok (.aload 6, 2) := by decide +kernel
theorem dX8_copy_33 : decode cX8_copy 33 = .ok (.invokevirtual 74, 3) := by decide +kernel
theorem dX8_copy_36 : decode cX8_copy 36 = .ok (.ifCond .ne 11, 3) := by decide +kernel
theorem dX8_copy_39 : decode cX8_copy 39 = .ok (.aload 7, 2) := by decide +kernel
theorem dX8_copy_41 : decode cX8_copy 41 = .ok (.invokevirtual 74, 3) := by decide +kernel
theorem dX8_copy_44 : decode cX8_copy 44 = .ok (.ifCond .eq 10, 3) := by decide +kernel
theorem dX8_copy_47 : decode cX8_copy 47 = .ok (.aload_n 0, 1) := by decide +kernel
theorem dX8_copy_48 : decode cX8_copy 48 = .ok (.bipush (-93), 2) := by decide +kernel
theorem dX8_copy_50 : decode cX8_copy 50 = .ok (.invokevirtual 55, 3) := by decide +kernel
theorem dX8_copy_53 : decode cX8_copy 53 = .ok (.ireturn, 1) := by decide +kernel
theorem dX8_copy_54 : decode cX8_copy 54 = .ok (.aload 6, 2) := by decide +kernel
theorem dX8_copy_56 : decode cX8_copy 56 = .ok (.invokevirtual 67, 3) := by decide +kernel
theorem dX8_copy_59 : decode cX8_copy 59 = .ok (.ifCond .ne 11, 3) := by decide +kernel
theorem dX8_copy_62 : decode cX8_copy 62 = .ok (.aload 7, 2) := by decide +kernel
theorem dX8_copy_64 : decode cX8_copy 64 = .ok (.invokevirtual 67, 3) := by decide +kernel
theorem dX8_copy_67 : decode cX8_copy 67 = .ok (.ifCond .eq 10, 3) := by decide +kernel
theorem dX8_copy_70 : decode cX8_copy 70 = .ok (.aload_n 0, 1) := by decide +kernel
theorem dX8_copy_71 : decode cX8_copy 71 = .ok (.bipush (-94), 2) := by decide +kernel
theorem dX8_copy_73 : decode cX8_copy 73 = .ok (.invokevirtual 55, 3) := by decide +kernel
theorem dX8_copy_76 : decode cX8_copy 76 = .ok (.ireturn, 1) := by decide +kernel
theorem dX8_copy_77 : decode cX8_copy 77 = .ok (.aload 6, 2) := by decide +kernel
theorem dX8_copy_79 : decode cX8_copy 79 = .ok (.getfield 77, 3) := by decide +kernel
theorem dX8_copy_82 : decode cX8_copy 82 = .ok (.aload 7, 2) := by decide +kernel
theorem dX8_copy_84 : decode cX8_copy 84 = .ok (.getfield 77, 3) := by decide +kernel
theorem dX8_copy_87 : decode cX8_copy 87 = .ok (.if_icmp .eq 10, 3) := by decide +kernel
theorem dX8_copy_90 : decode cX8_copy 90 = .ok (.aload_n 0, 1) := by decide +kernel
theorem dX8_copy_91 : decode cX8_copy 91 = .ok (.bipush (-93), 2) := by decide +kernel
theorem dX8_copy_93 : decode cX8_copy 93 = .ok (.invokevirtual 55, 3) := by decide +kernel
theorem dX8_copy_96 : decode cX8_copy 96 = .ok (.ireturn, 1) := by decide +kernel
theorem dX8_copy_97 : decode cX8_copy 97 = .ok (.aload 6, 2) := by decide +kernel
theorem dX8_copy_99 : decode cX8_copy 99 = .ok (.iload_n 3, 1) := by decide +kernel
theorem dX8_copy_100 : decode cX8_copy 100 = .ok (.aload 7, 2) := by decide +kernel
theorem dX8_copy_102 : decode cX8_copy 102 = .ok (.iload 4, 2) := by decide +kernel
theorem dX8_copy_104 : decode cX8_copy 104 = .ok (.iload 5, 2) := by decide +kernel
theorem dX8_copy_106 : decode cX8_copy 106 = .ok (.invokevirtual 81, 3) := by decide +kernel
theorem dX8_copy_109 : decode cX8_copy 109 = .ok (.ifCond .eq 8, 3) := by decide +kernel
theorem dX8_copy_112 : decode cX8_copy 112 = .ok (.iload 5, 2) := by decide +kernel
theorem dX8_copy_114 : decode cX8_copy 114 = .ok (.goto 9, 3) := by decide +kernel
theorem dX8_copy_117 : decode cX8_copy 117 = .ok (.aload_n 0, 1) := by decide +kernel
theorem dX8_copy_118 : decode cX8_copy 118 = .ok (.bipush (-92), 2) := by decide +kernel
theorem dX8_copy_120 : decode cX8_copy 120 = .ok (.invokevirtual 55, 3) := by decide +kernel
theorem dX8_copy_123 : decode cX8_copy 123 = .ok (.ireturn, 1) := by decide +kernel
theorem dX8_element_0 : decode cX8_element 0 = .ok (.aload_n 0, 1) := by decide +kernel
theorem dX8_element_1 : decode cX8_element 1 = .ok (.iload_n 1, 1) := by decide +kernel
theorem dX8_element_2 : decode cX8_element 2 = .ok (.invokevirtual 47, 3) := by decide +kernel
theorem dX8_element_5 : decode cX8_element 5 = .ok (.astore_n 3, 1) := by decide +kernel
theorem dX8_element_6 : decode cX8_element 6 = .ok (.aload_n 3, 1) := by decide +kernel
theorem dX8_element_7 : decode cX8_element 7 = .ok (.ifnonnull 7, 3) := by decide +kernel
theorem dX8_element_10 : decode cX8_element 10 = .ok (.lconst 0, 1) := by decide +kernel
theorem dX8_element_11 : decode cX8_element 11 = .ok (.goto 8, 3) := by decide +kernel
theorem dX8_element_14 : decode cX8_element 14 = .ok (.aload_n 3, 1) := by decide +kernel
theorem dX8_element_15 : decode cX8_element 15 = .ok (.iload_n 2, 1) := by decide +kernel
theorem dX8_element_16 : decode cX8_element 16 = .ok (.invokevirtual 85, 3) := by decide +kernel
theorem dX8_element_19 : decode cX8_element 19 = .ok (.lreturn, 1) := by decide +kernel
theorem dX8_holds_0 : decode cX8_holds 0 = .ok (.aload_n 0, 1) := by decide +kernel
theorem dX8_holds_1 : decode cX8_holds 1 = .ok (.iload_n 1, 1) := by decide +kernel
theorem dX8_holds_2 : decode cX8_holds 2 = .ok (.invokevirtual 47, 3) := by decide +kernel
theorem dX8_holds_5 : decode cX8_holds 5 = .ok (.astore_n 2, 1) := by decide +kernel
theorem dX8_holds_6 : decode cX8_holds 6 = .ok (.aload_n 2, 1) := by decide +kernel
theorem dX8_holds_7 : decode cX8_holds 7 = .ok (.ifnonnull 7, 3) := by decide +kernel
theorem dX8_holds_10 : decode cX8_holds 10 = .ok (.iconst (-1), 1) := by decide +kernel
theorem dX8_holds_11 : decode cX8_holds 11 = .ok (.goto 7, 3) := by decide +kernel
theorem dX8_holds_14 : decode cX8_holds 14 = .ok (.aload_n 2, 1) := by decide +kernel
theorem dX8_holds_15 : decode cX8_holds 15 = .ok (.getfield 77, 3) := by decide +kernel
theorem dX8_holds_18 : decode cX8_holds 18 = .ok (.ireturn, 1) := by decide +kernel
theorem dX8_show_0 : decode cX8_show 0 = .ok (.aload_n 0, 1) := by decide +kernel
theorem dX8_show_1 : decode cX8_show 1 = .ok (.iload_n 1, 1) := by decide +kernel
theorem dX8_show_2 : decode cX8_show 2 = .ok (.invokevirtual 47, 3) := by decide +kernel
theorem dX8_show_5 : decode cX8_show 5 = .ok (.astore 4, 2) := by decide +kernel
theorem dX8_show_7 : decode cX8_show 7 = .ok (.aload 4, 2) := by decide +kernel
theorem dX8_show_9 : decode cX8_show 9 = .ok (.ifnonnull 10, 3) := by decide +kernel
theorem dX8_show_12 : decode cX8_show 12 = .ok (.aload_n 0, 1) := by decide +kernel
theorem dX8_show_13 : decode cX8_show 13 = .ok (.bipush (-92), 2) := by decide +kernel
theorem dX8_show_15 : decode cX8_show 15 = .ok (.invokevirtual 55, 3) := by decide +kernel
theorem dX8_show_18 : decode cX8_show 18 = .ok (.ireturn, 1) := by decide +kernel
theorem dX8_show_19 : decode cX8_show 19 = .ok (.iload_n 2, 1) := by decide +kernel
theorem dX8_show_20 : decode cX8_show 20 = .ok (.iconst (-1), 1) := by decide +kernel
theorem dX8_show_21 : decode cX8_show 21 = .ok (.if_icmp .ne 10, 3) := by decide +kernel
theorem dX8_show_24 : decode cX8_show 24 = .ok (.aload 4, 2) := by decide +kernel
theorem dX8_show_26 : decode cX8_show 26 = .ok (.invokevirtual 89, 3) := by decide +kernel
theorem dX8_show_29 : decode cX8_show 29 = .ok (.iconst 1, 1) := by decide +kernel
theorem dX8_show_30 : decode cX8_show 30 = .ok (.ireturn, 1) := by decide +kernel
theorem dX8_show_31 : decode cX8_show 31 = .ok (.aload_n 0, 1) := by decide +kernel
theorem dX8_show_32 : decode cX8_show 32 = .ok (.getfield 10, 3) := by decide +kernel
theorem dX8_show_35 : decode cX8_show 35 = .ok (.iload_n 2, 1) := by decide +kernel
theorem dX8_show_36 : decode cX8_show 36 = .ok (.invokevirtual 92, 3) := by decide +kernel
theorem dX8_show_39 : decode cX8_show 39 = .ok (.astore 5, 2) := by decide +kernel
theorem dX8_show_41 : decode cX8_show 41 = .ok (.aload 5, 2) := by decide +kernel
theorem dX8_show_43 : decode cX8_show 43 = .ok (.ifnull 15, 3) := by decide +kernel
theorem dX8_show_46 : decode cX8_show 46 = .ok (.aload 5, 2) := by decide +kernel
theorem dX8_show_48 : decode cX8_show 48 = .ok (.getfield 96, 3) := by decide +kernel
theorem dX8_show_51 : decode cX8_show 51 = .ok (.iload_n 3, 1) := by decide +kernel
theorem dX8_show_52 : decode cX8_show 52 = .ok (.invokevirtual 102, 3) := by decide +kernel
theorem dX8_show_55 : decode cX8_show 55 = .ok (.ifCond .ne 10, 3) := by decide +kernel
theorem dX8_show_58 : decode cX8_show 58 = .ok (.aload_n 0, 1) := by decide +kernel
theorem dX8_show_59 : decode cX8_show 59 = .ok (.bipush (-92), 2) := by decide +kernel
theorem dX8_show_61 : decode cX8_show 61 = .ok (.invokevirtual 55, 3) := by decide +kernel
theorem dX8_show_64 : decode cX8_show 64 = .ok (.ireturn, 1) := by decide +kernel
theorem dX8_show_65 : decode cX8_show 65 = .ok (.aload 4, 2) := by decide +kernel
theorem dX8_show_67 : decode cX8_show 67 = .ok (.aload 5, 2) := by decide +kernel
theorem dX8_show_69 : decode cX8_show 69 = .ok (.getfield 96, 3) := by decide +kernel
theorem dX8_show_72 : decode cX8_show 72 = .ok (.iload_n 3, 1) := by decide +kernel
theorem dX8_show_73 : decode cX8_show 73 = .ok (.invokevirtual 107, 3) := by decide +kernel
theorem dX8_show_76 : decode cX8_show 76 = .ok (.invokevirtual 110, 3) := by decide +kernel
theorem dX8_show_79 : decode cX8_show 79 = .ok (.iconst 1, 1) := by decide +kernel
theorem dX8_show_80 : decode cX8_show 80 = .ok (.ireturn, 1) := by decide +kernel
theorem dX8_says_0 : decode cX8_says 0 = .ok (.aload_n 0, 1) := by decide +kernel
theorem dX8_says_1 : decode cX8_says 1 = .ok (.iload_n 1, 1) := by decide +kernel
theorem dX8_says_2 : decode cX8_says 2 = .ok (.invokevirtual 47, 3) := by decide +kernel
theorem dX8_says_5 : decode cX8_says 5 = .ok (.astore_n 3, 1) := by decide +kernel
theorem dX8_says_6 : decode cX8_says 6 = .ok (.aload_n 3, 1) := by decide +kernel
theorem dX8_says_7 : decode cX8_says 7 = .ok (.ifnull 10, 3) := by decide +kernel
theorem dX8_says_10 : decode cX8_says 10 = .ok (.iload_n 2, 1) := by decide +kernel
theorem dX8_says_11 : decode cX8_says 11 = .ok (.invokestatic 114, 3) := by decide +kernel
theorem dX8_says_14 : decode cX8_says 14 = .ok (.ifCond .ne 10, 3) := by decide +kernel
theorem dX8_says_17 : decode cX8_says 17 = .ok (.aload_n 0, 1) := by decide +kernel
theorem dX8_says_18 : decode cX8_says 18 = .ok (.bipush (-92), 2) := by decide +kernel
theorem dX8_says_20 : decode cX8_says 20 = .ok (.invokevirtual 55, 3) := by decide +kernel
theorem dX8_says_23 : decode cX8_says 23 = .ok (.ireturn, 1) := by decide +kernel
theorem dX8_says_24 : decode cX8_says 24 = .ok (.aload_n 3, 1) := by decide +kernel
theorem dX8_says_25 : decode cX8_says 25 = .ok (.invokevirtual 67, 3) := by decide +kernel
theorem dX8_says_28 : decode cX8_says 28 = .ok (.ifCond .eq 10, 3) := by decide +kernel
theorem dX8_says_31 : decode cX8_says 31 = .ok (.aload_n 0, 1) := by decide +kernel
theorem dX8_says_32 : decode cX8_says 32 = .ok (.bipush (-94), 2) := by decide +kernel
theorem dX8_says_34 : decode cX8_says 34 = .ok (.invokevirtual 55, 3) := by decide +kernel
theorem dX8_says_37 : decode cX8_says 37 = .ok (.ireturn, 1) := by decide +kernel
theorem dX8_says_38 : decode cX8_says 38 = .ok (.aload_n 3, 1) := by decide +kernel
theorem dX8_says_39 : decode cX8_says 39 = .ok (.invokevirtual 119, 3) := by decide +kernel
theorem dX8_says_42 : decode cX8_says 42 = .ok (.istore 4, 2) := by decide +kernel
theorem dX8_says_44 : decode cX8_says 44 = .ok (.iload 4, 2) := by decide +kernel
theorem dX8_says_46 : decode cX8_says 46 = .ok (.iload_n 2, 1) := by decide +kernel
theorem dX8_says_47 : decode cX8_says 47 = .ok (.invokestatic 123, 3) := by decide +kernel
theorem dX8_says_50 : decode cX8_says 50 = .ok (.ifCond .eq 12, 3) := by decide +kernel
theorem dX8_says_53 : decode cX8_says 53 = .ok (.iload 4, 2) := by decide +kernel
theorem dX8_says_55 : decode cX8_says 55 = .ok (.iload_n 2, 1) := by decide +kernel
theorem dX8_says_56 : decode cX8_says 56 = .ok (.invokestatic 127, 3) := by decide +kernel
theorem dX8_says_59 : decode cX8_says 59 = .ok (.goto 9, 3) := by decide +kernel
theorem dX8_says_62 : decode cX8_says 62 = .ok (.aload_n 0, 1) := by decide +kernel
theorem dX8_says_63 : decode cX8_says 63 = .ok (.bipush (-93), 2) := by decide +kernel
theorem dX8_says_65 : decode cX8_says 65 = .ok (.invokevirtual 55, 3) := by decide +kernel
theorem dX8_says_68 : decode cX8_says 68 = .ok (.ireturn, 1) := by decide +kernel
theorem dX8_feed_0 : decode cX8_feed 0 = .ok (.iload_n 1, 1) := by decide +kernel
theorem dX8_feed_1 : decode cX8_feed 1 = .ok (.ifCond .lt 10, 3) := by decide +kernel
theorem dX8_feed_4 : decode cX8_feed 4 = .ok (.iload_n 1, 1) := by decide +kernel
theorem dX8_feed_5 : decode cX8_feed 5 = .ok (.sipush 255, 3) := by decide +kernel
theorem dX8_feed_8 : decode cX8_feed 8 = .ok (.if_icmp .le 10, 3) := by decide +kernel
theorem dX8_feed_11 : decode cX8_feed 11 = .ok (.aload_n 0, 1) := by decide +kernel
theorem dX8_feed_12 : decode cX8_feed 12 = .ok (.bipush (-92), 2) := by decide +kernel
theorem dX8_feed_14 : decode cX8_feed 14 = .ok (.invokevirtual 55, 3) := by decide +kernel
theorem dX8_feed_17 : decode cX8_feed 17 = .ok (.ireturn, 1) := by decide +kernel
theorem dX8_feed_18 : decode cX8_feed 18 = .ok (.aload_n 0, 1) := by decide +kernel
theorem dX8_feed_19 : decode cX8_feed 19 = .ok (.getfield 131, 3) := by decide +kernel
theorem dX8_feed_22 : decode cX8_feed 22 = .ok (.ifCond .lt 15, 3) := by decide +kernel
theorem dX8_feed_25 : decode cX8_feed 25 = .ok (.aload_n 0, 1) := by decide +kernel
theorem dX8_feed_26 : decode cX8_feed 26 = .ok (.getfield 131, 3) := by decide +kernel
theorem dX8_feed_29 : decode cX8_feed 29 = .ok (.aload_n 0, 1) := by decide +kernel
theorem dX8_feed_30 : decode cX8_feed 30 = .ok (.getfield 19, 3) := by decide +kernel
theorem dX8_feed_33 : decode cX8_feed 33 = .ok (.arraylength, 1) := by decide +kernel
theorem dX8_feed_34 : decode cX8_feed 34 = .ok (.if_icmp .lt 10, 3) := by decide +kernel
theorem dX8_feed_37 : decode cX8_feed 37 = .ok (.aload_n 0, 1) := by decide +kernel
theorem dX8_feed_38 : decode cX8_feed 38 = .ok (.bipush (-96), 2) := by decide +kernel
theorem dX8_feed_40 : decode cX8_feed 40 = .ok (.invokevirtual 55, 3) := by decide +kernel
theorem dX8_feed_43 : decode cX8_feed 43 = .ok (.ireturn, 1) := by decide +kernel
theorem dX8_feed_44 : decode cX8_feed 44 = .ok (.aload_n 0, 1) := by decide +kernel
theorem dX8_feed_45 : decode cX8_feed 45 = .ok (.getfield 19, 3) := by decide +kernel
theorem dX8_feed_48 : decode cX8_feed 48 = .ok (.aload_n 0, 1) := by decide +kernel
theorem dX8_feed_49 : decode cX8_feed 49 = .ok (.getfield 131, 3) := by decide +kernel
theorem dX8_feed_52 : decode cX8_feed 52 = .ok (.iload_n 1, 1) := by decide +kernel
theorem dX8_feed_53 : decode cX8_feed 53 = .ok (.iastore, 1) := by decide +kernel
theorem dX8_feed_54 : decode cX8_feed 54 = .ok (.aload_n 0, 1) := by decide +kernel
theorem dX8_feed_55 : decode cX8_feed 55 = .ok (.dup, 1) := by decide +kernel
theorem dX8_feed_56 : decode cX8_feed 56 = .ok (.getfield 131, 3) := by decide +kernel
theorem dX8_feed_59 : decode cX8_feed 59 = .ok (.iconst 1, 1) := by decide +kernel
theorem dX8_feed_60 : decode cX8_feed 60 = .ok (.iadd, 1) := by decide +kernel
theorem dX8_feed_61 : decode cX8_feed 61 = .ok (.putfield 131, 3) := by decide +kernel
theorem dX8_feed_64 : decode cX8_feed 64 = .ok (.aload_n 0, 1) := by decide +kernel
theorem dX8_feed_65 : decode cX8_feed 65 = .ok (.getfield 131, 3) := by decide +kernel
theorem dX8_feed_68 : decode cX8_feed 68 = .ok (.ireturn, 1) := by decide +kernel
theorem dX8_wipe_0 : decode cX8_wipe 0 = .ok (.aload_n 0, 1) := by decide +kernel
theorem dX8_wipe_1 : decode cX8_wipe 1 = .ok (.getfield 131, 3) := by decide +kernel
theorem dX8_wipe_4 : decode cX8_wipe 4 = .ok (.istore_n 1, 1) := by decide +kernel
theorem dX8_wipe_5 : decode cX8_wipe 5 = .ok (.aload_n 0, 1) := by decide +kernel
theorem dX8_wipe_6 : decode cX8_wipe 6 = .ok (.iconst 0, 1) := by decide +kernel
theorem dX8_wipe_7 : decode cX8_wipe 7 = .ok (.putfield 131, 3) := by decide +kernel
theorem dX8_wipe_10 : decode cX8_wipe 10 = .ok (.iload_n 1, 1) := by decide +kernel
theorem dX8_wipe_11 : decode cX8_wipe 11 = .ok (.ireturn, 1) := by decide +kernel
theorem dX8_line_0 : decode cX8_line 0 = .ok (.new 134, 3) := by decide +kernel
theorem dX8_line_3 : decode cX8_line 3 = .ok (.dup, 1) := by decide +kernel
theorem dX8_line_4 : decode cX8_line 4 = .ok (.aload_n 0, 1) := by decide +kernel
theorem dX8_line_5 : decode cX8_line 5 = .ok (.getfield 19, 3) := by decide +kernel
theorem dX8_line_8 : decode cX8_line 8 = .ok (.aload_n 0, 1) := by decide +kernel
theorem dX8_line_9 : decode cX8_line 9 = .ok (.getfield 131, 3) := by decide +kernel
theorem dX8_line_12 : decode cX8_line 12 = .ok (.invokespecial 136, 3) := by decide +kernel
theorem dX8_line_15 : decode cX8_line 15 = .ok (.astore_n 1, 1) := by decide +kernel
theorem dX8_line_16 : decode cX8_line 16 = .ok (.aload_n 1, 1) := by decide +kernel
theorem dX8_line_17 : decode cX8_line 17 = .ok (.invokevirtual 139, 3) := by decide +kernel
theorem dX8_line_20 : decode cX8_line 20 = .ok (.aload_n 0, 1) := by decide +kernel
theorem dX8_line_21 : decode cX8_line 21 = .ok (.iconst 0, 1) := by decide +kernel
theorem dX8_line_22 : decode cX8_line 22 = .ok (.putfield 131, 3) := by decide +kernel
theorem dX8_line_25 : decode cX8_line 25 = .ok (.aload_n 1, 1) := by decide +kernel
theorem dX8_line_26 : decode cX8_line 26 = .ok (.getfield 142, 3) := by decide +kernel
theorem dX8_line_29 : decode cX8_line 29 = .ok (.iconst (-1), 1) := by decide +kernel
theorem dX8_line_30 : decode cX8_line 30 = .ok (.if_icmp .eq 19, 3) := by decide +kernel
theorem dX8_line_33 : decode cX8_line 33 = .ok (.aload_n 0, 1) := by decide +kernel
theorem dX8_line_34 : decode cX8_line 34 = .ok (.bipush (-92), 2) := by decide +kernel
theorem dX8_line_36 : decode cX8_line 36 = .ok (.invokevirtual 55, 3) := by decide +kernel
theorem dX8_line_39 : decode cX8_line 39 = .ok (.pop, 1) := by decide +kernel
theorem dX8_line_40 : decode cX8_line 40 = .ok (.sipush (-600), 3) := by decide +kernel
theorem dX8_line_43 : decode cX8_line 43 = .ok (.aload_n 1, 1) := by decide +kernel
theorem dX8_line_44 : decode cX8_line 44 = .ok (.getfield 142, 3) := by decide +kernel
theorem dX8_line_47 : decode cX8_line 47 = .ok (.isub, 1) := by decide +kernel
theorem dX8_line_48 : decode cX8_line 48 = .ok (.ireturn, 1) := by decide +kernel
theorem dX8_line_49 : decode cX8_line 49 = .ok (.aload_n 0, 1) := by decide +kernel
theorem dX8_line_50 : decode cX8_line 50 = .ok (.getfield 10, 3) := by decide +kernel
theorem dX8_line_53 : decode cX8_line 53 = .ok (.aload_n 1, 1) := by decide +kernel
theorem dX8_line_54 : decode cX8_line 54 = .ok (.invokevirtual 145, 3) := by decide +kernel
theorem dX8_line_57 : decode cX8_line 57 = .ok (.ifCond .eq 15, 3) := by decide +kernel
theorem dX8_line_60 : decode cX8_line 60 = .ok (.aload_n 0, 1) := by decide +kernel
theorem dX8_line_61 : decode cX8_line 61 = .ok (.getfield 10, 3) := by decide +kernel
theorem dX8_line_64 : decode cX8_line 64 = .ok (.getfield 149, 3) := by decide +kernel
theorem dX8_line_67 : decode cX8_line 67 = .ok (.iconst 1, 1) := by decide +kernel
theorem dX8_line_68 : decode cX8_line 68 = .ok (.isub, 1) := by decide +kernel
theorem dX8_line_69 : decode cX8_line 69 = .ok (.goto 9, 3) := by decide +kernel
theorem dX8_line_72 : decode cX8_line 72 = .ok (.aload_n 0, 1) := by decide +kernel
theorem dX8_line_73 : decode cX8_line 73 = .ok (.bipush (-96), 2) := by decide +kernel
theorem dX8_line_75 : decode cX8_line 75 = .ok (.invokevirtual 55, 3) := by decide +kernel
theorem dX8_line_78 : decode cX8_line 78 = .ok (.ireturn, 1) := by decide +kernel
theorem dX8_drop_0 : decode cX8_drop 0 = .ok (.aload_n 0, 1) := by decide +kernel
theorem dX8_drop_1 : decode cX8_drop 1 = .ok (.getfield 10, 3) := by decide +kernel
theorem dX8_drop_4 : decode cX8_drop 4 = .ok (.invokevirtual 152, 3) := by decide +kernel
theorem dX8_drop_7 : decode cX8_drop 7 = .ok (.ifCond .eq 13, 3) := by decide +kernel
theorem dX8_drop_10 : decode cX8_drop 10 = .ok (.aload_n 0, 1) := by decide +kernel
theorem dX8_drop_11 : decode cX8_drop 11 = .ok (.getfield 10, 3) := by decide +kernel
theorem dX8_drop_14 : decode cX8_drop 14 = .ok (.getfield 149, 3) := by decide +kernel
theorem dX8_drop_17 : decode cX8_drop 17 = .ok (.goto 9, 3) := by decide +kernel
theorem dX8_drop_20 : decode cX8_drop 20 = .ok (.aload_n 0, 1) := by decide +kernel
theorem dX8_drop_21 : decode cX8_drop 21 = .ok (.bipush (-95), 2) := by decide +kernel
theorem dX8_drop_23 : decode cX8_drop 23 = .ok (.invokevirtual 55, 3) := by decide +kernel
theorem dX8_drop_26 : decode cX8_drop 26 = .ok (.ireturn, 1) := by decide +kernel
theorem dX8_lineOf_0 : decode cX8_lineOf 0 = .ok (.aload_n 0, 1) := by decide +kernel
theorem dX8_lineOf_1 : decode cX8_lineOf 1 = .ok (.getfield 10, 3) := by decide +kernel
theorem dX8_lineOf_4 : decode cX8_lineOf 4 = .ok (.iload_n 1, 1) := by decide +kernel
theorem dX8_lineOf_5 : decode cX8_lineOf 5 = .ok (.invokevirtual 155, 3) := by decide +kernel
theorem dX8_lineOf_8 : decode cX8_lineOf 8 = .ok (.astore_n 3, 1) := by decide +kernel
theorem dX8_lineOf_9 : decode cX8_lineOf 9 = .ok (.aload_n 3, 1) := by decide +kernel
theorem dX8_lineOf_10 : decode cX8_lineOf 10 = .ok (.ifnonnull 10, 3) := by decide +kernel
theorem dX8_lineOf_13 : decode cX8_lineOf 13 = .ok (.aload_n 0, 1) := by decide +kernel
theorem dX8_lineOf_14 : decode cX8_lineOf 14 = .ok (.bipush (-92), 2) := by decide +kernel
theorem dX8_lineOf_16 : decode cX8_lineOf 16 = .ok (.invokevirtual 55, 3) := by decide +kernel
theorem dX8_lineOf_19 : decode cX8_lineOf 19 = .ok (.ireturn, 1) := by decide +kernel
theorem dX8_lineOf_20 : decode cX8_lineOf 20 = .ok (.iload_n 2, 1) := by decide +kernel
theorem dX8_lineOf_21 : decode cX8_lineOf 21 = .ok (.tableswitch 59 0 3 #[31, 36, 41, 46], 31) := by decide +kernel
theorem dX8_lineOf_52 : decode cX8_lineOf 52 = .ok (.aload_n 3, 1) := by decide +kernel
theorem dX8_lineOf_53 : decode cX8_lineOf 53 = .ok (.getfield 159, 3) := by decide +kernel
theorem dX8_lineOf_56 : decode cX8_lineOf 56 = .ok (.ireturn, 1) := by decide +kernel
theorem dX8_lineOf_57 : decode cX8_lineOf 57 = .ok (.aload_n 3, 1) := by decide +kernel
theorem dX8_lineOf_58 : decode cX8_lineOf 58 = .ok (.getfield 162, 3) := by decide +kernel
theorem dX8_lineOf_61 : decode cX8_lineOf 61 = .ok (.ireturn, 1) := by decide +kernel
theorem dX8_lineOf_62 : decode cX8_lineOf 62 = .ok (.aload_n 3, 1) := by decide +kernel
theorem dX8_lineOf_63 : decode cX8_lineOf 63 = .ok (.invokevirtual 165, 3) := by decide +kernel
theorem dX8_lineOf_66 : decode cX8_lineOf 66 = .ok (.ireturn, 1) := by decide +kernel
theorem dX8_lineOf_67 : decode cX8_lineOf 67 = .ok (.aload_n 3, 1) := by decide +kernel
theorem dX8_lineOf_68 : decode cX8_lineOf 68 = .ok (.getfield 168, 3) := by decide +kernel
theorem dX8_lineOf_71 : decode cX8_lineOf 71 = .ok (.ifCond .eq 7, 3) := by decide +kernel
theorem dX8_lineOf_74 : decode cX8_lineOf 74 = .ok (.iconst 1, 1) := by decide +kernel
theorem dX8_lineOf_75 : decode cX8_lineOf 75 = .ok (.goto 4, 3) := by decide +kernel
theorem dX8_lineOf_78 : decode cX8_lineOf 78 = .ok (.iconst 0, 1) := by decide +kernel
theorem dX8_lineOf_79 : decode cX8_lineOf 79 = .ok (.ireturn, 1) := by decide +kernel
theorem dX8_lineOf_80 : decode cX8_lineOf 80 = .ok (.aload_n 0, 1) := by decide +kernel
theorem dX8_lineOf_81 : decode cX8_lineOf 81 = .ok (.bipush (-92), 2) := by decide +kernel
theorem dX8_lineOf_83 : decode cX8_lineOf 83 = .ok (.invokevirtual 55, 3) := by decide +kernel
theorem dX8_lineOf_86 : decode cX8_lineOf 86 = .ok (.ireturn, 1) := by decide +kernel
theorem dX8_text_0 : decode cX8_text 0 = .ok (.aload_n 0, 1) := by decide +kernel
theorem dX8_text_1 : decode cX8_text 1 = .ok (.getfield 10, 3) := by decide +kernel
theorem dX8_text_4 : decode cX8_text 4 = .ok (.iload_n 1, 1) := by decide +kernel
theorem dX8_text_5 : decode cX8_text 5 = .ok (.invokevirtual 155, 3) := by decide +kernel
theorem dX8_text_8 : decode cX8_text 8 = .ok (.astore_n 3, 1) := by decide +kernel
theorem dX8_text_9 : decode cX8_text 9 = .ok (.aload_n 3, 1) := by decide +kernel
theorem dX8_text_10 : decode cX8_text 10 = .ok (.ifnonnull 12, 3) := by decide +kernel
theorem dX8_text_13 : decode cX8_text 13 = .ok (.aload_n 0, 1) := by decide +kernel
theorem dX8_text_14 : decode cX8_text 14 = .ok (.bipush (-92), 2) := by decide +kernel
theorem dX8_text_16 : decode cX8_text 16 = .ok (.invokevirtual 55, 3) := by decide +kernel
theorem dX8_text_19 : decode cX8_text 19 = .ok (.goto 8, 3) := by decide +kernel
theorem dX8_text_22 : decode cX8_text 22 = .ok (.aload_n 3, 1) := by decide +kernel
theorem dX8_text_23 : decode cX8_text 23 = .ok (.iload_n 2, 1) := by decide +kernel
theorem dX8_text_24 : decode cX8_text 24 = .ok (.invokevirtual 172, 3) := by decide +kernel
theorem dX8_text_27 : decode cX8_text 27 = .ok (.ireturn, 1) := by decide +kernel
theorem dX8_mode_0 : decode cX8_mode 0 = .ok (.iload_n 1, 1) := by decide +kernel
theorem dX8_mode_1 : decode cX8_mode 1 = .ok (.ifCond .eq 15, 3) := by decide +kernel
theorem dX8_mode_4 : decode cX8_mode 4 = .ok (.iload_n 1, 1) := by decide +kernel
theorem dX8_mode_5 : decode cX8_mode 5 = .ok (.iconst 1, 1) := by decide +kernel
theorem dX8_mode_6 : decode cX8_mode 6 = .ok (.if_icmp .eq 10, 3) := by decide +kernel
theorem dX8_mode_9 : decode cX8_mode 9 = .ok (.aload_n 0, 1) := by decide +kernel
theorem dX8_mode_10 : decode cX8_mode 10 = .ok (.bipush (-92), 2) := by decide +kernel
theorem dX8_mode_12 : decode cX8_mode 12 = .ok (.invokevirtual 55, 3) := by decide +kernel
theorem dX8_mode_15 : decode cX8_mode 15 = .ok (.ireturn, 1) := by decide +kernel
theorem dX8_mode_16 : decode cX8_mode 16 = .ok (.aload_n 0, 1) := by decide +kernel
theorem dX8_mode_17 : decode cX8_mode 17 = .ok (.getfield 10, 3) := by decide +kernel
theorem dX8_mode_20 : decode cX8_mode 20 = .ok (.getfield 175, 3) := by decide +kernel
theorem dX8_mode_23 : decode cX8_mode 23 = .ok (.ifCond .le 10, 3) := by decide +kernel
theorem dX8_mode_26 : decode cX8_mode 26 = .ok (.aload_n 0, 1) := by decide +kernel
theorem dX8_mode_27 : decode cX8_mode 27 = .ok (.bipush (-95), 2) := by decide +kernel
theorem dX8_mode_29 : decode cX8_mode 29 = .ok (.invokevirtual 55, 3) := by decide +kernel
theorem dX8_mode_32 : decode cX8_mode 32 = .ok (.ireturn, 1) := by decide +kernel
theorem dX8_mode_33 : decode cX8_mode 33 = .ok (.aload_n 0, 1) := by decide +kernel
theorem dX8_mode_34 : decode cX8_mode 34 = .ok (.getfield 10, 3) := by decide +kernel
theorem dX8_mode_37 : decode cX8_mode 37 = .ok (.getfield 178, 3) := by decide +kernel
theorem dX8_mode_40 : decode cX8_mode 40 = .ok (.istore_n 2, 1) := by decide +kernel
theorem dX8_mode_41 : decode cX8_mode 41 = .ok (.aload_n 0, 1) := by decide +kernel
theorem dX8_mode_42 : decode cX8_mode 42 = .ok (.getfield 10, 3) := by decide +kernel
theorem dX8_mode_45 : decode cX8_mode 45 = .ok (.iload_n 1, 1) := by decide +kernel
theorem dX8_mode_46 : decode cX8_mode 46 = .ok (.putfield 178, 3) := by decide +kernel
theorem dX8_mode_49 : decode cX8_mode 49 = .ok (.iload_n 2, 1) := by decide +kernel
theorem dX8_mode_50 : decode cX8_mode 50 = .ok (.ireturn, 1) := by decide +kernel
theorem dX8_cast_0 : decode cX8_cast 0 = .ok (.iload_n 1, 1) := by decide +kernel
theorem dX8_cast_1 : decode cX8_cast 1 = .ok (.iconst 1, 1) := by decide +kernel
theorem dX8_cast_2 : decode cX8_cast 2 = .ok (.if_icmp .lt 9, 3) := by decide +kernel
theorem dX8_cast_5 : decode cX8_cast 5 = .ok (.iload_n 1, 1) := by decide +kernel
theorem dX8_cast_6 : decode cX8_cast 6 = .ok (.bipush 60, 2) := by decide +kernel
theorem dX8_cast_8 : decode cX8_cast 8 = .ok (.if_icmp .le 10, 3) := by decide +kernel
theorem dX8_cast_11 : decode cX8_cast 11 = .ok (.aload_n 0, 1) := by decide +kernel
theorem dX8_cast_12 : decode cX8_cast 12 = .ok (.bipush (-92), 2) := by decide +kernel
theorem dX8_cast_14 : decode cX8_cast 14 = .ok (.invokevirtual 55, 3) := by decide +kernel
theorem dX8_cast_17 : decode cX8_cast 17 = .ok (.ireturn, 1) := by decide +kernel
theorem dX8_cast_18 : decode cX8_cast 18 = .ok (.aload_n 0, 1) := by decide +kernel
theorem dX8_cast_19 : decode cX8_cast 19 = .ok (.getfield 10, 3) := by decide +kernel
theorem dX8_cast_22 : decode cX8_cast 22 = .ok (.getfield 181, 3) := by decide +kernel
theorem dX8_cast_25 : decode cX8_cast 25 = .ok (.ifCond .gt 13, 3) := by decide +kernel
theorem dX8_cast_28 : decode cX8_cast 28 = .ok (.aload_n 0, 1) := by decide +kernel
theorem dX8_cast_29 : decode cX8_cast 29 = .ok (.getfield 10, 3) := by decide +kernel
theorem dX8_cast_32 : decode cX8_cast 32 = .ok (.getfield 175, 3) := by decide +kernel
theorem dX8_cast_35 : decode cX8_cast 35 = .ok (.ifCond .le 10, 3) := by decide +kernel
theorem dX8_cast_38 : decode cX8_cast 38 = .ok (.aload_n 0, 1) := by decide +kernel
theorem dX8_cast_39 : decode cX8_cast 39 = .ok (.bipush (-95), 2) := by decide +kernel
theorem dX8_cast_41 : decode cX8_cast 41 = .ok (.invokevirtual 55, 3) := by decide +kernel
theorem dX8_cast_44 : decode cX8_cast 44 = .ok (.ireturn, 1) := by decide +kernel
theorem dX8_cast_45 : decode cX8_cast 45 = .ok (.aload_n 0, 1) := by decide +kernel
theorem dX8_cast_46 : decode cX8_cast 46 = .ok (.getfield 10, 3) := by decide +kernel
theorem dX8_cast_49 : decode cX8_cast 49 = .ok (.iload_n 1, 1) := by decide +kernel
theorem dX8_cast_50 : decode cX8_cast 50 = .ok (.putfield 181, 3) := by decide +kernel
theorem dX8_cast_53 : decode cX8_cast 53 = .ok (.aload_n 0, 1) := by decide +kernel
theorem dX8_cast_54 : decode cX8_cast 54 = .ok (.getfield 10, 3) := by decide +kernel
theorem dX8_cast_57 : decode cX8_cast 57 = .ok (.iconst 0, 1) := by decide +kernel
theorem dX8_cast_58 : decode cX8_cast 58 = .ok (.putfield 184, 3) := by decide +kernel
theorem dX8_cast_61 : decode cX8_cast 61 = .ok (.iload_n 1, 1) := by decide +kernel
theorem dX8_cast_62 : decode cX8_cast 62 = .ok (.ireturn, 1) := by decide +kernel
theorem dX8_work_0 : decode cX8_work 0 = .ok (.aload_n 0, 1) := by decide +kernel
theorem dX8_work_1 : decode cX8_work 1 = .ok (.getfield 10, 3) := by decide +kernel
theorem dX8_work_4 : decode cX8_work 4 = .ok (.iload_n 1, 1) := by decide +kernel
theorem dX8_work_5 : decode cX8_work 5 = .ok (.invokevirtual 155, 3) := by decide +kernel
theorem dX8_work_8 : decode cX8_work 8 = .ok (.astore_n 2, 1) := by decide +kernel
theorem dX8_work_9 : decode cX8_work 9 = .ok (.aload_n 2, 1) := by decide +kernel
theorem dX8_work_10 : decode cX8_work 10 = .ok (.ifnonnull 10, 3) := by decide +kernel
theorem dX8_work_13 : decode cX8_work 13 = .ok (.aload_n 0, 1) := by decide +kernel
theorem dX8_work_14 : decode cX8_work 14 = .ok (.bipush (-92), 2) := by decide +kernel
theorem dX8_work_16 : decode cX8_work 16 = .ok (.invokevirtual 55, 3) := by decide +kernel
theorem dX8_work_19 : decode cX8_work 19 = .ok (.ireturn, 1) := by decide +kernel
theorem dX8_work_20 : decode cX8_work 20 = .ok (.aload_n 0, 1) := by decide +kernel
theorem dX8_work_21 : decode cX8_work 21 = .ok (.aload_n 2, 1) := by decide +kernel
theorem dX8_work_22 : decode cX8_work 22 = .ok (.iload_n 1, 1) := by decide +kernel
theorem dX8_work_23 : decode cX8_work 23 = .ok (.invokevirtual 187, 3) := by decide +kernel
theorem dX8_work_26 : decode cX8_work 26 = .ok (.ifCond .ne 22, 3) := by decide +kernel
theorem dX8_work_29 : decode cX8_work 29 = .ok (.aload_n 0, 1) := by decide +kernel
theorem dX8_work_30 : decode cX8_work 30 = .ok (.getfield 39, 3) := by decide +kernel
theorem dX8_work_33 : decode cX8_work 33 = .ok (.invokevirtual 191, 3) := by decide +kernel
theorem dX8_work_36 : decode cX8_work 36 = .ok (.aload_n 0, 1) := by decide +kernel
theorem dX8_work_37 : decode cX8_work 37 = .ok (.iload_n 1, 1) := by decide +kernel
theorem dX8_work_38 : decode cX8_work 38 = .ok (.invokevirtual 194, 3) := by decide +kernel
theorem dX8_work_41 : decode cX8_work 41 = .ok (.aload_n 0, 1) := by decide +kernel
theorem dX8_work_42 : decode cX8_work 42 = .ok (.bipush (-95), 2) := by decide +kernel
theorem dX8_work_44 : decode cX8_work 44 = .ok (.invokevirtual 55, 3) := by decide +kernel
theorem dX8_work_47 : decode cX8_work 47 = .ok (.ireturn, 1) := by decide +kernel
theorem dX8_work_48 : decode cX8_work 48 = .ok (.aload_n 0, 1) := by decide +kernel
theorem dX8_work_49 : decode cX8_work 49 = .ok (.getfield 10, 3) := by decide +kernel
theorem dX8_work_52 : decode cX8_work 52 = .ok (.getfield 181, 3) := by decide +kernel
theorem dX8_work_55 : decode cX8_work 55 = .ok (.ireturn, 1) := by decide +kernel
theorem dX8_run_0 : decode cX8_run 0 = .ok (.aload_n 0, 1) := by decide +kernel
theorem dX8_run_1 : decode cX8_run 1 = .ok (.getfield 10, 3) := by decide +kernel
theorem dX8_run_4 : decode cX8_run 4 = .ok (.iload_n 1, 1) := by decide +kernel
theorem dX8_run_5 : decode cX8_run 5 = .ok (.iload_n 2, 1) := by decide +kernel
theorem dX8_run_6 : decode cX8_run 6 = .ok (.invokevirtual 197, 3) := by decide +kernel
theorem dX8_run_9 : decode cX8_run 9 = .ok (.ifCond .eq 14, 3) := by decide +kernel
theorem dX8_run_12 : decode cX8_run 12 = .ok (.iload_n 3, 1) := by decide +kernel
theorem dX8_run_13 : decode cX8_run 13 = .ok (.iconst 1, 1) := by decide +kernel
theorem dX8_run_14 : decode cX8_run 14 = .ok (.if_icmp .lt 9, 3) := by decide +kernel
theorem dX8_run_17 : decode cX8_run 17 = .ok (.iload_n 3, 1) := by decide +kernel
theorem dX8_run_18 : decode cX8_run 18 = .ok (.bipush 20, 2) := by decide +kernel
theorem dX8_run_20 : decode cX8_run 20 = .ok (.if_icmp .le 10, 3) := by decide +kernel
theorem dX8_run_23 : decode cX8_run 23 = .ok (.aload_n 0, 1) := by decide +kernel
theorem dX8_run_24 : decode cX8_run 24 = .ok (.bipush (-92), 2) := by decide +kernel
theorem dX8_run_26 : decode cX8_run 26 = .ok (.invokevirtual 55, 3) := by decide +kernel
theorem dX8_run_29 : decode cX8_run 29 = .ok (.ireturn, 1) := by decide +kernel
theorem dX8_run_30 : decode cX8_run 30 = .ok (.iconst 0, 1) := by decide +kernel
theorem dX8_run_31 : decode cX8_run 31 = .ok (.istore 4, 2) := by decide +kernel
theorem dX8_run_33 : decode cX8_run 33 = .ok (.iconst 1, 1) := by decide +kernel
theorem dX8_run_34 : decode cX8_run 34 = .ok (.istore 5, 2) := by decide +kernel
theorem dX8_run_36 : decode cX8_run 36 = .ok (.iload 5, 2) := by decide +kernel
theorem dX8_run_38 : decode cX8_run 38 = .ok (.iload_n 3, 1) := by decide +kernel
theorem dX8_run_39 : decode cX8_run 39 = .ok (.if_icmp .gt 87, 3) := by decide +kernel
theorem dX8_run_42 : decode cX8_run 42 = .ok (.iload_n 1, 1) := by decide +kernel
theorem dX8_run_43 : decode cX8_run 43 = .ok (.istore 6, 2) := by decide +kernel
theorem dX8_run_45 : decode cX8_run 45 = .ok (.iload 6, 2) := by decide +kernel
theorem dX8_run_47 : decode cX8_run 47 = .ok (.iload_n 2, 1) := by decide +kernel
theorem dX8_run_48 : decode cX8_run 48 = .ok (.if_icmp .gt 72, 3) := by decide +kernel
theorem dX8_run_51 : decode cX8_run 51 = .ok (.aload_n 0, 1) := by decide +kernel
theorem dX8_run_52 : decode cX8_run 52 = .ok (.getfield 10, 3) := by decide +kernel
theorem dX8_run_55 : decode cX8_run 55 = .ok (.iload 6, 2) := by decide +kernel
theorem dX8_run_57 : decode cX8_run 57 = .ok (.invokevirtual 155, 3) := by decide +kernel
theorem dX8_run_60 : decode cX8_run 60 = .ok (.astore 7, 2) := by decide +kernel
theorem dX8_run_62 : decode cX8_run 62 = .ok (.aload 7, 2) := by decide +kernel
theorem dX8_run_64 : decode cX8_run 64 = .ok (.ifnull 14, 3) := by decide +kernel
theorem dX8_run_67 : decode cX8_run 67 = .ok (.aload_n 0, 1) := by decide +kernel
theorem dX8_run_68 : decode cX8_run 68 = .ok (.aload 7, 2) := by decide +kernel
theorem dX8_run_70 : decode cX8_run 70 = .ok (.iload 6, 2) := by decide +kernel
theorem dX8_run_72 : decode cX8_run 72 = .ok (.invokevirtual 187, 3) := by decide +kernel
theorem dX8_run_75 : decode cX8_run 75 = .ok (.ifCond .ne 36, 3) := by decide +kernel
theorem dX8_run_78 : decode cX8_run 78 = .ok (.aload_n 0, 1) := by decide +kernel
theorem dX8_run_79 : decode cX8_run 79 = .ok (.getfield 39, 3) := by decide +kernel
theorem dX8_run_82 : decode cX8_run 82 = .ok (.invokevirtual 191, 3) := by decide +kernel
theorem dX8_run_85 : decode cX8_run 85 = .ok (.aload_n 0, 1) := by decide +kernel
theorem dX8_run_86 : decode cX8_run 86 = .ok (.getfield 39, 3) := by decide +kernel
theorem dX8_run_89 : decode cX8_run 89 = .ok (.bipush 12, 2) := by decide +kernel
theorem dX8_run_91 : decode cX8_run 91 = .ok (.iload 5, 2) := by decide +kernel
theorem dX8_run_93 : decode cX8_run 93 = .ok (.iload 6, 2) := by decide +kernel
theorem dX8_run_95 : decode cX8_run 95 = .ok (.invokevirtual 200, 3) := by decide +kernel
theorem dX8_run_98 : decode cX8_run 98 = .ok (.aload_n 0, 1) := by decide +kernel
theorem dX8_run_99 : decode cX8_run 99 = .ok (.iload 6, 2) := by decide +kernel
theorem dX8_run_101 : decode cX8_run 101 = .ok (.invokevirtual 194, 3) := by decide +kernel
theorem dX8_run_104 : decode cX8_run 104 = .ok (.aload_n 0, 1) := by decide +kernel
theorem dX8_run_105 : decode cX8_run 105 = .ok (.bipush (-95), 2) := by decide +kernel
theorem dX8_run_107 : decode cX8_run 107 = .ok (.invokevirtual 55, 3) := by decide +kernel
theorem dX8_run_110 : decode cX8_run 110 = .ok (.ireturn, 1) := by decide +kernel
theorem dX8_run_111 : decode cX8_run 111 = .ok (.iinc 4 1, 3) := by decide +kernel
theorem dX8_run_114 : decode cX8_run 114 = .ok (.iinc 6 1, 3) := by decide +kernel
theorem dX8_run_117 : decode cX8_run 117 = .ok (.goto (-72), 3) := by decide +kernel
theorem dX8_run_120 : decode cX8_run 120 = .ok (.iinc 5 1, 3) := by decide +kernel
theorem dX8_run_123 : decode cX8_run 123 = .ok (.goto (-87), 3) := by decide +kernel
theorem dX8_run_126 : decode cX8_run 126 = .ok (.iload 4, 2) := by decide +kernel
theorem dX8_run_128 : decode cX8_run 128 = .ok (.ireturn, 1) := by decide +kernel
theorem dX8_rip_0 : decode cX8_rip 0 = .ok (.iload_n 1, 1) := by decide +kernel
theorem dX8_rip_1 : decode cX8_rip 1 = .ok (.iconst 1, 1) := by decide +kernel
theorem dX8_rip_2 : decode cX8_rip 2 = .ok (.if_icmp .lt 14, 3) := by decide +kernel
theorem dX8_rip_5 : decode cX8_rip 5 = .ok (.iload_n 1, 1) := by decide +kernel
theorem dX8_rip_6 : decode cX8_rip 6 = .ok (.aload_n 0, 1) := by decide +kernel
theorem dX8_rip_7 : decode cX8_rip 7 = .ok (.getfield 10, 3) := by decide +kernel
theorem dX8_rip_10 : decode cX8_rip 10 = .ok (.getfield 175, 3) := by decide +kernel
theorem dX8_rip_13 : decode cX8_rip 13 = .ok (.if_icmp .le 10, 3) := by decide +kernel
theorem dX8_rip_16 : decode cX8_rip 16 = .ok (.aload_n 0, 1) := by decide +kernel
theorem dX8_rip_17 : decode cX8_rip 17 = .ok (.bipush (-92), 2) := by decide +kernel
theorem dX8_rip_19 : decode cX8_rip 19 = .ok (.invokevirtual 55, 3) := by decide +kernel
theorem dX8_rip_22 : decode cX8_rip 22 = .ok (.ireturn, 1) := by decide +kernel
theorem dX8_rip_23 : decode cX8_rip 23 = .ok (.aload_n 0, 1) := by decide +kernel
theorem dX8_rip_24 : decode cX8_rip 24 = .ok (.getfield 10, 3) := by decide +kernel
theorem dX8_rip_27 : decode cX8_rip 27 = .ok (.iload_n 1, 1) := by decide +kernel
theorem dX8_rip_28 : decode cX8_rip 28 = .ok (.invokevirtual 204, 3) := by decide +kernel
theorem dX8_rip_31 : decode cX8_rip 31 = .ok (.aload_n 0, 1) := by decide +kernel
theorem dX8_rip_32 : decode cX8_rip 32 = .ok (.getfield 10, 3) := by decide +kernel
theorem dX8_rip_35 : decode cX8_rip 35 = .ok (.getfield 175, 3) := by decide +kernel
theorem dX8_rip_38 : decode cX8_rip 38 = .ok (.ireturn, 1) := by decide +kernel
theorem dX8_causes_0 : decode cX8_causes 0 = .ok (.aload_n 0, 1) := by decide +kernel
theorem dX8_causes_1 : decode cX8_causes 1 = .ok (.getfield 39, 3) := by decide +kernel
theorem dX8_causes_4 : decode cX8_causes 4 = .ok (.getfield 207, 3) := by decide +kernel
theorem dX8_causes_7 : decode cX8_causes 7 = .ok (.ireturn, 1) := by decide +kernel
theorem dX8_why_0 : decode cX8_why 0 = .ok (.aload_n 0, 1) := by decide +kernel
theorem dX8_why_1 : decode cX8_why 1 = .ok (.getfield 39, 3) := by decide +kernel
theorem dX8_why_4 : decode cX8_why 4 = .ok (.iload_n 1, 1) := by decide +kernel
theorem dX8_why_5 : decode cX8_why 5 = .ok (.iload_n 2, 1) := by decide +kernel
theorem dX8_why_6 : decode cX8_why 6 = .ok (.invokevirtual 210, 3) := by decide +kernel
theorem dX8_why_9 : decode cX8_why 9 = .ok (.ifCond .eq 15, 3) := by decide +kernel
theorem dX8_why_12 : decode cX8_why 12 = .ok (.aload_n 0, 1) := by decide +kernel
theorem dX8_why_13 : decode cX8_why 13 = .ok (.getfield 39, 3) := by decide +kernel
theorem dX8_why_16 : decode cX8_why 16 = .ok (.iload_n 1, 1) := by decide +kernel
theorem dX8_why_17 : decode cX8_why 17 = .ok (.iload_n 2, 1) := by decide +kernel
theorem dX8_why_18 : decode cX8_why 18 = .ok (.invokevirtual 213, 3) := by decide +kernel
theorem dX8_why_21 : decode cX8_why 21 = .ok (.goto 9, 3) := by decide +kernel
theorem dX8_why_24 : decode cX8_why 24 = .ok (.aload_n 0, 1) := by decide +kernel
theorem dX8_why_25 : decode cX8_why 25 = .ok (.bipush (-92), 2) := by decide +kernel
theorem dX8_why_27 : decode cX8_why 27 = .ok (.invokevirtual 55, 3) := by decide +kernel
theorem dX8_why_30 : decode cX8_why 30 = .ok (.ireturn, 1) := by decide +kernel
theorem dX8_would_0 : decode cX8_would 0 = .ok (.aload_n 0, 1) := by decide +kernel
theorem dX8_would_1 : decode cX8_would 1 = .ok (.getfield 10, 3) := by decide +kernel
theorem dX8_would_4 : decode cX8_would 4 = .ok (.iload_n 1, 1) := by decide +kernel
theorem dX8_would_5 : decode cX8_would 5 = .ok (.invokevirtual 155, 3) := by decide +kernel
theorem dX8_would_8 : decode cX8_would 8 = .ok (.astore 4, 2) := by decide +kernel
theorem dX8_would_10 : decode cX8_would 10 = .ok (.aload 4, 2) := by decide +kernel
theorem dX8_would_12 : decode cX8_would 12 = .ok (.ifnull 22, 3) := by decide +kernel
theorem dX8_would_15 : decode cX8_would 15 = .ok (.iload_n 2, 1) := by decide +kernel
theorem dX8_would_16 : decode cX8_would 16 = .ok (.ifCond .lt 18, 3) := by decide +kernel
theorem dX8_would_19 : decode cX8_would 19 = .ok (.iload_n 2, 1) := by decide +kernel
theorem dX8_would_20 : decode cX8_would 20 = .ok (.bipush 60, 2) := by decide +kernel
theorem dX8_would_22 : decode cX8_would 22 = .ok (.if_icmp .gt 12, 3) := by decide +kernel
theorem dX8_would_25 : decode cX8_would 25 = .ok (.iload_n 3, 1) := by decide +kernel
theorem dX8_would_26 : decode cX8_would 26 = .ok (.ifCond .lt 8, 3) := by decide +kernel
theorem dX8_would_29 : decode cX8_would 29 = .ok (.iload_n 3, 1) := by decide +kernel
theorem dX8_would_30 : decode cX8_would 30 = .ok (.iconst 2, 1) := by decide +kernel
theorem dX8_would_31 : decode cX8_would 31 = .ok (.if_icmp .le 10, 3) := by decide +kernel
theorem dX8_would_34 : decode cX8_would 34 = .ok (.aload_n 0, 1) := by decide +kernel
theorem dX8_would_35 : decode cX8_would 35 = .ok (.bipush (-92), 2) := by decide +kernel
theorem dX8_would_37 : decode cX8_would 37 = .ok (.invokevirtual 55, 3) := by decide +kernel
theorem dX8_would_40 : decode cX8_would 40 = .ok (.ireturn, 1) := by decide +kernel
theorem dX8_would_41 : decode cX8_would 41 = .ok (.aload_n 0, 1) := by decide +kernel
theorem dX8_would_42 : decode cX8_would 42 = .ok (.getfield 32, 3) := by decide +kernel
theorem dX8_would_45 : decode cX8_would 45 = .ok (.aload 4, 2) := by decide +kernel
theorem dX8_would_47 : decode cX8_would 47 = .ok (.iload_n 2, 1) := by decide +kernel
theorem dX8_would_48 : decode cX8_would 48 = .ok (.invokevirtual 216, 3) := by decide +kernel
theorem dX8_would_51 : decode cX8_would 51 = .ok (.aload_n 0, 1) := by decide +kernel
theorem dX8_would_52 : decode cX8_would 52 = .ok (.getfield 32, 3) := by decide +kernel
theorem dX8_would_55 : decode cX8_would 55 = .ok (.invokevirtual 220, 3) := by decide +kernel
theorem dX8_would_58 : decode cX8_would 58 = .ok (.ifCond .eq 5, 3) := by decide +kernel
theorem dX8_would_61 : decode cX8_would 61 = .ok (.iconst (-1), 1) := by decide +kernel
theorem dX8_would_62 : decode cX8_would 62 = .ok (.ireturn, 1) := by decide +kernel
theorem dX8_would_63 : decode cX8_would 63 = .ok (.iload_n 3, 1) := by decide +kernel
theorem dX8_would_64 : decode cX8_would 64 = .ok (.lookupswitch 47 #[(0, 28), (1, 36)], 28) := by decide +kernel
theorem dX8_would_92 : decode cX8_would 92 = .ok (.aload_n 0, 1) := by decide +kernel
theorem dX8_would_93 : decode cX8_would 93 = .ok (.getfield 32, 3) := by decide +kernel
theorem dX8_would_96 : decode cX8_would 96 = .ok (.getfield 223, 3) := by decide +kernel
theorem dX8_would_99 : decode cX8_would 99 = .ok (.ireturn, 1) := by decide +kernel
theorem dX8_would_100 : decode cX8_would 100 = .ok (.aload_n 0, 1) := by decide +kernel
theorem dX8_would_101 : decode cX8_would 101 = .ok (.getfield 32, 3) := by decide +kernel
theorem dX8_would_104 : decode cX8_would 104 = .ok (.getfield 226, 3) := by decide +kernel
theorem dX8_would_107 : decode cX8_would 107 = .ok (.getfield 227, 3) := by decide +kernel
theorem dX8_would_110 : decode cX8_would 110 = .ok (.ireturn, 1) := by decide +kernel
theorem dX8_would_111 : decode cX8_would 111 = .ok (.aload_n 0, 1) := by decide +kernel
theorem dX8_would_112 : decode cX8_would 112 = .ok (.getfield 32, 3) := by decide +kernel
theorem dX8_would_115 : decode cX8_would 115 = .ok (.getfield 226, 3) := by decide +kernel
theorem dX8_would_118 : decode cX8_would 118 = .ok (.invokevirtual 229, 3) := by decide +kernel
theorem dX8_would_121 : decode cX8_would 121 = .ok (.ireturn, 1) := by decide +kernel
theorem dX8_hitch_0 : decode cX8_hitch 0 = .ok (.aload_n 0, 1) := by decide +kernel
theorem dX8_hitch_1 : decode cX8_hitch 1 = .ok (.getfield 10, 3) := by decide +kernel
theorem dX8_hitch_4 : decode cX8_hitch 4 = .ok (.iload_n 1, 1) := by decide +kernel
theorem dX8_hitch_5 : decode cX8_hitch 5 = .ok (.invokevirtual 155, 3) := by decide +kernel
theorem dX8_hitch_8 : decode cX8_hitch 8 = .ok (.astore_n 3, 1) := by decide +kernel
theorem dX8_hitch_9 : decode cX8_hitch 9 = .ok (.aload_n 3, 1) := by decide +kernel
theorem dX8_hitch_10 : decode cX8_hitch 10 = .ok (.ifnull 13, 3) := by decide +kernel
theorem dX8_hitch_13 : decode cX8_hitch 13 = .ok (.iload_n 2, 1) := by decide +kernel
theorem dX8_hitch_14 : decode cX8_hitch 14 = .ok (.ifCond .lt 9, 3) := by decide +kernel
theorem dX8_hitch_17 : decode cX8_hitch 17 = .ok (.iload_n 2, 1) := by decide +kernel
theorem dX8_hitch_18 : decode cX8_hitch 18 = .ok (.bipush 60, 2) := by decide +kernel
theorem dX8_hitch_20 : decode cX8_hitch 20 = .ok (.if_icmp .le 10, 3) := by decide +kernel
theorem dX8_hitch_23 : decode cX8_hitch 23 = .ok (.aload_n 0, 1) := by decide +kernel
theorem dX8_hitch_24 : decode cX8_hitch 24 = .ok (.bipush (-92), 2) := by decide +kernel
theorem dX8_hitch_26 : decode cX8_hitch 26 = .ok (.invokevirtual 55, 3) := by decide +kernel
theorem dX8_hitch_29 : decode cX8_hitch 29 = .ok (.ireturn, 1) := by decide +kernel
theorem dX8_hitch_30 : decode cX8_hitch 30 = .ok (.aload_n 0, 1) := by decide +kernel
theorem dX8_hitch_31 : decode cX8_hitch 31 = .ok (.getfield 32, 3) := by decide +kernel
theorem dX8_hitch_34 : decode cX8_hitch 34 = .ok (.aload_n 3, 1) := by decide +kernel
theorem dX8_hitch_35 : decode cX8_hitch 35 = .ok (.iload_n 2, 1) := by decide +kernel
theorem dX8_hitch_36 : decode cX8_hitch 36 = .ok (.invokevirtual 216, 3) := by decide +kernel
theorem dX8_hitch_39 : decode cX8_hitch 39 = .ok (.aload_n 0, 1) := by decide +kernel
theorem dX8_hitch_40 : decode cX8_hitch 40 = .ok (.getfield 32, 3) := by decide +kernel
theorem dX8_hitch_43 : decode cX8_hitch 43 = .ok (.invokevirtual 220, 3) := by decide +kernel
theorem dX8_hitch_46 : decode cX8_hitch 46 = .ok (.ifCond .eq 13, 3) := by decide +kernel
theorem dX8_hitch_49 : decode cX8_hitch 49 = .ok (.aload_n 0, 1) := by decide +kernel
theorem dX8_hitch_50 : decode cX8_hitch 50 = .ok (.getfield 32, 3) := by decide +kernel
theorem dX8_hitch_53 : decode cX8_hitch 53 = .ok (.getfield 232, 3) := by decide +kernel
theorem dX8_hitch_56 : decode cX8_hitch 56 = .ok (.goto 4, 3) := by decide +kernel
theorem dX8_hitch_59 : decode cX8_hitch 59 = .ok (.iconst (-1), 1) := by decide +kernel
theorem dX8_hitch_60 : decode cX8_hitch 60 = .ok (.ireturn, 1) := by decide +kernel
theorem dX8_fits_0 : decode cX8_fits 0 = .ok (.aload_n 0, 1) := by decide +kernel
theorem dX8_fits_1 : decode cX8_fits 1 = .ok (.getfield 10, 3) := by decide +kernel
theorem dX8_fits_4 : decode cX8_fits 4 = .ok (.iload_n 1, 1) := by decide +kernel
theorem dX8_fits_5 : decode cX8_fits 5 = .ok (.invokevirtual 155, 3) := by decide +kernel
theorem dX8_fits_8 : decode cX8_fits 8 = .ok (.astore_n 2, 1) := by decide +kernel
theorem dX8_fits_9 : decode cX8_fits 9 = .ok (.aload_n 2, 1) := by decide +kernel
theorem dX8_fits_10 : decode cX8_fits 10 = .ok (.ifnonnull 10, 3) := by decide +kernel
theorem dX8_fits_13 : decode cX8_fits 13 = .ok (.aload_n 0, 1) := by decide +kernel
theorem dX8_fits_14 : decode cX8_fits 14 = .ok (.bipush (-92), 2) := by decide +kernel
theorem dX8_fits_16 : decode cX8_fits 16 = .ok (.invokevirtual 235, 3) := by decide +kernel
theorem dX8_fits_19 : decode cX8_fits 19 = .ok (.lreturn, 1) := by decide +kernel
theorem dX8_fits_20 : decode cX8_fits 20 = .ok (.lconst 0, 1) := by decide +kernel
theorem dX8_fits_21 : decode cX8_fits 21 = .ok (.lstore_n 3, 1) := by decide +kernel
theorem dX8_fits_22 : decode cX8_fits 22 = .ok (.iconst 0, 1) := by decide +kernel
theorem dX8_fits_23 : decode cX8_fits 23 = .ok (.istore 5, 2) := by decide +kernel
theorem dX8_fits_25 : decode cX8_fits 25 = .ok (.iload 5, 2) := by decide +kernel
theorem dX8_fits_27 : decode cX8_fits 27 = .ok (.bipush 60, 2) := by decide +kernel
theorem dX8_fits_29 : decode cX8_fits 29 = .ok (.if_icmp .gt 36, 3) := by decide +kernel
theorem dX8_fits_32 : decode cX8_fits 32 = .ok (.aload_n 0, 1) := by decide +kernel
theorem dX8_fits_33 : decode cX8_fits 33 = .ok (.getfield 32, 3) := by decide +kernel
theorem dX8_fits_36 : decode cX8_fits 36 = .ok (.aload_n 2, 1) := by decide +kernel
theorem dX8_fits_37 : decode cX8_fits 37 = .ok (.iload 5, 2) := by decide +kernel
theorem dX8_fits_39 : decode cX8_fits 39 = .ok (.invokevirtual 216, 3) := by decide +kernel
theorem dX8_fits_42 : decode cX8_fits 42 = .ok (.aload_n 0, 1) := by decide +kernel
theorem dX8_fits_43 : decode cX8_fits 43 = .ok (.getfield 32, 3) := by decide +kernel
theorem dX8_fits_46 : decode cX8_fits 46 = .ok (.invokevirtual 220, 3) := by decide +kernel
theorem dX8_fits_49 : decode cX8_fits 49 = .ok (.ifCond .ne 10, 3) := by decide +kernel
theorem dX8_fits_52 : decode cX8_fits 52 = .ok (.lload_n 3, 1) := by decide +kernel
theorem dX8_fits_53 : decode cX8_fits 53 = .ok (.lconst 1, 1) := by decide +kernel
theorem dX8_fits_54 : decode cX8_fits 54 = .ok (.iload 5, 2) := by decide +kernel
theorem dX8_fits_56 : decode cX8_fits 56 = .ok (.lshl, 1) := by decide +kernel
theorem dX8_fits_57 : decode cX8_fits 57 = .ok (.lor, 1) := by decide +kernel
theorem dX8_fits_58 : decode cX8_fits 58 = .ok (.lstore_n 3, 1) := by decide +kernel
theorem dX8_fits_59 : decode cX8_fits 59 = .ok (.iinc 5 1, 3) := by decide +kernel
theorem dX8_fits_62 : decode cX8_fits 62 = .ok (.goto (-37), 3) := by decide +kernel
theorem dX8_fits_65 : decode cX8_fits 65 = .ok (.lload_n 3, 1) := by decide +kernel
theorem dX8_fits_66 : decode cX8_fits 66 = .ok (.lreturn, 1) := by decide +kernel
theorem dX8_least_0 : decode cX8_least 0 = .ok (.iconst 0, 1) := by decide +kernel
theorem dX8_least_1 : decode cX8_least 1 = .ok (.istore_n 1, 1) := by decide +kernel
theorem dX8_least_2 : decode cX8_least 2 = .ok (.iload_n 1, 1) := by decide +kernel
theorem dX8_least_3 : decode cX8_least 3 = .ok (.bipush 60, 2) := by decide +kernel
theorem dX8_least_5 : decode cX8_least 5 = .ok (.if_icmp .gt 30, 3) := by decide +kernel
theorem dX8_least_8 : decode cX8_least 8 = .ok (.aload_n 0, 1) := by decide +kernel
theorem dX8_least_9 : decode cX8_least 9 = .ok (.iconst 0, 1) := by decide +kernel
theorem dX8_least_10 : decode cX8_least 10 = .ok (.aload_n 0, 1) := by decide +kernel
theorem dX8_least_11 : decode cX8_least 11 = .ok (.getfield 10, 3) := by decide +kernel
theorem dX8_least_14 : decode cX8_least 14 = .ok (.getfield 149, 3) := by decide +kernel
theorem dX8_least_17 : decode cX8_least 17 = .ok (.iconst 1, 1) := by decide +kernel
theorem dX8_least_18 : decode cX8_least 18 = .ok (.isub, 1) := by decide +kernel
theorem dX8_least_19 : decode cX8_least 19 = .ok (.iload_n 1, 1) := by decide +kernel
theorem dX8_least_20 : decode cX8_least 20 = .ok (.invokevirtual 238, 3) := by decide +kernel
theorem dX8_least_23 : decode cX8_least 23 = .ok (.iconst (-1), 1) := by decide +kernel
theorem dX8_least_24 : decode cX8_least 24 = .ok (.if_icmp .eq 5, 3) := by decide +kernel
theorem dX8_least_27 : decode cX8_least 27 = .ok (.iload_n 1, 1) := by decide +kernel
theorem dX8_least_28 : decode cX8_least 28 = .ok (.ireturn, 1) := by decide +kernel
theorem dX8_least_29 : decode cX8_least 29 = .ok (.iinc 1 1, 3) := by decide +kernel
theorem dX8_least_32 : decode cX8_least 32 = .ok (.goto (-30), 3) := by decide +kernel
theorem dX8_least_35 : decode cX8_least 35 = .ok (.iconst (-1), 1) := by decide +kernel
theorem dX8_least_36 : decode cX8_least 36 = .ok (.ireturn, 1) := by decide +kernel
theorem dX8_times_0 : decode cX8_times 0 = .ok (.aload_n 0, 1) := by decide +kernel
theorem dX8_times_1 : decode cX8_times 1 = .ok (.getfield 10, 3) := by decide +kernel
theorem dX8_times_4 : decode cX8_times 4 = .ok (.iload_n 1, 1) := by decide +kernel
theorem dX8_times_5 : decode cX8_times 5 = .ok (.iload_n 2, 1) := by decide +kernel
theorem dX8_times_6 : decode cX8_times 6 = .ok (.invokevirtual 197, 3) := by decide +kernel
theorem dX8_times_9 : decode cX8_times 9 = .ok (.ifCond .ne 10, 3) := by decide +kernel
theorem dX8_times_12 : decode cX8_times 12 = .ok (.aload_n 0, 1) := by decide +kernel
theorem dX8_times_13 : decode cX8_times 13 = .ok (.bipush (-92), 2) := by decide +kernel
theorem dX8_times_15 : decode cX8_times 15 = .ok (.invokevirtual 55, 3) := by decide +kernel
theorem dX8_times_18 : decode cX8_times 18 = .ok (.ireturn, 1) := by decide +kernel
theorem dX8_times_19 : decode cX8_times 19 = .ok (.bipush 50, 2) := by decide +kernel
theorem dX8_times_21 : decode cX8_times 21 = .ok (.aload_n 0, 1) := by decide +kernel
theorem dX8_times_22 : decode cX8_times 22 = .ok (.getfield 10, 3) := by decide +kernel
theorem dX8_times_25 : decode cX8_times 25 = .ok (.getfield 175, 3) := by decide +kernel
theorem dX8_times_28 : decode cX8_times 28 = .ok (.isub, 1) := by decide +kernel
theorem dX8_times_29 : decode cX8_times 29 = .ok (.istore_n 3, 1) := by decide +kernel
theorem dX8_times_30 : decode cX8_times 30 = .ok (.iload_n 2, 1) := by decide +kernel
theorem dX8_times_31 : decode cX8_times 31 = .ok (.iload_n 1, 1) := by decide +kernel
theorem dX8_times_32 : decode cX8_times 32 = .ok (.isub, 1) := by decide +kernel
theorem dX8_times_33 : decode cX8_times 33 = .ok (.iconst 1, 1) := by decide +kernel
theorem dX8_times_34 : decode cX8_times 34 = .ok (.iadd, 1) := by decide +kernel
theorem dX8_times_35 : decode cX8_times 35 = .ok (.istore 4, 2) := by decide +kernel
theorem dX8_times_37 : decode cX8_times 37 = .ok (.aload_n 0, 1) := by decide +kernel
theorem dX8_times_38 : decode cX8_times 38 = .ok (.getfield 10, 3) := by decide +kernel
theorem dX8_times_41 : decode cX8_times 41 = .ok (.getfield 181, 3) := by decide +kernel
theorem dX8_times_44 : decode cX8_times 44 = .ok (.istore 5, 2) := by decide +kernel
theorem dX8_times_46 : decode cX8_times 46 = .ok (.iconst 0, 1) := by decide +kernel
theorem dX8_times_47 : decode cX8_times 47 = .ok (.istore 6, 2) := by decide +kernel
theorem dX8_times_49 : decode cX8_times 49 = .ok (.iload 6, 2) := by decide +kernel
theorem dX8_times_51 : decode cX8_times 51 = .ok (.bipush 50, 2) := by decide +kernel
theorem dX8_times_53 : decode cX8_times 53 = .ok (.if_icmp .ge 39, 3) := by decide +kernel
theorem dX8_times_56 : decode cX8_times 56 = .ok (.iload 6, 2) := by decide +kernel
theorem dX8_times_58 : decode cX8_times 58 = .ok (.iconst 1, 1) := by decide +kernel
theorem dX8_times_59 : decode cX8_times 59 = .ok (.iadd, 1) := by decide +kernel
theorem dX8_times_60 : decode cX8_times 60 = .ok (.iload 4, 2) := by decide +kernel
theorem dX8_times_62 : decode cX8_times 62 = .ok (.imul, 1) := by decide +kernel
theorem dX8_times_63 : decode cX8_times 63 = .ok (.iload_n 3, 1) := by decide +kernel
theorem dX8_times_64 : decode cX8_times 64 = .ok (.if_icmp .gt 28, 3) := by decide +kernel
theorem dX8_times_67 : decode cX8_times 67 = .ok (.aload_n 0, 1) := by decide +kernel
theorem dX8_times_68 : decode cX8_times 68 = .ok (.iload_n 1, 1) := by decide +kernel
theorem dX8_times_69 : decode cX8_times 69 = .ok (.iload_n 2, 1) := by decide +kernel
theorem dX8_times_70 : decode cX8_times 70 = .ok (.iload 5, 2) := by decide +kernel
theorem dX8_times_72 : decode cX8_times 72 = .ok (.invokevirtual 238, 3) := by decide +kernel
theorem dX8_times_75 : decode cX8_times 75 = .ok (.istore 5, 2) := by decide +kernel
theorem dX8_times_77 : decode cX8_times 77 = .ok (.iload 5, 2) := by decide +kernel
theorem dX8_times_79 : decode cX8_times 79 = .ok (.iconst (-1), 1) := by decide +kernel
theorem dX8_times_80 : decode cX8_times 80 = .ok (.if_icmp .ne 6, 3) := by decide +kernel
theorem dX8_times_83 : decode cX8_times 83 = .ok (.iload 6, 2) := by decide +kernel
theorem dX8_times_85 : decode cX8_times 85 = .ok (.ireturn, 1) := by decide +kernel
theorem dX8_times_86 : decode cX8_times 86 = .ok (.iinc 6 1, 3) := by decide +kernel
theorem dX8_times_89 : decode cX8_times 89 = .ok (.goto (-40), 3) := by decide +kernel
theorem dX8_times_92 : decode cX8_times 92 = .ok (.iload 6, 2) := by decide +kernel
theorem dX8_times_94 : decode cX8_times 94 = .ok (.ireturn, 1) := by decide +kernel
theorem dX8_workedOf_0 : decode cX8_workedOf 0 = .ok (.aload_n 0, 1) := by decide +kernel
theorem dX8_workedOf_1 : decode cX8_workedOf 1 = .ok (.getfield 10, 3) := by decide +kernel
theorem dX8_workedOf_4 : decode cX8_workedOf 4 = .ok (.iload_n 1, 1) := by decide +kernel
theorem dX8_workedOf_5 : decode cX8_workedOf 5 = .ok (.invokevirtual 92, 3) := by decide +kernel
theorem dX8_workedOf_8 : decode cX8_workedOf 8 = .ok (.astore_n 3, 1) := by decide +kernel
theorem dX8_workedOf_9 : decode cX8_workedOf 9 = .ok (.aload_n 3, 1) := by decide +kernel
theorem dX8_workedOf_10 : decode cX8_workedOf 10 = .ok (.ifnonnull 10, 3) := by decide +kernel
theorem dX8_workedOf_13 : decode cX8_workedOf 13 = .ok (.aload_n 0, 1) := by decide +kernel
theorem dX8_workedOf_14 : decode cX8_workedOf 14 = .ok (.bipush (-92), 2) := by decide +kernel
theorem dX8_workedOf_16 : decode cX8_workedOf 16 = .ok (.invokevirtual 55, 3) := by decide +kernel
theorem dX8_workedOf_19 : decode cX8_workedOf 19 = .ok (.ireturn, 1) := by decide +kernel
theorem dX8_workedOf_20 : decode cX8_workedOf 20 = .ok (.aload_n 3, 1) := by decide +kernel
theorem dX8_workedOf_21 : decode cX8_workedOf 21 = .ok (.getfield 96, 3) := by decide +kernel
theorem dX8_workedOf_24 : decode cX8_workedOf 24 = .ok (.astore 4, 2) := by decide +kernel
theorem dX8_workedOf_26 : decode cX8_workedOf 26 = .ok (.iload_n 2, 1) := by decide +kernel
theorem dX8_workedOf_27 : decode cX8_workedOf 27 = .ok (.tableswitch 81 0 5 #[37, 42, 48, 59, 70, 76], 37) := by decide +kernel
theorem dX8_workedOf_64 : decode cX8_workedOf 64 = .ok (.aload_n 3, 1) := by decide +kernel
theorem dX8_workedOf_65 : decode cX8_workedOf 65 = .ok (.getfield 242, 3) := by decide +kernel
theorem dX8_workedOf_68 : decode cX8_workedOf 68 = .ok (.ireturn, 1) := by decide +kernel
theorem dX8_workedOf_69 : decode cX8_workedOf 69 = .ok (.aload 4, 2) := by decide +kernel
theorem dX8_workedOf_71 : decode cX8_workedOf 71 = .ok (.getfield 227, 3) := by decide +kernel
theorem dX8_workedOf_74 : decode cX8_workedOf 74 = .ok (.ireturn, 1) := by decide +kernel
theorem dX8_workedOf_75 : decode cX8_workedOf 75 = .ok (.aload 4, 2) := by decide +kernel
theorem dX8_workedOf_77 : decode cX8_workedOf 77 = .ok (.aload 4, 2) := by decide +kernel
theorem dX8_workedOf_79 : decode cX8_workedOf 79 = .ok (.getfield 227, 3) := by decide +kernel
theorem dX8_workedOf_82 : decode cX8_workedOf 82 = .ok (.invokevirtual 243, 3) := by decide +kernel
theorem dX8_workedOf_85 : decode cX8_workedOf 85 = .ok (.ireturn, 1) := by decide +kernel
theorem dX8_workedOf_86 : decode cX8_workedOf 86 = .ok (.aload 4, 2) := by decide +kernel
theorem dX8_workedOf_88 : decode cX8_workedOf 88 = .ok (.aload 4, 2) := by decide +kernel
theorem dX8_workedOf_90 : decode cX8_workedOf 90 = .ok (.getfield 227, 3) := by decide +kernel
theorem dX8_workedOf_93 : decode cX8_workedOf 93 = .ok (.invokevirtual 246, 3) := by decide +kernel
theorem dX8_workedOf_96 : decode cX8_workedOf 96 = .ok (.ireturn, 1) := by decide +kernel
theorem dX8_workedOf_97 : decode cX8_workedOf 97 = .ok (.aload 4, 2) := by decide +kernel
theorem dX8_workedOf_99 : decode cX8_workedOf 99 = .ok (.invokevirtual 229, 3) := by decide +kernel
theorem dX8_workedOf_102 : decode cX8_workedOf 102 = .ok (.ireturn, 1) := by decide +kernel
theorem dX8_workedOf_103 : decode cX8_workedOf 103 = .ok (.aload_n 3, 1) := by decide +kernel
theorem dX8_workedOf_104 : decode cX8_workedOf 104 = .ok (.getfield 249, 3) := by decide +kernel
theorem dX8_workedOf_107 : decode cX8_workedOf 107 = .ok (.ireturn, 1) := by decide +kernel
theorem dX8_workedOf_108 : decode cX8_workedOf 108 = .ok (.aload_n 0, 1) := by decide +kernel
theorem dX8_workedOf_109 : decode cX8_workedOf 109 = .ok (.bipush (-92), 2) := by decide +kernel
theorem dX8_workedOf_111 : decode cX8_workedOf 111 = .ok (.invokevirtual 55, 3) := by decide +kernel
theorem dX8_workedOf_114 : decode cX8_workedOf 114 = .ok (.ireturn, 1) := by decide +kernel
theorem dX8_stitch_0 : decode cX8_stitch 0 = .ok (.aload_n 0, 1) := by decide +kernel
theorem dX8_stitch_1 : decode cX8_stitch 1 = .ok (.getfield 10, 3) := by decide +kernel
theorem dX8_stitch_4 : decode cX8_stitch 4 = .ok (.iload_n 1, 1) := by decide +kernel
theorem dX8_stitch_5 : decode cX8_stitch 5 = .ok (.invokevirtual 92, 3) := by decide +kernel
theorem dX8_stitch_8 : decode cX8_stitch 8 = .ok (.astore 4, 2) := by decide +kernel
theorem dX8_stitch_10 : decode cX8_stitch 10 = .ok (.aload 4, 2) := by decide +kernel
theorem dX8_stitch_12 : decode cX8_stitch 12 = .ok (.ifnull 15, 3) := by decide +kernel
theorem dX8_stitch_15 : decode cX8_stitch 15 = .ok (.aload 4, 2) := by decide +kernel
theorem dX8_stitch_17 : decode cX8_stitch 17 = .ok (.getfield 96, 3) := by decide +kernel
theorem dX8_stitch_20 : decode cX8_stitch 20 = .ok (.iload_n 2, 1) := by decide +kernel
theorem dX8_stitch_21 : decode cX8_stitch 21 = .ok (.invokevirtual 102, 3) := by decide +kernel
theorem dX8_stitch_24 : decode cX8_stitch 24 = .ok (.ifCond .ne 10, 3) := by decide +kernel
theorem dX8_stitch_27 : decode cX8_stitch 27 = .ok (.aload_n 0, 1) := by decide +kernel
theorem dX8_stitch_28 : decode cX8_stitch 28 = .ok (.bipush (-92), 2) := by decide +kernel
theorem dX8_stitch_30 : decode cX8_stitch 30 = .ok (.invokevirtual 55, 3) := by decide +kernel
theorem dX8_stitch_33 : decode cX8_stitch 33 = .ok (.ireturn, 1) := by decide +kernel
theorem dX8_stitch_34 : decode cX8_stitch 34 = .ok (.iload_n 3, 1) := by decide +kernel
theorem dX8_stitch_35 : decode cX8_stitch 35 = .ok (.tableswitch 55 0 2 #[25, 35, 45], 25) := by decide +kernel
theorem dX8_stitch_60 : decode cX8_stitch 60 = .ok (.aload 4, 2) := by decide +kernel
theorem dX8_stitch_62 : decode cX8_stitch 62 = .ok (.getfield 96, 3) := by decide +kernel
theorem dX8_stitch_65 : decode cX8_stitch 65 = .ok (.iload_n 2, 1) := by decide +kernel
theorem dX8_stitch_66 : decode cX8_stitch 66 = .ok (.invokevirtual 107, 3) := by decide +kernel
theorem dX8_stitch_69 : decode cX8_stitch 69 = .ok (.ireturn, 1) := by decide +kernel
theorem dX8_stitch_70 : decode cX8_stitch 70 = .ok (.aload 4, 2) := by decide +kernel
theorem dX8_stitch_72 : decode cX8_stitch 72 = .ok (.getfield 96, 3) := by decide +kernel
theorem dX8_stitch_75 : decode cX8_stitch 75 = .ok (.iload_n 2, 1) := by decide +kernel
theorem dX8_stitch_76 : decode cX8_stitch 76 = .ok (.invokevirtual 243, 3) := by decide +kernel
theorem dX8_stitch_79 : decode cX8_stitch 79 = .ok (.ireturn, 1) := by decide +kernel
theorem dX8_stitch_80 : decode cX8_stitch 80 = .ok (.aload 4, 2) := by decide +kernel
theorem dX8_stitch_82 : decode cX8_stitch 82 = .ok (.getfield 96, 3) := by decide +kernel
theorem dX8_stitch_85 : decode cX8_stitch 85 = .ok (.iload_n 2, 1) := by decide +kernel
theorem dX8_stitch_86 : decode cX8_stitch 86 = .ok (.invokevirtual 246, 3) := by decide +kernel
theorem dX8_stitch_89 : decode cX8_stitch 89 = .ok (.ireturn, 1) := by decide +kernel
theorem dX8_stitch_90 : decode cX8_stitch 90 = .ok (.aload_n 0, 1) := by decide +kernel
theorem dX8_stitch_91 : decode cX8_stitch 91 = .ok (.bipush (-92), 2) := by decide +kernel
theorem dX8_stitch_93 : decode cX8_stitch 93 = .ok (.invokevirtual 55, 3) := by decide +kernel
theorem dX8_stitch_96 : decode cX8_stitch 96 = .ok (.ireturn, 1) := by decide +kernel
theorem dX8_chart_0 : decode cX8_chart 0 = .ok (.aload_n 0, 1) := by decide +kernel
theorem dX8_chart_1 : decode cX8_chart 1 = .ok (.getfield 10, 3) := by decide +kernel
theorem dX8_chart_4 : decode cX8_chart 4 = .ok (.iload_n 1, 1) := by decide +kernel
theorem dX8_chart_5 : decode cX8_chart 5 = .ok (.invokevirtual 92, 3) := by decide +kernel
theorem dX8_chart_8 : decode cX8_chart 8 = .ok (.astore_n 3, 1) := by decide +kernel
theorem dX8_chart_9 : decode cX8_chart 9 = .ok (.aload_n 3, 1) := by decide +kernel
theorem dX8_chart_10 : decode cX8_chart 10 = .ok (.ifnonnull 12, 3) := by decide +kernel
theorem dX8_chart_13 : decode cX8_chart 13 = .ok (.aload_n 0, 1) := by decide +kernel
theorem dX8_chart_14 : decode cX8_chart 14 = .ok (.bipush (-92), 2) := by decide +kernel
theorem dX8_chart_16 : decode cX8_chart 16 = .ok (.invokevirtual 55, 3) := by decide +kernel
theorem dX8_chart_19 : decode cX8_chart 19 = .ok (.goto 8, 3) := by decide +kernel
theorem dX8_chart_22 : decode cX8_chart 22 = .ok (.aload_n 3, 1) := by decide +kernel
theorem dX8_chart_23 : decode cX8_chart 23 = .ok (.iload_n 2, 1) := by decide +kernel
theorem dX8_chart_24 : decode cX8_chart 24 = .ok (.invokevirtual 252, 3) := by decide +kernel
theorem dX8_chart_27 : decode cX8_chart 27 = .ok (.ireturn, 1) := by decide +kernel
theorem dX8_shorthand_0 : decode cX8_shorthand 0 = .ok (.aload_n 0, 1) := by decide +kernel
theorem dX8_shorthand_1 : decode cX8_shorthand 1 = .ok (.getfield 10, 3) := by decide +kernel
theorem dX8_shorthand_4 : decode cX8_shorthand 4 = .ok (.iload_n 1, 1) := by decide +kernel
theorem dX8_shorthand_5 : decode cX8_shorthand 5 = .ok (.invokevirtual 92, 3) := by decide +kernel
theorem dX8_shorthand_8 : decode cX8_shorthand 8 = .ok (.astore_n 3, 1) := by decide +kernel
theorem dX8_shorthand_9 : decode cX8_shorthand 9 = .ok (.aload_n 3, 1) := by decide +kernel
theorem dX8_shorthand_10 : decode cX8_shorthand 10 = .ok (.ifnonnull 12, 3) := by decide +kernel
theorem dX8_shorthand_13 : decode cX8_shorthand 13 = .ok (.aload_n 0, 1) := by decide +kernel
theorem dX8_shorthand_14 : decode cX8_shorthand 14 = .ok (.bipush (-92), 2) := by decide +kernel
theorem dX8_shorthand_16 : decode cX8_shorthand 16 = .ok (.invokevirtual 55, 3) := by decide +kernel
theorem dX8_shorthand_19 : decode cX8_shorthand 19 = .ok (.goto 11, 3) := by decide +kernel
theorem dX8_shorthand_22 : decode cX8_shorthand 22 = .ok (.aload_n 3, 1) := by decide +kernel
theorem dX8_shorthand_23 : decode cX8_shorthand 23 = .ok (.getfield 96, 3) := by decide +kernel
theorem dX8_shorthand_26 : decode cX8_shorthand 26 = .ok (.iload_n 2, 1) := by decide +kernel
theorem dX8_shorthand_27 : decode cX8_shorthand 27 = .ok (.invokevirtual 255, 3) := by decide +kernel
theorem dX8_shorthand_30 : decode cX8_shorthand 30 = .ok (.ireturn, 1) := by decide +kernel
theorem dX8_unit_0 : decode cX8_unit 0 = .ok (.aload_n 0, 1) := by decide +kernel
theorem dX8_unit_1 : decode cX8_unit 1 = .ok (.getfield 10, 3) := by decide +kernel
theorem dX8_unit_4 : decode cX8_unit 4 = .ok (.iload_n 1, 1) := by decide +kernel
theorem dX8_unit_5 : decode cX8_unit 5 = .ok (.invokevirtual 92, 3) := by decide +kernel
theorem dX8_unit_8 : decode cX8_unit 8 = .ok (.astore_n 2, 1) := by decide +kernel
theorem dX8_unit_9 : decode cX8_unit 9 = .ok (.aload_n 2, 1) := by decide +kernel
theorem dX8_unit_10 : decode cX8_unit 10 = .ok (.ifnonnull 12, 3) := by decide +kernel
theorem dX8_unit_13 : decode cX8_unit 13 = .ok (.aload_n 0, 1) := by decide +kernel
theorem dX8_unit_14 : decode cX8_unit 14 = .ok (.bipush (-92), 2) := by decide +kernel
theorem dX8_unit_16 : decode cX8_unit 16 = .ok (.invokevirtual 55, 3) := by decide +kernel
theorem dX8_unit_19 : decode cX8_unit 19 = .ok (.goto 10, 3) := by decide +kernel
theorem dX8_unit_22 : decode cX8_unit 22 = .ok (.aload_n 2, 1) := by decide +kernel
theorem dX8_unit_23 : decode cX8_unit 23 = .ok (.getfield 96, 3) := by decide +kernel
theorem dX8_unit_26 : decode cX8_unit 26 = .ok (.invokevirtual 258, 3) := by decide +kernel
theorem dX8_unit_29 : decode cX8_unit 29 = .ok (.ireturn, 1) := by decide +kernel
theorem dX8_mirrored_0 : decode cX8_mirrored 0 = .ok (.aload_n 0, 1) := by decide +kernel
theorem dX8_mirrored_1 : decode cX8_mirrored 1 = .ok (.getfield 10, 3) := by decide +kernel
theorem dX8_mirrored_4 : decode cX8_mirrored 4 = .ok (.iload_n 1, 1) := by decide +kernel
theorem dX8_mirrored_5 : decode cX8_mirrored 5 = .ok (.invokevirtual 92, 3) := by decide +kernel
theorem dX8_mirrored_8 : decode cX8_mirrored 8 = .ok (.astore_n 3, 1) := by decide +kernel
theorem dX8_mirrored_9 : decode cX8_mirrored 9 = .ok (.aload_n 3, 1) := by decide +kernel
theorem dX8_mirrored_10 : decode cX8_mirrored 10 = .ok (.ifnonnull 12, 3) := by decide +kernel
theorem dX8_mirrored_13 : decode cX8_mirrored 13 = .ok (.aload_n 0, 1) := by decide +kernel
theorem dX8_mirrored_14 : decode cX8_mirrored 14 = .ok (.bipush (-92), 2) := by decide +kernel
theorem dX8_mirrored_16 : decode cX8_mirrored 16 = .ok (.invokevirtual 55, 3) := by decide +kernel
theorem dX8_mirrored_19 : decode cX8_mirrored 19 = .ok (.goto 11, 3) := by decide +kernel
theorem dX8_mirrored_22 : decode cX8_mirrored 22 = .ok (.aload_n 3, 1) := by decide +kernel
theorem dX8_mirrored_23 : decode cX8_mirrored 23 = .ok (.getfield 96, 3) := by decide +kernel
theorem dX8_mirrored_26 : decode cX8_mirrored 26 = .ok (.iload_n 2, 1) := by decide +kernel
theorem dX8_mirrored_27 : decode cX8_mirrored 27 = .ok (.invokevirtual 261, 3) := by decide +kernel
theorem dX8_mirrored_30 : decode cX8_mirrored 30 = .ok (.ireturn, 1) := by decide +kernel
theorem dX8_even_0 : decode cX8_even 0 = .ok (.aload_n 0, 1) := by decide +kernel
theorem dX8_even_1 : decode cX8_even 1 = .ok (.getfield 10, 3) := by decide +kernel
theorem dX8_even_4 : decode cX8_even 4 = .ok (.iload_n 1, 1) := by decide +kernel
theorem dX8_even_5 : decode cX8_even 5 = .ok (.invokevirtual 92, 3) := by decide +kernel
theorem dX8_even_8 : decode cX8_even 8 = .ok (.astore_n 2, 1) := by decide +kernel
theorem dX8_even_9 : decode cX8_even 9 = .ok (.aload_n 2, 1) := by decide +kernel
theorem dX8_even_10 : decode cX8_even 10 = .ok (.ifnonnull 10, 3) := by decide +kernel
theorem dX8_even_13 : decode cX8_even 13 = .ok (.aload_n 0, 1) := by decide +kernel
theorem dX8_even_14 : decode cX8_even 14 = .ok (.bipush (-92), 2) := by decide +kernel
theorem dX8_even_16 : decode cX8_even 16 = .ok (.invokevirtual 55, 3) := by decide +kernel
theorem dX8_even_19 : decode cX8_even 19 = .ok (.ireturn, 1) := by decide +kernel
theorem dX8_even_20 : decode cX8_even 20 = .ok (.aload_n 2, 1) := by decide +kernel
theorem dX8_even_21 : decode cX8_even 21 = .ok (.getfield 96, 3) := by decide +kernel
theorem dX8_even_24 : decode cX8_even 24 = .ok (.invokevirtual 264, 3) := by decide +kernel
theorem dX8_even_27 : decode cX8_even 27 = .ok (.ifCond .eq 7, 3) := by decide +kernel
theorem dX8_even_30 : decode cX8_even 30 = .ok (.iconst 1, 1) := by decide +kernel
theorem dX8_even_31 : decode cX8_even 31 = .ok (.goto 4, 3) := by decide +kernel
theorem dX8_even_34 : decode cX8_even 34 = .ok (.iconst 0, 1) := by decide +kernel
theorem dX8_even_35 : decode cX8_even 35 = .ok (.ireturn, 1) := by decide +kernel
theorem dX8_roots_0 : decode cX8_roots 0 = .ok (.aload_n 0, 1) := by decide +kernel
theorem dX8_roots_1 : decode cX8_roots 1 = .ok (.getfield 10, 3) := by decide +kernel
theorem dX8_roots_4 : decode cX8_roots 4 = .ok (.iload_n 1, 1) := by decide +kernel
theorem dX8_roots_5 : decode cX8_roots 5 = .ok (.invokevirtual 92, 3) := by decide +kernel
theorem dX8_roots_8 : decode cX8_roots 8 = .ok (.astore_n 3, 1) := by decide +kernel
theorem dX8_roots_9 : decode cX8_roots 9 = .ok (.aload_n 3, 1) := by decide +kernel
theorem dX8_roots_10 : decode cX8_roots 10 = .ok (.ifnull 25, 3) := by decide +kernel
theorem dX8_roots_13 : decode cX8_roots 13 = .ok (.iload_n 2, 1) := by decide +kernel
theorem dX8_roots_14 : decode cX8_roots 14 = .ok (.ifCond .lt 21, 3) := by decide +kernel
theorem dX8_roots_17 : decode cX8_roots 17 = .ok (.iload_n 2, 1) := by decide +kernel
theorem dX8_roots_18 : decode cX8_roots 18 = .ok (.aload_n 3, 1) := by decide +kernel
theorem dX8_roots_19 : decode cX8_roots 19 = .ok (.getfield 96, 3) := by decide +kernel
theorem dX8_roots_22 : decode cX8_roots 22 = .ok (.aload_n 3, 1) := by decide +kernel
theorem dX8_roots_23 : decode cX8_roots 23 = .ok (.getfield 96, 3) := by decide +kernel
theorem dX8_roots_26 : decode cX8_roots 26 = .ok (.getfield 227, 3) := by decide +kernel
theorem dX8_roots_29 : decode cX8_roots 29 = .ok (.invokevirtual 246, 3) := by decide +kernel
theorem dX8_roots_32 : decode cX8_roots 32 = .ok (.if_icmp .lt 10, 3) := by decide +kernel
theorem dX8_roots_35 : decode cX8_roots 35 = .ok (.aload_n 0, 1) := by decide +kernel
theorem dX8_roots_36 : decode cX8_roots 36 = .ok (.bipush (-92), 2) := by decide +kernel
theorem dX8_roots_38 : decode cX8_roots 38 = .ok (.invokevirtual 235, 3) := by decide +kernel
theorem dX8_roots_41 : decode cX8_roots 41 = .ok (.lreturn, 1) := by decide +kernel
theorem dX8_roots_42 : decode cX8_roots 42 = .ok (.aload_n 3, 1) := by decide +kernel
theorem dX8_roots_43 : decode cX8_roots 43 = .ok (.getfield 96, 3) := by decide +kernel
theorem dX8_roots_46 : decode cX8_roots 46 = .ok (.lconst 1, 1) := by decide +kernel
theorem dX8_roots_47 : decode cX8_roots 47 = .ok (.iload_n 2, 1) := by decide +kernel
theorem dX8_roots_48 : decode cX8_roots 48 = .ok (.lshl, 1) := by decide +kernel
theorem dX8_roots_49 : decode cX8_roots 49 = .ok (.invokevirtual 267, 3) := by decide +kernel
theorem dX8_roots_52 : decode cX8_roots 52 = .ok (.lreturn, 1) := by decide +kernel
theorem dX8_origin_0 : decode cX8_origin 0 = .ok (.iload_n 1, 1) := by decide +kernel
theorem dX8_origin_1 : decode cX8_origin 1 = .ok (.ifCond .lt 14, 3) := by decide +kernel
theorem dX8_origin_4 : decode cX8_origin 4 = .ok (.iload_n 1, 1) := by decide +kernel
theorem dX8_origin_5 : decode cX8_origin 5 = .ok (.aload_n 0, 1) := by decide +kernel
theorem dX8_origin_6 : decode cX8_origin 6 = .ok (.getfield 10, 3) := by decide +kernel
theorem dX8_origin_9 : decode cX8_origin 9 = .ok (.getfield 181, 3) := by decide +kernel
theorem dX8_origin_12 : decode cX8_origin 12 = .ok (.if_icmp .lt 10, 3) := by decide +kernel
theorem dX8_origin_15 : decode cX8_origin 15 = .ok (.aload_n 0, 1) := by decide +kernel
theorem dX8_origin_16 : decode cX8_origin 16 = .ok (.bipush (-92), 2) := by decide +kernel
theorem dX8_origin_18 : decode cX8_origin 18 = .ok (.invokevirtual 235, 3) := by decide +kernel
theorem dX8_origin_21 : decode cX8_origin 21 = .ok (.lreturn, 1) := by decide +kernel
theorem dX8_origin_22 : decode cX8_origin 22 = .ok (.aload_n 0, 1) := by decide +kernel
theorem dX8_origin_23 : decode cX8_origin 23 = .ok (.getfield 10, 3) := by decide +kernel
theorem dX8_origin_26 : decode cX8_origin 26 = .ok (.iload_n 1, 1) := by decide +kernel
theorem dX8_origin_27 : decode cX8_origin 27 = .ok (.invokevirtual 271, 3) := by decide +kernel
theorem dX8_origin_30 : decode cX8_origin 30 = .ok (.lreturn, 1) := by decide +kernel
theorem dX8_yarn_0 : decode cX8_yarn 0 = .ok (.lconst 0, 1) := by decide +kernel
theorem dX8_yarn_1 : decode cX8_yarn 1 = .ok (.lstore_n 1, 1) := by decide +kernel
theorem dX8_yarn_2 : decode cX8_yarn 2 = .ok (.iconst 0, 1) := by decide +kernel
theorem dX8_yarn_3 : decode cX8_yarn 3 = .ok (.istore_n 3, 1) := by decide +kernel
theorem dX8_yarn_4 : decode cX8_yarn 4 = .ok (.iload_n 3, 1) := by decide +kernel
theorem dX8_yarn_5 : decode cX8_yarn 5 = .ok (.aload_n 0, 1) := by decide +kernel
theorem dX8_yarn_6 : decode cX8_yarn 6 = .ok (.getfield 10, 3) := by decide +kernel
theorem dX8_yarn_9 : decode cX8_yarn 9 = .ok (.getfield 175, 3) := by decide +kernel
theorem dX8_yarn_12 : decode cX8_yarn 12 = .ok (.if_icmp .ge 40, 3) := by decide +kernel
theorem dX8_yarn_15 : decode cX8_yarn 15 = .ok (.aload_n 0, 1) := by decide +kernel
theorem dX8_yarn_16 : decode cX8_yarn 16 = .ok (.getfield 10, 3) := by decide +kernel
theorem dX8_yarn_19 : decode cX8_yarn 19 = .ok (.iload_n 3, 1) := by decide +kernel
theorem dX8_yarn_20 : decode cX8_yarn 20 = .ok (.invokevirtual 92, 3) := by decide +kernel
theorem dX8_yarn_23 : decode cX8_yarn 23 = .ok (.astore 4, 2) := by decide +kernel
theorem dX8_yarn_25 : decode cX8_yarn 25 = .ok (.lload_n 1, 1) := by decide +kernel
theorem dX8_yarn_26 : decode cX8_yarn 26 = .ok (.aload 4, 2) := by decide +kernel
theorem dX8_yarn_28 : decode cX8_yarn 28 = .ok (.ifnonnull 7, 3) := by decide +kernel
theorem dX8_yarn_31 : decode cX8_yarn 31 = .ok (.lconst 0, 1) := by decide +kernel
theorem dX8_yarn_32 : decode cX8_yarn 32 = .ok (.goto 12, 3) := by decide +kernel
theorem dX8_yarn_35 : decode cX8_yarn 35 = .ok (.aload 4, 2) := by decide +kernel
theorem dX8_yarn_37 : decode cX8_yarn 37 = .ok (.getfield 96, 3) := by decide +kernel
theorem dX8_yarn_40 : decode cX8_yarn 40 = .ok (.invokevirtual 229, 3) := by decide +kernel
theorem dX8_yarn_43 : decode cX8_yarn 43 = .ok (.i2l, 1) := by decide +kernel
theorem dX8_yarn_44 : decode cX8_yarn 44 = .ok (.ladd, 1) := by decide +kernel
theorem dX8_yarn_45 : decode cX8_yarn 45 = .ok (.lstore_n 1, 1) := by decide +kernel
theorem dX8_yarn_46 : decode cX8_yarn 46 = .ok (.iinc 3 1, 3) := by decide +kernel
theorem dX8_yarn_49 : decode cX8_yarn 49 = .ok (.goto (-45), 3) := by decide +kernel
theorem dX8_yarn_52 : decode cX8_yarn 52 = .ok (.lload_n 1, 1) := by decide +kernel
theorem dX8_yarn_53 : decode cX8_yarn 53 = .ok (.lreturn, 1) := by decide +kernel
theorem dX8_many_0 : decode cX8_many 0 = .ok (.iload_n 1, 1) := by decide +kernel
theorem dX8_many_1 : decode cX8_many 1 = .ok (.invokestatic 114, 3) := by decide +kernel
theorem dX8_many_4 : decode cX8_many 4 = .ok (.ifCond .ne 10, 3) := by decide +kernel
theorem dX8_many_7 : decode cX8_many 7 = .ok (.aload_n 0, 1) := by decide +kernel
theorem dX8_many_8 : decode cX8_many 8 = .ok (.bipush (-92), 2) := by decide +kernel
theorem dX8_many_10 : decode cX8_many 10 = .ok (.invokevirtual 55, 3) := by decide +kernel
theorem dX8_many_13 : decode cX8_many 13 = .ok (.ireturn, 1) := by decide +kernel
theorem dX8_many_14 : decode cX8_many 14 = .ok (.iconst 0, 1) := by decide +kernel
theorem dX8_many_15 : decode cX8_many 15 = .ok (.istore_n 2, 1) := by decide +kernel
theorem dX8_many_16 : decode cX8_many 16 = .ok (.iconst 0, 1) := by decide +kernel
theorem dX8_many_17 : decode cX8_many 17 = .ok (.istore_n 3, 1) := by decide +kernel
theorem dX8_many_18 : decode cX8_many 18 = .ok (.iload_n 3, 1) := by decide +kernel
theorem dX8_many_19 : decode cX8_many 19 = .ok (.aload_n 0, 1) := by decide +kernel
theorem dX8_many_20 : decode cX8_many 20 = .ok (.getfield 10, 3) := by decide +kernel
theorem dX8_many_23 : decode cX8_many 23 = .ok (.getfield 175, 3) := by decide +kernel
theorem dX8_many_26 : decode cX8_many 26 = .ok (.if_icmp .ge 40, 3) := by decide +kernel
theorem dX8_many_29 : decode cX8_many 29 = .ok (.aload_n 0, 1) := by decide +kernel
theorem dX8_many_30 : decode cX8_many 30 = .ok (.getfield 10, 3) := by decide +kernel
theorem dX8_many_33 : decode cX8_many 33 = .ok (.iload_n 3, 1) := by decide +kernel
theorem dX8_many_34 : decode cX8_many 34 = .ok (.invokevirtual 92, 3) := by decide +kernel
theorem dX8_many_37 : decode cX8_many 37 = .ok (.astore 4, 2) := by decide +kernel
theorem dX8_many_39 : decode cX8_many 39 = .ok (.iload_n 2, 1) := by decide +kernel
theorem dX8_many_40 : decode cX8_many 40 = .ok (.aload 4, 2) := by decide +kernel
theorem dX8_many_42 : decode cX8_many 42 = .ok (.ifnonnull 7, 3) := by decide +kernel
theorem dX8_many_45 : decode cX8_many 45 = .ok (.iconst 0, 1) := by decide +kernel
theorem dX8_many_46 : decode cX8_many 46 = .ok (.goto 12, 3) := by decide +kernel
theorem dX8_many_49 : decode cX8_many 49 = .ok (.aload 4, 2) := by decide +kernel
theorem dX8_many_51 : decode cX8_many 51 = .ok (.getfield 96, 3) := by decide +kernel
theorem dX8_many_54 : decode cX8_many 54 = .ok (.iload_n 1, 1) := by decide +kernel
theorem dX8_many_55 : decode cX8_many 55 = .ok (.invokevirtual 274, 3) := by decide +kernel
theorem dX8_many_58 : decode cX8_many 58 = .ok (.iadd, 1) := by decide +kernel
theorem dX8_many_59 : decode cX8_many 59 = .ok (.istore_n 2, 1) := by decide +kernel
theorem dX8_many_60 : decode cX8_many 60 = .ok (.iinc 3 1, 3) := by decide +kernel
theorem dX8_many_63 : decode cX8_many 63 = .ok (.goto (-45), 3) := by decide +kernel
theorem dX8_many_66 : decode cX8_many 66 = .ok (.iload_n 2, 1) := by decide +kernel
theorem dX8_many_67 : decode cX8_many 67 = .ok (.ireturn, 1) := by decide +kernel
theorem dX8_differ_0 : decode cX8_differ 0 = .ok (.aload_n 0, 1) := by decide +kernel
theorem dX8_differ_1 : decode cX8_differ 1 = .ok (.getfield 10, 3) := by decide +kernel
theorem dX8_differ_4 : decode cX8_differ 4 = .ok (.iload_n 1, 1) := by decide +kernel
theorem dX8_differ_5 : decode cX8_differ 5 = .ok (.invokevirtual 92, 3) := by decide +kernel
theorem dX8_differ_8 : decode cX8_differ 8 = .ok (.astore_n 3, 1) := by decide +kernel
theorem dX8_differ_9 : decode cX8_differ 9 = .ok (.aload_n 0, 1) := by decide +kernel
theorem dX8_differ_10 : decode cX8_differ 10 = .ok (.getfield 10, 3) := by decide +kernel
theorem dX8_differ_13 : decode cX8_differ 13 = .ok (.iload_n 2, 1) := by decide +kernel
theorem dX8_differ_14 : decode cX8_differ 14 = .ok (.invokevirtual 92, 3) := by decide +kernel
theorem dX8_differ_17 : decode cX8_differ 17 = .ok (.astore 4, 2) := by decide +kernel
theorem dX8_differ_19 : decode cX8_differ 19 = .ok (.aload_n 3, 1) := by decide +kernel
theorem dX8_differ_20 : decode cX8_differ 20 = .ok (.ifnull 8, 3) := by decide +kernel
theorem dX8_differ_23 : decode cX8_differ 23 = .ok (.aload 4, 2) := by decide +kernel
theorem dX8_differ_25 : decode cX8_differ 25 = .ok (.ifnonnull 10, 3) := by decide +kernel
theorem dX8_differ_28 : decode cX8_differ 28 = .ok (.aload_n 0, 1) := by decide +kernel
theorem dX8_differ_29 : decode cX8_differ 29 = .ok (.bipush (-92), 2) := by decide +kernel
theorem dX8_differ_31 : decode cX8_differ 31 = .ok (.invokevirtual 55, 3) := by decide +kernel
theorem dX8_differ_34 : decode cX8_differ 34 = .ok (.ireturn, 1) := by decide +kernel
theorem dX8_differ_35 : decode cX8_differ 35 = .ok (.aload_n 3, 1) := by decide +kernel
theorem dX8_differ_36 : decode cX8_differ 36 = .ok (.getfield 96, 3) := by decide +kernel
theorem dX8_differ_39 : decode cX8_differ 39 = .ok (.getfield 227, 3) := by decide +kernel
theorem dX8_differ_42 : decode cX8_differ 42 = .ok (.aload 4, 2) := by decide +kernel
theorem dX8_differ_44 : decode cX8_differ 44 = .ok (.getfield 96, 3) := by decide +kernel
theorem dX8_differ_47 : decode cX8_differ 47 = .ok (.getfield 227, 3) := by decide +kernel
theorem dX8_differ_50 : decode cX8_differ 50 = .ok (.invokestatic 277, 3) := by decide +kernel
theorem dX8_differ_53 : decode cX8_differ 53 = .ok (.istore 5, 2) := by decide +kernel
theorem dX8_differ_55 : decode cX8_differ 55 = .ok (.iconst 0, 1) := by decide +kernel
theorem dX8_differ_56 : decode cX8_differ 56 = .ok (.istore 6, 2) := by decide +kernel
theorem dX8_differ_58 : decode cX8_differ 58 = .ok (.iload 6, 2) := by decide +kernel
theorem dX8_differ_60 : decode cX8_differ 60 = .ok (.iload 5, 2) := by decide +kernel
theorem dX8_differ_62 : decode cX8_differ 62 = .ok (.if_icmp .ge 28, 3) := by decide +kernel
theorem dX8_differ_65 : decode cX8_differ 65 = .ok (.aload_n 3, 1) := by decide +kernel
theorem dX8_differ_66 : decode cX8_differ 66 = .ok (.iload 6, 2) := by decide +kernel
theorem dX8_differ_68 : decode cX8_differ 68 = .ok (.invokevirtual 252, 3) := by decide +kernel
theorem dX8_differ_71 : decode cX8_differ 71 = .ok (.aload 4, 2) := by decide +kernel
theorem dX8_differ_73 : decode cX8_differ 73 = .ok (.iload 6, 2) := by decide +kernel
theorem dX8_differ_75 : decode cX8_differ 75 = .ok (.invokevirtual 252, 3) := by decide +kernel
theorem dX8_differ_78 : decode cX8_differ 78 = .ok (.if_icmp .eq 6, 3) := by decide +kernel
theorem dX8_differ_81 : decode cX8_differ 81 = .ok (.iload 6, 2) := by decide +kernel
theorem dX8_differ_83 : decode cX8_differ 83 = .ok (.ireturn, 1) := by decide +kernel
theorem dX8_differ_84 : decode cX8_differ 84 = .ok (.iinc 6 1, 3) := by decide +kernel
theorem dX8_differ_87 : decode cX8_differ 87 = .ok (.goto (-29), 3) := by decide +kernel
theorem dX8_differ_90 : decode cX8_differ 90 = .ok (.iconst (-1), 1) := by decide +kernel
theorem dX8_differ_91 : decode cX8_differ 91 = .ok (.ireturn, 1) := by decide +kernel
theorem dX8_judge_0 : decode cX8_judge 0 = .ok (.aload_n 0, 1) := by decide +kernel
theorem dX8_judge_1 : decode cX8_judge 1 = .ok (.getfield 10, 3) := by decide +kernel
theorem dX8_judge_4 : decode cX8_judge 4 = .ok (.iload_n 1, 1) := by decide +kernel
theorem dX8_judge_5 : decode cX8_judge 5 = .ok (.invokevirtual 92, 3) := by decide +kernel
theorem dX8_judge_8 : decode cX8_judge 8 = .ok (.astore 4, 2) := by decide +kernel
theorem dX8_judge_10 : decode cX8_judge 10 = .ok (.aload_n 0, 1) := by decide +kernel
theorem dX8_judge_11 : decode cX8_judge 11 = .ok (.iload_n 2, 1) := by decide +kernel
theorem dX8_judge_12 : decode cX8_judge 12 = .ok (.invokevirtual 47, 3) := by decide +kernel
theorem dX8_judge_15 : decode cX8_judge 15 = .ok (.astore 5, 2) := by decide +kernel
theorem dX8_judge_17 : decode cX8_judge 17 = .ok (.aload 4, 2) := by decide +kernel
theorem dX8_judge_19 : decode cX8_judge 19 = .ok (.ifnull 18, 3) := by decide +kernel
theorem dX8_judge_22 : decode cX8_judge 22 = .ok (.aload 5, 2) := by decide +kernel
theorem dX8_judge_24 : decode cX8_judge 24 = .ok (.ifnull 13, 3) := by decide +kernel
theorem dX8_judge_27 : decode cX8_judge 27 = .ok (.iload_n 3, 1) := by decide +kernel
theorem dX8_judge_28 : decode cX8_judge 28 = .ok (.ifCond .lt 9, 3) := by decide +kernel
theorem dX8_judge_31 : decode cX8_judge 31 = .ok (.iload_n 3, 1) := by decide +kernel
theorem dX8_judge_32 : decode cX8_judge 32 = .ok (.bipush 40, 2) := by decide +kernel
theorem dX8_judge_34 : decode cX8_judge 34 = .ok (.if_icmp .le 10, 3) := by decide +kernel
theorem dX8_judge_37 : decode cX8_judge 37 = .ok (.aload_n 0, 1) := by decide +kernel
theorem dX8_judge_38 : decode cX8_judge 38 = .ok (.bipush (-92), 2) := by decide +kernel
theorem dX8_judge_40 : decode cX8_judge 40 = .ok (.invokevirtual 55, 3) := by decide +kernel
theorem dX8_judge_43 : decode cX8_judge 43 = .ok (.ireturn, 1) := by decide +kernel
theorem dX8_judge_44 : decode cX8_judge 44 = .ok (.aload 5, 2) := by decide +kernel
theorem dX8_judge_46 : decode cX8_judge 46 = .ok (.invokevirtual 63, 3) := by decide +kernel
theorem dX8_judge_49 : decode cX8_judge 49 = .ok (.ifCond .ne 23, 3) := by decide +kernel
theorem dX8_judge_52 : decode cX8_judge 52 = .ok (.aload_n 0, 1) := by decide +kernel
theorem dX8_judge_53 : decode cX8_judge 53 = .ok (.aload 5, 2) := by decide +kernel
theorem dX8_judge_55 : decode cX8_judge 55 = .ok (.invokevirtual 67, 3) := by decide +kernel
theorem dX8_judge_58 : decode cX8_judge 58 = .ok (.ifCond .eq 8, 3) := by decide +kernel
theorem dX8_judge_61 : decode cX8_judge 61 = .ok (.bipush (-94), 2) := by decide +kernel
theorem dX8_judge_63 : decode cX8_judge 63 = .ok (.goto 5, 3) := by decide +kernel
theorem dX8_judge_66 : decode cX8_judge 66 = .ok (.bipush (-93), 2) := by decide +kernel
theorem dX8_judge_68 : decode cX8_judge 68 = .ok (.invokevirtual 55, 3) := by decide +kernel
theorem dX8_judge_71 : decode cX8_judge 71 = .ok (.ireturn, 1) := by decide +kernel
theorem dX8_judge_72 : decode cX8_judge 72 = .ok (.aload 5, 2) := by decide +kernel
theorem dX8_judge_74 : decode cX8_judge 74 = .ok (.getfield 282, 3) := by decide +kernel
theorem dX8_judge_77 : decode cX8_judge 77 = .ok (.iload_n 3, 1) := by decide +kernel
theorem dX8_judge_78 : decode cX8_judge 78 = .ok (.if_icmp .ge 10, 3) := by decide +kernel
theorem dX8_judge_81 : decode cX8_judge 81 = .ok (.aload_n 0, 1) := by decide +kernel
theorem dX8_judge_82 : decode cX8_judge 82 = .ok (.bipush (-92), 2) := by decide +kernel
theorem dX8_judge_84 : decode cX8_judge 84 = .ok (.invokevirtual 55, 3) := by decide +kernel
theorem dX8_judge_87 : decode cX8_judge 87 = .ok (.ireturn, 1) := by decide +kernel
theorem dX8_judge_88 : decode cX8_judge 88 = .ok (.iconst 0, 1) := by decide +kernel
theorem dX8_judge_89 : decode cX8_judge 89 = .ok (.istore 6, 2) := by decide +kernel
theorem dX8_judge_91 : decode cX8_judge 91 = .ok (.iload 6, 2) := by decide +kernel
theorem dX8_judge_93 : decode cX8_judge 93 = .ok (.iload_n 3, 1) := by decide +kernel
theorem dX8_judge_94 : decode cX8_judge 94 = .ok (.if_icmp .ge 47, 3) := by decide +kernel
theorem dX8_judge_97 : decode cX8_judge 97 = .ok (.aload 4, 2) := by decide +kernel
theorem dX8_judge_99 : decode cX8_judge 99 = .ok (.getfield 96, 3) := by decide +kernel
theorem dX8_judge_102 : decode cX8_judge 102 = .ok (.iload 6, 2) := by decide +kernel
theorem dX8_judge_104 : decode cX8_judge 104 = .ok (.invokevirtual 102, 3) := by decide +kernel
theorem dX8_judge_107 : decode cX8_judge 107 = .ok (.ifCond .eq 25, 3) := by decide +kernel
theorem dX8_judge_110 : decode cX8_judge 110 = .ok (.aload 5, 2) := by decide +kernel
theorem dX8_judge_112 : decode cX8_judge 112 = .ok (.iload 6, 2) := by decide +kernel
theorem dX8_judge_114 : decode cX8_judge 114 = .ok (.invokevirtual 85, 3) := by decide +kernel
theorem dX8_judge_117 : decode cX8_judge 117 = .ok (.aload 4, 2) := by decide +kernel
theorem dX8_judge_119 : decode cX8_judge 119 = .ok (.getfield 96, 3) := by decide +kernel
theorem dX8_judge_122 : decode cX8_judge 122 = .ok (.iload 6, 2) := by decide +kernel
theorem dX8_judge_124 : decode cX8_judge 124 = .ok (.invokevirtual 107, 3) := by decide +kernel
theorem dX8_judge_127 : decode cX8_judge 127 = .ok (.i2l, 1) := by decide +kernel
theorem dX8_judge_128 : decode cX8_judge 128 = .ok (.lcmp, 1) := by decide +kernel
theorem dX8_judge_129 : decode cX8_judge 129 = .ok (.ifCond .eq 6, 3) := by decide +kernel
theorem dX8_judge_132 : decode cX8_judge 132 = .ok (.iload 6, 2) := by decide +kernel
theorem dX8_judge_134 : decode cX8_judge 134 = .ok (.ireturn, 1) := by decide +kernel
theorem dX8_judge_135 : decode cX8_judge 135 = .ok (.iinc 6 1, 3) := by decide +kernel
theorem dX8_judge_138 : decode cX8_judge 138 = .ok (.goto (-47), 3) := by decide +kernel
theorem dX8_judge_141 : decode cX8_judge 141 = .ok (.aload 4, 2) := by decide +kernel
theorem dX8_judge_143 : decode cX8_judge 143 = .ok (.getfield 96, 3) := by decide +kernel
theorem dX8_judge_146 : decode cX8_judge 146 = .ok (.getfield 227, 3) := by decide +kernel
theorem dX8_judge_149 : decode cX8_judge 149 = .ok (.iload_n 3, 1) := by decide +kernel
theorem dX8_judge_150 : decode cX8_judge 150 = .ok (.if_icmp .le 7, 3) := by decide +kernel
theorem dX8_judge_153 : decode cX8_judge 153 = .ok (.iload_n 3, 1) := by decide +kernel
theorem dX8_judge_154 : decode cX8_judge 154 = .ok (.goto 4, 3) := by decide +kernel
theorem dX8_judge_157 : decode cX8_judge 157 = .ok (.iconst (-1), 1) := by decide +kernel
theorem dX8_judge_158 : decode cX8_judge 158 = .ok (.ireturn, 1) := by decide +kernel
theorem dX8_days_0 : decode cX8_days 0 = .ok (.iload_n 1, 1) := by decide +kernel
theorem dX8_days_1 : decode cX8_days 1 = .ok (.iconst 1, 1) := by decide +kernel
theorem dX8_days_2 : decode cX8_days 2 = .ok (.if_icmp .lt 9, 3) := by decide +kernel
theorem dX8_days_5 : decode cX8_days 5 = .ok (.iload_n 1, 1) := by decide +kernel
theorem dX8_days_6 : decode cX8_days 6 = .ok (.bipush 60, 2) := by decide +kernel
theorem dX8_days_8 : decode cX8_days 8 = .ok (.if_icmp .le 10, 3) := by decide +kernel
theorem dX8_days_11 : decode cX8_days 11 = .ok (.aload_n 0, 1) := by decide +kernel
theorem dX8_days_12 : decode cX8_days 12 = .ok (.bipush (-92), 2) := by decide +kernel
theorem dX8_days_14 : decode cX8_days 14 = .ok (.invokevirtual 55, 3) := by decide +kernel
theorem dX8_days_17 : decode cX8_days 17 = .ok (.ireturn, 1) := by decide +kernel
theorem dX8_days_18 : decode cX8_days 18 = .ok (.aload_n 0, 1) := by decide +kernel
theorem dX8_days_19 : decode cX8_days 19 = .ok (.getfield 10, 3) := by decide +kernel
theorem dX8_days_22 : decode cX8_days 22 = .ok (.getfield 149, 3) := by decide +kernel
theorem dX8_days_25 : decode cX8_days 25 = .ok (.ifCond .ne 10, 3) := by decide +kernel
theorem dX8_days_28 : decode cX8_days 28 = .ok (.aload_n 0, 1) := by decide +kernel
theorem dX8_days_29 : decode cX8_days 29 = .ok (.bipush (-95), 2) := by decide +kernel
theorem dX8_days_31 : decode cX8_days 31 = .ok (.invokevirtual 55, 3) := by decide +kernel
theorem dX8_days_34 : decode cX8_days 34 = .ok (.ireturn, 1) := by decide +kernel
theorem dX8_days_35 : decode cX8_days 35 = .ok (.iconst 0, 1) := by decide +kernel
theorem dX8_days_36 : decode cX8_days 36 = .ok (.istore_n 2, 1) := by decide +kernel
theorem dX8_days_37 : decode cX8_days 37 = .ok (.iconst 0, 1) := by decide +kernel
theorem dX8_days_38 : decode cX8_days 38 = .ok (.istore_n 3, 1) := by decide +kernel
theorem dX8_days_39 : decode cX8_days 39 = .ok (.iload_n 3, 1) := by decide +kernel
theorem dX8_days_40 : decode cX8_days 40 = .ok (.iload_n 1, 1) := by decide +kernel
theorem dX8_days_41 : decode cX8_days 41 = .ok (.if_icmp .ge 66, 3) := by decide +kernel
theorem dX8_days_44 : decode cX8_days 44 = .ok (.aload_n 0, 1) := by decide +kernel
theorem dX8_days_45 : decode cX8_days 45 = .ok (.getfield 10, 3) := by decide +kernel
theorem dX8_days_48 : decode cX8_days 48 = .ok (.aload_n 0, 1) := by decide +kernel
theorem dX8_days_49 : decode cX8_days 49 = .ok (.getfield 10, 3) := by decide +kernel
theorem dX8_days_52 : decode cX8_days 52 = .ok (.getfield 149, 3) := by decide +kernel
theorem dX8_days_55 : decode cX8_days 55 = .ok (.invokevirtual 283, 3) := by decide +kernel
theorem dX8_days_58 : decode cX8_days 58 = .ok (.istore 4, 2) := by decide +kernel
theorem dX8_days_60 : decode cX8_days 60 = .ok (.aload_n 0, 1) := by decide +kernel
theorem dX8_days_61 : decode cX8_days 61 = .ok (.getfield 10, 3) := by decide +kernel
theorem dX8_days_64 : decode cX8_days 64 = .ok (.iload 4, 2) := by decide +kernel
theorem dX8_days_66 : decode cX8_days 66 = .ok (.invokevirtual 155, 3) := by decide +kernel
theorem dX8_days_69 : decode cX8_days 69 = .ok (.astore 5, 2) := by decide +kernel
theorem dX8_days_71 : decode cX8_days 71 = .ok (.aload 5, 2) := by decide +kernel
theorem dX8_days_73 : decode cX8_days 73 = .ok (.ifnull 20, 3) := by decide +kernel
theorem dX8_days_76 : decode cX8_days 76 = .ok (.aload_n 0, 1) := by decide +kernel
theorem dX8_days_77 : decode cX8_days 77 = .ok (.aload 5, 2) := by decide +kernel
theorem dX8_days_79 : decode cX8_days 79 = .ok (.iload 4, 2) := by decide +kernel
theorem dX8_days_81 : decode cX8_days 81 = .ok (.invokevirtual 187, 3) := by decide +kernel
theorem dX8_days_84 : decode cX8_days 84 = .ok (.ifCond .eq 9, 3) := by decide +kernel
theorem dX8_days_87 : decode cX8_days 87 = .ok (.iinc 2 1, 3) := by decide +kernel
theorem dX8_days_90 : decode cX8_days 90 = .ok (.goto 11, 3) := by decide +kernel
theorem dX8_days_93 : decode cX8_days 93 = .ok (.aload_n 0, 1) := by decide +kernel
theorem dX8_days_94 : decode cX8_days 94 = .ok (.getfield 10, 3) := by decide +kernel
theorem dX8_days_97 : decode cX8_days 97 = .ok (.iconst 1, 1) := by decide +kernel
theorem dX8_days_98 : decode cX8_days 98 = .ok (.invokevirtual 204, 3) := by decide +kernel
theorem dX8_days_101 : decode cX8_days 101 = .ok (.iinc 3 1, 3) := by decide +kernel
theorem dX8_days_104 : decode cX8_days 104 = .ok (.goto (-65), 3) := by decide +kernel
theorem dX8_days_107 : decode cX8_days 107 = .ok (.iload_n 2, 1) := by decide +kernel
theorem dX8_days_108 : decode cX8_days 108 = .ok (.ireturn, 1) := by decide +kernel
theorem dX8_seed_0 : decode cX8_seed 0 = .ok (.aload_n 0, 1) := by decide +kernel
theorem dX8_seed_1 : decode cX8_seed 1 = .ok (.getfield 10, 3) := by decide +kernel
theorem dX8_seed_4 : decode cX8_seed 4 = .ok (.getfield 286, 3) := by decide +kernel
theorem dX8_seed_7 : decode cX8_seed 7 = .ok (.istore_n 2, 1) := by decide +kernel
theorem dX8_seed_8 : decode cX8_seed 8 = .ok (.aload_n 0, 1) := by decide +kernel
theorem dX8_seed_9 : decode cX8_seed 9 = .ok (.getfield 10, 3) := by decide +kernel
theorem dX8_seed_12 : decode cX8_seed 12 = .ok (.iload_n 1, 1) := by decide +kernel
theorem dX8_seed_13 : decode cX8_seed 13 = .ok (.putfield 286, 3) := by decide +kernel
theorem dX8_seed_16 : decode cX8_seed 16 = .ok (.iload_n 2, 1) := by decide +kernel
theorem dX8_seed_17 : decode cX8_seed 17 = .ok (.ireturn, 1) := by decide +kernel
theorem dX8_image_0 : decode cX8_image 0 = .ok (.aload_n 0, 1) := by decide +kernel
theorem dX8_image_1 : decode cX8_image 1 = .ok (.getfield 16, 3) := by decide +kernel
theorem dX8_image_4 : decode cX8_image 4 = .ok (.aload_n 0, 1) := by decide +kernel
theorem dX8_image_5 : decode cX8_image 5 = .ok (.getfield 10, 3) := by decide +kernel
theorem dX8_image_8 : decode cX8_image 8 = .ok (.invokevirtual 289, 3) := by decide +kernel
theorem dX8_image_11 : decode cX8_image 11 = .ok (.aload_n 0, 1) := by decide +kernel
theorem dX8_image_12 : decode cX8_image 12 = .ok (.iconst 1, 1) := by decide +kernel
theorem dX8_image_13 : decode cX8_image 13 = .ok (.putfield 293, 3) := by decide +kernel
theorem dX8_image_16 : decode cX8_image 16 = .ok (.iconst 1, 1) := by decide +kernel
theorem dX8_image_17 : decode cX8_image 17 = .ok (.ireturn, 1) := by decide +kernel
theorem dX8_back_0 : decode cX8_back 0 = .ok (.aload_n 0, 1) := by decide +kernel
theorem dX8_back_1 : decode cX8_back 1 = .ok (.getfield 293, 3) := by decide +kernel
theorem dX8_back_4 : decode cX8_back 4 = .ok (.ifCond .ne 10, 3) := by decide +kernel
theorem dX8_back_7 : decode cX8_back 7 = .ok (.aload_n 0, 1) := by decide +kernel
theorem dX8_back_8 : decode cX8_back 8 = .ok (.bipush (-95), 2) := by decide +kernel
theorem dX8_back_10 : decode cX8_back 10 = .ok (.invokevirtual 55, 3) := by decide +kernel
theorem dX8_back_13 : decode cX8_back 13 = .ok (.ireturn, 1) := by decide +kernel
theorem dX8_back_14 : decode cX8_back 14 = .ok (.aload_n 0, 1) := by decide +kernel
theorem dX8_back_15 : decode cX8_back 15 = .ok (.getfield 10, 3) := by decide +kernel
theorem dX8_back_18 : decode cX8_back 18 = .ok (.aload_n 0, 1) := by decide +kernel
theorem dX8_back_19 : decode cX8_back 19 = .ok (.getfield 16, 3) := by decide +kernel
theorem dX8_back_22 : decode cX8_back 22 = .ok (.invokevirtual 289, 3) := by decide +kernel
theorem dX8_back_25 : decode cX8_back 25 = .ok (.iconst 1, 1) := by decide +kernel
theorem dX8_back_26 : decode cX8_back 26 = .ok (.ireturn, 1) := by decide +kernel
theorem dX8_status_0 : decode cX8_status 0 = .ok (.iload_n 1, 1) := by decide +kernel
theorem dX8_status_1 : decode cX8_status 1 = .ok (.tableswitch 105 0 7 #[47, 55, 63, 71, 79, 87, 92, 100], 47) := by decide +kernel
theorem dX8_status_48 : decode cX8_status 48 = .ok (.aload_n 0, 1) := by decide +kernel
theorem dX8_status_49 : decode cX8_status 49 = .ok (.getfield 10, 3) := by decide +kernel
theorem dX8_status_52 : decode cX8_status 52 = .ok (.getfield 149, 3) := by decide +kernel
theorem dX8_status_55 : decode cX8_status 55 = .ok (.ireturn, 1) := by decide +kernel
theorem dX8_status_56 : decode cX8_status 56 = .ok (.aload_n 0, 1) := by decide +kernel
theorem dX8_status_57 : decode cX8_status 57 = .ok (.getfield 10, 3) := by decide +kernel
theorem dX8_status_60 : decode cX8_status 60 = .ok (.getfield 175, 3) := by decide +kernel
theorem dX8_status_63 : decode cX8_status 63 = .ok (.ireturn, 1) := by decide +kernel
theorem dX8_status_64 : decode cX8_status 64 = .ok (.aload_n 0, 1) := by decide +kernel
theorem dX8_status_65 : decode cX8_status 65 = .ok (.getfield 10, 3) := by decide +kernel
theorem dX8_status_68 : decode cX8_status 68 = .ok (.getfield 181, 3) := by decide +kernel
theorem dX8_status_71 : decode cX8_status 71 = .ok (.ireturn, 1) := by decide +kernel
theorem dX8_status_72 : decode cX8_status 72 = .ok (.aload_n 0, 1) := by decide +kernel
theorem dX8_status_73 : decode cX8_status 73 = .ok (.getfield 10, 3) := by decide +kernel
theorem dX8_status_76 : decode cX8_status 76 = .ok (.getfield 184, 3) := by decide +kernel
theorem dX8_status_79 : decode cX8_status 79 = .ok (.ireturn, 1) := by decide +kernel
theorem dX8_status_80 : decode cX8_status 80 = .ok (.aload_n 0, 1) := by decide +kernel
theorem dX8_status_81 : decode cX8_status 81 = .ok (.getfield 10, 3) := by decide +kernel
theorem dX8_status_84 : decode cX8_status 84 = .ok (.getfield 178, 3) := by decide +kernel
theorem dX8_status_87 : decode cX8_status 87 = .ok (.ireturn, 1) := by decide +kernel
theorem dX8_status_88 : decode cX8_status 88 = .ok (.aload_n 0, 1) := by decide +kernel
theorem dX8_status_89 : decode cX8_status 89 = .ok (.getfield 131, 3) := by decide +kernel
theorem dX8_status_92 : decode cX8_status 92 = .ok (.ireturn, 1) := by decide +kernel
theorem dX8_status_93 : decode cX8_status 93 = .ok (.aload_n 0, 1) := by decide +kernel
theorem dX8_status_94 : decode cX8_status 94 = .ok (.getfield 10, 3) := by decide +kernel
theorem dX8_status_97 : decode cX8_status 97 = .ok (.getfield 286, 3) := by decide +kernel
theorem dX8_status_100 : decode cX8_status 100 = .ok (.ireturn, 1) := by decide +kernel
theorem dX8_status_101 : decode cX8_status 101 = .ok (.aload_n 0, 1) := by decide +kernel
theorem dX8_status_102 : decode cX8_status 102 = .ok (.invokevirtual 296, 3) := by decide +kernel
theorem dX8_status_105 : decode cX8_status 105 = .ok (.ireturn, 1) := by decide +kernel
theorem dX8_status_106 : decode cX8_status 106 = .ok (.aload_n 0, 1) := by decide +kernel
theorem dX8_status_107 : decode cX8_status 107 = .ok (.iload_n 1, 1) := by decide +kernel
theorem dX8_status_108 : decode cX8_status 108 = .ok (.bipush 12, 2) := by decide +kernel
theorem dX8_status_110 : decode cX8_status 110 = .ok (.isub, 1) := by decide +kernel
theorem dX8_status_111 : decode cX8_status 111 = .ok (.invokevirtual 299, 3) := by decide +kernel
theorem dX8_status_114 : decode cX8_status 114 = .ok (.ireturn, 1) := by decide +kernel
theorem dX8_refuse_0 : decode cX8_refuse 0 = .ok (.bipush (-92), 2) := by decide +kernel
theorem dX8_refuse_2 : decode cX8_refuse 2 = .ok (.iload_n 1, 1) := by decide +kernel
theorem dX8_refuse_3 : decode cX8_refuse 3 = .ok (.isub, 1) := by decide +kernel
theorem dX8_refuse_4 : decode cX8_refuse 4 = .ok (.istore_n 2, 1) := by decide +kernel
theorem dX8_refuse_5 : decode cX8_refuse 5 = .ok (.iload_n 2, 1) := by decide +kernel
theorem dX8_refuse_6 : decode cX8_refuse 6 = .ok (.ifCond .lt 22, 3) := by decide +kernel
theorem dX8_refuse_9 : decode cX8_refuse 9 = .ok (.iload_n 2, 1) := by decide +kernel
theorem dX8_refuse_10 : decode cX8_refuse 10 = .ok (.aload_n 0, 1) := by decide +kernel
theorem dX8_refuse_11 : decode cX8_refuse 11 = .ok (.getfield 43, 3) := by decide +kernel
theorem dX8_refuse_14 : decode cX8_refuse 14 = .ok (.arraylength, 1) := by decide +kernel
theorem dX8_refuse_15 : decode cX8_refuse 15 = .ok (.if_icmp .ge 13, 3) := by decide +kernel
theorem dX8_refuse_18 : decode cX8_refuse 18 = .ok (.aload_n 0, 1) := by decide +kernel
theorem dX8_refuse_19 : decode cX8_refuse 19 = .ok (.getfield 43, 3) := by decide +kernel
theorem dX8_refuse_22 : decode cX8_refuse 22 = .ok (.iload_n 2, 1) := by decide +kernel
theorem dX8_refuse_23 : decode cX8_refuse 23 = .ok (.dup2, 1) := by decide +kernel
theorem dX8_refuse_24 : decode cX8_refuse 24 = .ok (.iaload, 1) := by decide +kernel
theorem dX8_refuse_25 : decode cX8_refuse 25 = .ok (.iconst 1, 1) := by decide +kernel
theorem dX8_refuse_26 : decode cX8_refuse 26 = .ok (.iadd, 1) := by decide +kernel
theorem dX8_refuse_27 : decode cX8_refuse 27 = .ok (.iastore, 1) := by decide +kernel
theorem dX8_refuse_28 : decode cX8_refuse 28 = .ok (.iload_n 1, 1) := by decide +kernel
theorem dX8_refuse_29 : decode cX8_refuse 29 = .ok (.ireturn, 1) := by decide +kernel
theorem dX8_refuseLong_0 : decode cX8_refuseLong 0 = .ok (.ldc2_w 302, 3) := by decide +kernel
theorem dX8_refuseLong_3 : decode cX8_refuseLong 3 = .ok (.aload_n 0, 1) := by decide +kernel
theorem dX8_refuseLong_4 : decode cX8_refuseLong 4 = .ok (.iload_n 1, 1) := by decide +kernel
theorem dX8_refuseLong_5 : decode cX8_refuseLong 5 = .ok (.invokevirtual 55, 3) := by decide +kernel
theorem dX8_refuseLong_8 : decode cX8_refuseLong 8 = .ok (.i2l, 1) := by decide +kernel
theorem dX8_refuseLong_9 : decode cX8_refuseLong 9 = .ok (.ladd, 1) := by decide +kernel
theorem dX8_refuseLong_10 : decode cX8_refuseLong 10 = .ok (.lreturn, 1) := by decide +kernel
theorem dX8_refusalsOf_0 : decode cX8_refusalsOf 0 = .ok (.iload_n 1, 1) := by decide +kernel
theorem dX8_refusalsOf_1 : decode cX8_refusalsOf 1 = .ok (.ifCond .lt 21, 3) := by decide +kernel
theorem dX8_refusalsOf_4 : decode cX8_refusalsOf 4 = .ok (.iload_n 1, 1) := by decide +kernel
theorem dX8_refusalsOf_5 : decode cX8_refusalsOf 5 = .ok (.aload_n 0, 1) := by decide +kernel
theorem dX8_refusalsOf_6 : decode cX8_refusalsOf 6 = .ok (.getfield 43, 3) := by decide +kernel
theorem dX8_refusalsOf_9 : decode cX8_refusalsOf 9 = .ok (.arraylength, 1) := by decide +kernel
theorem dX8_refusalsOf_10 : decode cX8_refusalsOf 10 = .ok (.if_icmp .ge 12, 3) := by decide +kernel
theorem dX8_refusalsOf_13 : decode cX8_refusalsOf 13 = .ok (.aload_n 0, 1) := by decide +kernel
theorem dX8_refusalsOf_14 : decode cX8_refusalsOf 14 = .ok (.getfield 43, 3) := by decide +kernel
theorem dX8_refusalsOf_17 : decode cX8_refusalsOf 17 = .ok (.iload_n 1, 1) := by decide +kernel
theorem dX8_refusalsOf_18 : decode cX8_refusalsOf 18 = .ok (.iaload, 1) := by decide +kernel
theorem dX8_refusalsOf_19 : decode cX8_refusalsOf 19 = .ok (.goto 4, 3) := by decide +kernel
theorem dX8_refusalsOf_22 : decode cX8_refusalsOf 22 = .ok (.iconst (-1), 1) := by decide +kernel
theorem dX8_refusalsOf_23 : decode cX8_refusalsOf 23 = .ok (.ireturn, 1) := by decide +kernel
theorem dX8_shelfAt_0 : decode cX8_shelfAt 0 = .ok (.iload_n 1, 1) := by decide +kernel
theorem dX8_shelfAt_1 : decode cX8_shelfAt 1 = .ok (.ifCond .lt 21, 3) := by decide +kernel
theorem dX8_shelfAt_4 : decode cX8_shelfAt 4 = .ok (.iload_n 1, 1) := by decide +kernel
theorem dX8_shelfAt_5 : decode cX8_shelfAt 5 = .ok (.aload_n 0, 1) := by decide +kernel
theorem dX8_shelfAt_6 : decode cX8_shelfAt 6 = .ok (.getfield 25, 3) := by decide +kernel
theorem dX8_shelfAt_9 : decode cX8_shelfAt 9 = .ok (.arraylength, 1) := by decide +kernel
theorem dX8_shelfAt_10 : decode cX8_shelfAt 10 = .ok (.if_icmp .ge 12, 3) := by decide +kernel
theorem dX8_shelfAt_13 : decode cX8_shelfAt 13 = .ok (.aload_n 0, 1) := by decide +kernel
theorem dX8_shelfAt_14 : decode cX8_shelfAt 14 = .ok (.getfield 25, 3) := by decide +kernel
theorem dX8_shelfAt_17 : decode cX8_shelfAt 17 = .ok (.iload_n 1, 1) := by decide +kernel
theorem dX8_shelfAt_18 : decode cX8_shelfAt 18 = .ok (.aaload, 1) := by decide +kernel
theorem dX8_shelfAt_19 : decode cX8_shelfAt 19 = .ok (.goto 4, 3) := by decide +kernel
theorem dX8_shelfAt_22 : decode cX8_shelfAt 22 = .ok (.aconst_null, 1) := by decide +kernel
theorem dX8_shelfAt_23 : decode cX8_shelfAt 23 = .ok (.areturn, 1) := by decide +kernel
theorem dX8_shelvesInUse_0 : decode cX8_shelvesInUse 0 = .ok (.iconst 0, 1) := by decide +kernel
theorem dX8_shelvesInUse_1 : decode cX8_shelvesInUse 1 = .ok (.istore_n 1, 1) := by decide +kernel
theorem dX8_shelvesInUse_2 : decode cX8_shelvesInUse 2 = .ok (.iconst 0, 1) := by decide +kernel
theorem dX8_shelvesInUse_3 : decode cX8_shelvesInUse 3 = .ok (.istore_n 2, 1) := by decide +kernel
theorem dX8_shelvesInUse_4 : decode cX8_shelvesInUse 4 = .ok (.iload_n 2, 1) := by decide +kernel
theorem dX8_shelvesInUse_5 : decode cX8_shelvesInUse 5 = .ok (.aload_n 0, 1) := by decide +kernel
theorem dX8_shelvesInUse_6 : decode cX8_shelvesInUse 6 = .ok (.getfield 25, 3) := by decide +kernel
theorem dX8_shelvesInUse_9 : decode cX8_shelvesInUse 9 = .ok (.arraylength, 1) := by decide +kernel
theorem dX8_shelvesInUse_10 : decode cX8_shelvesInUse 10 = .ok (.if_icmp .ge 26, 3) := by decide +kernel
theorem dX8_shelvesInUse_13 : decode cX8_shelvesInUse 13 = .ok (.iload_n 1, 1) := by decide +kernel
theorem dX8_shelvesInUse_14 : decode cX8_shelvesInUse 14 = .ok (.aload_n 0, 1) := by decide +kernel
theorem dX8_shelvesInUse_15 : decode cX8_shelvesInUse 15 = .ok (.iload_n 2, 1) := by decide +kernel
theorem dX8_shelvesInUse_16 : decode cX8_shelvesInUse 16 = .ok (.invokevirtual 304, 3) := by decide +kernel
theorem dX8_shelvesInUse_19 : decode cX8_shelvesInUse 19 = .ok (.iconst (-1), 1) := by decide +kernel
theorem dX8_shelvesInUse_20 : decode cX8_shelvesInUse 20 = .ok (.if_icmp .ne 7, 3) := by decide +kernel
theorem dX8_shelvesInUse_23 : decode cX8_shelvesInUse 23 = .ok (.iconst 0, 1) := by decide +kernel
theorem dX8_shelvesInUse_24 : decode cX8_shelvesInUse 24 = .ok (.goto 4, 3) := by decide +kernel
theorem dX8_shelvesInUse_27 : decode cX8_shelvesInUse 27 = .ok (.iconst 1, 1) := by decide +kernel
theorem dX8_shelvesInUse_28 : decode cX8_shelvesInUse 28 = .ok (.iadd, 1) := by decide +kernel
theorem dX8_shelvesInUse_29 : decode cX8_shelvesInUse 29 = .ok (.istore_n 1, 1) := by decide +kernel
theorem dX8_shelvesInUse_30 : decode cX8_shelvesInUse 30 = .ok (.iinc 2 1, 3) := by decide +kernel
theorem dX8_shelvesInUse_33 : decode cX8_shelvesInUse 33 = .ok (.goto (-29), 3) := by decide +kernel
theorem dX8_shelvesInUse_36 : decode cX8_shelvesInUse 36 = .ok (.iload_n 1, 1) := by decide +kernel
theorem dX8_shelvesInUse_37 : decode cX8_shelvesInUse 37 = .ok (.ireturn, 1) := by decide +kernel
theorem dX8_workInTruth_0 : decode cX8_workInTruth 0 = .ok (.aload_n 0, 1) := by decide +kernel
theorem dX8_workInTruth_1 : decode cX8_workInTruth 1 = .ok (.getfield 10, 3) := by decide +kernel
theorem dX8_workInTruth_4 : decode cX8_workInTruth 4 = .ok (.getfield 175, 3) := by decide +kernel
theorem dX8_workInTruth_7 : decode cX8_workInTruth 7 = .ok (.bipush 50, 2) := by decide +kernel
theorem dX8_workInTruth_9 : decode cX8_workInTruth 9 = .ok (.if_icmp .lt 19, 3) := by decide +kernel
theorem dX8_workInTruth_12 : decode cX8_workInTruth 12 = .ok (.aload_n 0, 1) := by decide +kernel
theorem dX8_workInTruth_13 : decode cX8_workInTruth 13 = .ok (.getfield 32, 3) := by decide +kernel
theorem dX8_workInTruth_16 : decode cX8_workInTruth 16 = .ok (.aload_n 0, 1) := by decide +kernel
theorem dX8_workInTruth_17 : decode cX8_workInTruth 17 = .ok (.getfield 10, 3) := by decide +kernel
theorem dX8_workInTruth_20 : decode cX8_workInTruth 20 = .ok (.getfield 181, 3) := by decide +kernel
theorem dX8_workInTruth_23 : decode cX8_workInTruth 23 = .ok (.invokevirtual 307, 3) := by decide +kernel
theorem dX8_workInTruth_26 : decode cX8_workInTruth 26 = .ok (.iconst 0, 1) := by decide +kernel
theorem dX8_workInTruth_27 : decode cX8_workInTruth 27 = .ok (.ireturn, 1) := by decide +kernel
theorem dX8_workInTruth_28 : decode cX8_workInTruth 28 = .ok (.aload_n 0, 1) := by decide +kernel
theorem dX8_workInTruth_29 : decode cX8_workInTruth 29 = .ok (.getfield 32, 3) := by decide +kernel
theorem dX8_workInTruth_32 : decode cX8_workInTruth 32 = .ok (.aload_n 1, 1) := by decide +kernel
theorem dX8_workInTruth_33 : decode cX8_workInTruth 33 = .ok (.aload_n 0, 1) := by decide +kernel
theorem dX8_workInTruth_34 : decode cX8_workInTruth 34 = .ok (.getfield 10, 3) := by decide +kernel
theorem dX8_workInTruth_37 : decode cX8_workInTruth 37 = .ok (.getfield 181, 3) := by decide +kernel
theorem dX8_workInTruth_40 : decode cX8_workInTruth 40 = .ok (.invokevirtual 216, 3) := by decide +kernel
theorem dX8_workInTruth_43 : decode cX8_workInTruth 43 = .ok (.aload_n 0, 1) := by decide +kernel
theorem dX8_workInTruth_44 : decode cX8_workInTruth 44 = .ok (.getfield 32, 3) := by decide +kernel
theorem dX8_workInTruth_47 : decode cX8_workInTruth 47 = .ok (.invokevirtual 220, 3) := by decide +kernel
theorem dX8_workInTruth_50 : decode cX8_workInTruth 50 = .ok (.ifCond .ne 22, 3) := by decide +kernel
theorem dX8_workInTruth_53 : decode cX8_workInTruth 53 = .ok (.aload_n 0, 1) := by decide +kernel
theorem dX8_workInTruth_54 : decode cX8_workInTruth 54 = .ok (.getfield 10, 3) := by decide +kernel
theorem dX8_workInTruth_57 : decode cX8_workInTruth 57 = .ok (.aload_n 0, 1) := by decide +kernel
theorem dX8_workInTruth_58 : decode cX8_workInTruth 58 = .ok (.getfield 32, 3) := by decide +kernel
theorem dX8_workInTruth_61 : decode cX8_workInTruth 61 = .ok (.iload_n 2, 1) := by decide +kernel
theorem dX8_workInTruth_62 : decode cX8_workInTruth 62 = .ok (.invokevirtual 310, 3) := by decide +kernel
theorem dX8_workInTruth_65 : decode cX8_workInTruth 65 = .ok (.ifCond .eq 7, 3) := by decide +kernel
theorem dX8_workInTruth_68 : decode cX8_workInTruth 68 = .ok (.iconst 1, 1) := by decide +kernel
theorem dX8_workInTruth_69 : decode cX8_workInTruth 69 = .ok (.goto 4, 3) := by decide +kernel
theorem dX8_workInTruth_72 : decode cX8_workInTruth 72 = .ok (.iconst 0, 1) := by decide +kernel
theorem dX8_workInTruth_73 : decode cX8_workInTruth 73 = .ok (.ireturn, 1) := by decide +kernel
theorem dX8_keepWhy_0 : decode cX8_keepWhy 0 = .ok (.aload_n 0, 1) := by decide +kernel
theorem dX8_keepWhy_1 : decode cX8_keepWhy 1 = .ok (.getfield 39, 3) := by decide +kernel
theorem dX8_keepWhy_4 : decode cX8_keepWhy 4 = .ok (.bipush 11, 2) := by decide +kernel
theorem dX8_keepWhy_6 : decode cX8_keepWhy 6 = .ok (.iload_n 1, 1) := by decide +kernel
theorem dX8_keepWhy_7 : decode cX8_keepWhy 7 = .ok (.aload_n 0, 1) := by decide +kernel
theorem dX8_keepWhy_8 : decode cX8_keepWhy 8 = .ok (.getfield 32, 3) := by decide +kernel
theorem dX8_keepWhy_11 : decode cX8_keepWhy 11 = .ok (.getfield 226, 3) := by decide +kernel
theorem dX8_keepWhy_14 : decode cX8_keepWhy 14 = .ok (.getfield 227, 3) := by decide +kernel
theorem dX8_keepWhy_17 : decode cX8_keepWhy 17 = .ok (.invokevirtual 200, 3) := by decide +kernel
theorem dX8_keepWhy_20 : decode cX8_keepWhy 20 = .ok (.iconst 0, 1) := by decide +kernel
theorem dX8_keepWhy_21 : decode cX8_keepWhy 21 = .ok (.istore_n 2, 1) := by decide +kernel
theorem dX8_keepWhy_22 : decode cX8_keepWhy 22 = .ok (.iload_n 2, 1) := by decide +kernel
theorem dX8_keepWhy_23 : decode cX8_keepWhy 23 = .ok (.aload_n 0, 1) := by decide +kernel
theorem dX8_keepWhy_24 : decode cX8_keepWhy 24 = .ok (.getfield 32, 3) := by decide +kernel
theorem dX8_keepWhy_27 : decode cX8_keepWhy 27 = .ok (.getfield 314, 3) := by decide +kernel
theorem dX8_keepWhy_30 : decode cX8_keepWhy 30 = .ok (.if_icmp .ge 34, 3) := by decide +kernel
theorem dX8_keepWhy_33 : decode cX8_keepWhy 33 = .ok (.aload_n 0, 1) := by decide +kernel
theorem dX8_keepWhy_34 : decode cX8_keepWhy 34 = .ok (.getfield 39, 3) := by decide +kernel
theorem dX8_keepWhy_37 : decode cX8_keepWhy 37 = .ok (.bipush 10, 2) := by decide +kernel
theorem dX8_keepWhy_39 : decode cX8_keepWhy 39 = .ok (.aload_n 0, 1) := by decide +kernel
theorem dX8_keepWhy_40 : decode cX8_keepWhy 40 = .ok (.getfield 32, 3) := by decide +kernel
theorem dX8_keepWhy_43 : decode cX8_keepWhy 43 = .ok (.iload_n 2, 1) := by decide +kernel
theorem dX8_keepWhy_44 : decode cX8_keepWhy 44 = .ok (.invokevirtual 317, 3) := by decide +kernel
theorem dX8_keepWhy_47 : decode cX8_keepWhy 47 = .ok (.aload_n 0, 1) := by decide +kernel
theorem dX8_keepWhy_48 : decode cX8_keepWhy 48 = .ok (.getfield 32, 3) := by decide +kernel
theorem dX8_keepWhy_51 : decode cX8_keepWhy 51 = .ok (.iload_n 2, 1) := by decide +kernel
theorem dX8_keepWhy_52 : decode cX8_keepWhy 52 = .ok (.invokevirtual 320, 3) := by decide +kernel
theorem dX8_keepWhy_55 : decode cX8_keepWhy 55 = .ok (.invokevirtual 200, 3) := by decide +kernel
theorem dX8_keepWhy_58 : decode cX8_keepWhy 58 = .ok (.iinc 2 1, 3) := by decide +kernel
theorem dX8_keepWhy_61 : decode cX8_keepWhy 61 = .ok (.goto (-39), 3) := by decide +kernel
theorem dX8_keepWhy_64 : decode cX8_keepWhy 64 = .ok (.aload_n 0, 1) := by decide +kernel
theorem dX8_keepWhy_65 : decode cX8_keepWhy 65 = .ok (.getfield 39, 3) := by decide +kernel
theorem dX8_keepWhy_68 : decode cX8_keepWhy 68 = .ok (.aload_n 0, 1) := by decide +kernel
theorem dX8_keepWhy_69 : decode cX8_keepWhy 69 = .ok (.getfield 32, 3) := by decide +kernel
theorem dX8_keepWhy_72 : decode cX8_keepWhy 72 = .ok (.getfield 232, 3) := by decide +kernel
theorem dX8_keepWhy_75 : decode cX8_keepWhy 75 = .ok (.aload_n 0, 1) := by decide +kernel
theorem dX8_keepWhy_76 : decode cX8_keepWhy 76 = .ok (.getfield 32, 3) := by decide +kernel
theorem dX8_keepWhy_79 : decode cX8_keepWhy 79 = .ok (.getfield 323, 3) := by decide +kernel
theorem dX8_keepWhy_82 : decode cX8_keepWhy 82 = .ok (.aload_n 0, 1) := by decide +kernel
theorem dX8_keepWhy_83 : decode cX8_keepWhy 83 = .ok (.getfield 32, 3) := by decide +kernel
theorem dX8_keepWhy_86 : decode cX8_keepWhy 86 = .ok (.getfield 326, 3) := by decide +kernel
theorem dX8_keepWhy_89 : decode cX8_keepWhy 89 = .ok (.invokevirtual 200, 3) := by decide +kernel
theorem dX8_keepWhy_92 : decode cX8_keepWhy 92 = .ok (.return_, 1) := by decide +kernel
theorem dX8_countBehind_0 : decode cX8_countBehind 0 = .ok (.iload_n 3, 1) := by decide +kernel
theorem dX8_countBehind_1 : decode cX8_countBehind 1 = .ok (.istore 4, 2) := by decide +kernel
theorem dX8_countBehind_3 : decode cX8_countBehind 3 = .ok (.iload_n 1, 1) := by decide +kernel
theorem dX8_countBehind_4 : decode cX8_countBehind 4 = .ok (.istore 5, 2) := by decide +kernel
theorem dX8_countBehind_6 : decode cX8_countBehind 6 = .ok (.iload 5, 2) := by decide +kernel
theorem dX8_countBehind_8 : decode cX8_countBehind 8 = .ok (.iload_n 2, 1) := by decide +kernel
theorem dX8_countBehind_9 : decode cX8_countBehind 9 = .ok (.if_icmp .gt 59, 3) := by decide +kernel
theorem dX8_countBehind_12 : decode cX8_countBehind 12 = .ok (.aload_n 0, 1) := by decide +kernel
theorem dX8_countBehind_13 : decode cX8_countBehind 13 = .ok (.getfield 10, 3) := by decide +kernel
theorem dX8_countBehind_16 : decode cX8_countBehind 16 = .ok (.iload 5, 2) := by decide +kernel
theorem dX8_countBehind_18 : decode cX8_countBehind 18 = .ok (.invokevirtual 155, 3) := by decide +kernel
theorem dX8_countBehind_21 : decode cX8_countBehind 21 = .ok (.astore 6, 2) := by decide +kernel
theorem dX8_countBehind_23 : decode cX8_countBehind 23 = .ok (.aload 6, 2) := by decide +kernel
theorem dX8_countBehind_25 : decode cX8_countBehind 25 = .ok (.ifnonnull 5, 3) := by decide +kernel
theorem dX8_countBehind_28 : decode cX8_countBehind 28 = .ok (.iconst (-1), 1) := by decide +kernel
theorem dX8_countBehind_29 : decode cX8_countBehind 29 = .ok (.ireturn, 1) := by decide +kernel
theorem dX8_countBehind_30 : decode cX8_countBehind 30 = .ok (.aload_n 0, 1) := by decide +kernel
theorem dX8_countBehind_31 : decode cX8_countBehind 31 = .ok (.getfield 32, 3) := by decide +kernel
theorem dX8_countBehind_34 : decode cX8_countBehind 34 = .ok (.aload 6, 2) := by decide +kernel
theorem dX8_countBehind_36 : decode cX8_countBehind 36 = .ok (.iload 4, 2) := by decide +kernel
theorem dX8_countBehind_38 : decode cX8_countBehind 38 = .ok (.invokevirtual 216, 3) := by decide +kernel
theorem dX8_countBehind_41 : decode cX8_countBehind 41 = .ok (.aload_n 0, 1) := by decide +kernel
theorem dX8_countBehind_42 : decode cX8_countBehind 42 = .ok (.getfield 32, 3) := by decide +kernel
theorem dX8_countBehind_45 : decode cX8_countBehind 45 = .ok (.invokevirtual 220, 3) := by decide +kernel
theorem dX8_countBehind_48 : decode cX8_countBehind 48 = .ok (.ifCond .eq 5, 3) := by decide +kernel
theorem dX8_countBehind_51 : decode cX8_countBehind 51 = .ok (.iconst (-1), 1) := by decide +kernel
theorem dX8_countBehind_52 : decode cX8_countBehind 52 = .ok (.ireturn, 1) := by decide +kernel
theorem dX8_countBehind_53 : decode cX8_countBehind 53 = .ok (.aload_n 0, 1) := by decide +kernel
theorem dX8_countBehind_54 : decode cX8_countBehind 54 = .ok (.getfield 32, 3) := by decide +kernel
theorem dX8_countBehind_57 : decode cX8_countBehind 57 = .ok (.getfield 223, 3) := by decide +kernel
theorem dX8_countBehind_60 : decode cX8_countBehind 60 = .ok (.istore 4, 2) := by decide +kernel
theorem dX8_countBehind_62 : decode cX8_countBehind 62 = .ok (.iinc 5 1, 3) := by decide +kernel
theorem dX8_countBehind_65 : decode cX8_countBehind 65 = .ok (.goto (-59), 3) := by decide +kernel
theorem dX8_countBehind_68 : decode cX8_countBehind 68 = .ok (.iload 4, 2) := by decide +kernel
theorem dX8_countBehind_70 : decode cX8_countBehind 70 = .ok (.ireturn, 1) := by decide +kernel
