theorem dX6_init_0 : decode cX6_init 0 = .ok (.aload_n 0, 1) := by decide +kernel
theorem dX6_init_1 : decode cX6_init 1 = .ok (.invokespecial 1, 3) := by decide +kernel
theorem dX6_init_4 : decode cX6_init 4 = .ok (.aload_n 0, 1) := by decide +kernel
theorem dX6_init_5 : decode cX6_init 5 = .ok (.iload_n 1, 1) := by decide +kernel
theorem dX6_init_6 : decode cX6_init 6 = .ok (.iconst 1, 1) := by decide +kernel
theorem dX6_init_7 : decode cX6_init 7 = .ok (.bipush 40, 2) := by decide +kernel
theorem dX6_init_9 : decode cX6_init 9 = .ok (.invokestatic 9, 3) := by decide +kernel
theorem dX6_init_12 : decode cX6_init 12 = .ok (.anewarray 13, 3) := by decide +kernel
theorem dX6_init_15 : decode cX6_init 15 = .ok (.putfield 15, 3) := by decide +kernel
theorem dX6_init_18 : decode cX6_init 18 = .ok (.iconst 0, 1) := by decide +kernel
theorem dX6_init_19 : decode cX6_init 19 = .ok (.istore 6, 2) := by decide +kernel
theorem dX6_init_21 : decode cX6_init 21 = .ok (.iload 6, 2) := by decide +kernel
theorem dX6_init_23 : decode cX6_init 23 = .ok (.aload_n 0, 1) := by decide +kernel
theorem dX6_init_24 : decode cX6_init 24 = .ok (.getfield 15, 3) := by decide +kernel
theorem dX6_init_27 : decode cX6_init 27 = .ok (.arraylength, 1) := by decide +kernel
theorem dX6_init_28 : decode cX6_init 28 = .ok (.if_icmp .ge 23, 3) := by decide +kernel
theorem dX6_init_31 : decode cX6_init 31 = .ok (.aload_n 0, 1) := by decide +kernel
theorem dX6_init_32 : decode cX6_init 32 = .ok (.getfield 15, 3) := by decide +kernel
theorem dX6_init_35 : decode cX6_init 35 = .ok (.iload 6, 2) := by decide +kernel
theorem dX6_init_37 : decode cX6_init 37 = .ok (.new 13, 3) := by decide +kernel
theorem dX6_init_40 : decode cX6_init 40 = .ok (.dup, 1) := by decide +kernel
theorem dX6_init_41 : decode cX6_init 41 = .ok (.invokespecial 19, 3) := by decide +kernel
theorem dX6_init_44 : decode cX6_init 44 = .ok (.aastore, 1) := by decide +kernel
theorem dX6_init_45 : decode cX6_init 45 = .ok (.iinc 6 1, 3) := by decide +kernel
theorem dX6_init_48 : decode cX6_init 48 = .ok (.goto (-27), 3) := by decide +kernel
theorem dX6_init_51 : decode cX6_init 51 = .ok (.aload_n 0, 1) := by decide +kernel
theorem dX6_init_52 : decode cX6_init 52 = .ok (.iload_n 2, 1) := by decide +kernel
theorem dX6_init_53 : decode cX6_init 53 = .ok (.iconst 0, 1) := by decide +kernel
theorem dX6_init_54 : decode cX6_init 54 = .ok (.bipush 16, 2) := by decide +kernel
theorem dX6_init_56 : decode cX6_init 56 = .ok (.invokestatic 9, 3) := by decide +kernel
theorem dX6_init_59 : decode cX6_init 59 = .ok (.newarray .int, 2) := by decide +kernel
theorem dX6_init_61 : decode cX6_init 61 = .ok (.putfield 20, 3) := by decide +kernel
theorem dX6_init_64 : decode cX6_init 64 = .ok (.aload_n 0, 1) := by decide +kernel
theorem dX6_init_65 : decode cX6_init 65 = .ok (.getfield 20, 3) := by decide +kernel
theorem dX6_init_68 : decode cX6_init 68 = .ok (.iconst (-1), 1) := by decide +kernel
theorem dX6_init_69 : decode cX6_init 69 = .ok (.invokestatic 24, 3) := by decide +kernel
theorem dX6_init_72 : decode cX6_init 72 = .ok (.aload_n 0, 1) := by decide +kernel
theorem dX6_init_73 : decode cX6_init 73 = .ok (.new 30, 3) := by decide +kernel
theorem dX6_init_76 : decode cX6_init 76 = .ok (.dup, 1) := by decide +kernel
theorem dX6_init_77 : decode cX6_init 77 = .ok (.iload_n 3, 1) := by decide +kernel
theorem dX6_init_78 : decode cX6_init 78 = .ok (.iconst 0, 1) := by decide +kernel
theorem dX6_init_79 : decode cX6_init 79 = .ok (.bipush 120, 2) := by decide +kernel
theorem dX6_init_81 : decode cX6_init 81 = .ok (.invokestatic 9, 3) := by decide +kernel
theorem dX6_init_84 : decode cX6_init 84 = .ok (.invokespecial 32, 3) := by decide +kernel
theorem dX6_init_87 : decode cX6_init 87 = .ok (.putfield 35, 3) := by decide +kernel
theorem dX6_init_90 : decode cX6_init 90 = .ok (.aload_n 0, 1) := by decide +kernel
theorem dX6_init_91 : decode cX6_init 91 = .ok (.new 39, 3) := by decide +kernel
theorem dX6_init_94 : decode cX6_init 94 = .ok (.dup, 1) := by decide +kernel
theorem dX6_init_95 : decode cX6_init 95 = .ok (.iload 4, 2) := by decide +kernel
theorem dX6_init_97 : decode cX6_init 97 = .ok (.iconst 0, 1) := by decide +kernel
theorem dX6_init_98 : decode cX6_init 98 = .ok (.bipush 100, 2) := by decide +kernel
theorem dX6_init_100 : decode cX6_init 100 = .ok (.invokestatic 9, 3) := by decide +kernel
theorem dX6_init_103 : decode cX6_init 103 = .ok (.invokespecial 41, 3) := by decide +kernel
theorem dX6_init_106 : decode cX6_init 106 = .ok (.putfield 42, 3) := by decide +kernel
theorem dX6_init_109 : decode cX6_init 109 = .ok (.aload_n 0, 1) := by decide +kernel
theorem dX6_init_110 : decode cX6_init 110 = .ok (.new 46, 3) := by decide +kernel
theorem dX6_init_113 : decode cX6_init 113 = .ok (.dup, 1) := by decide +kernel
theorem dX6_init_114 : decode cX6_init 114 = .ok (.invokespecial 48, 3) := by decide +kernel
theorem dX6_init_117 : decode cX6_init 117 = .ok (.putfield 49, 3) := by decide +kernel
theorem dX6_init_120 : decode cX6_init 120 = .ok (.aload_n 0, 1) := by decide +kernel
theorem dX6_init_121 : decode cX6_init 121 = .ok (.iload 5, 2) := by decide +kernel
theorem dX6_init_123 : decode cX6_init 123 = .ok (.iconst 1, 1) := by decide +kernel
theorem dX6_init_124 : decode cX6_init 124 = .ok (.sipush 20000, 3) := by decide +kernel
theorem dX6_init_127 : decode cX6_init 127 = .ok (.invokestatic 9, 3) := by decide +kernel
theorem dX6_init_130 : decode cX6_init 130 = .ok (.putfield 53, 3) := by decide +kernel
theorem dX6_init_133 : decode cX6_init 133 = .ok (.return_, 1) := by decide +kernel
theorem dX6_addTask_0 : decode cX6_addTask 0 = .ok (.iconst 0, 1) := by decide +kernel
theorem dX6_addTask_1 : decode cX6_addTask 1 = .ok (.iload_n 2, 1) := by decide +kernel
theorem dX6_addTask_2 : decode cX6_addTask 2 = .ok (.if_icmp .ge 25, 3) := by decide +kernel
theorem dX6_addTask_5 : decode cX6_addTask 5 = .ok (.iload_n 2, 1) := by decide +kernel
theorem dX6_addTask_6 : decode cX6_addTask 6 = .ok (.iload_n 3, 1) := by decide +kernel
theorem dX6_addTask_7 : decode cX6_addTask 7 = .ok (.if_icmp .gt 20, 3) := by decide +kernel
theorem dX6_addTask_10 : decode cX6_addTask 10 = .ok (.iload_n 3, 1) := by decide +kernel
theorem dX6_addTask_11 : decode cX6_addTask 11 = .ok (.iload_n 1, 1) := by decide +kernel
theorem dX6_addTask_12 : decode cX6_addTask 12 = .ok (.if_icmp .gt 15, 3) := by decide +kernel
theorem dX6_addTask_15 : decode cX6_addTask 15 = .ok (.iload_n 1, 1) := by decide +kernel
theorem dX6_addTask_16 : decode cX6_addTask 16 = .ok (.aload_n 0, 1) := by decide +kernel
theorem dX6_addTask_17 : decode cX6_addTask 17 = .ok (.getfield 53, 3) := by decide +kernel
theorem dX6_addTask_20 : decode cX6_addTask 20 = .ok (.if_icmp .gt 7, 3) := by decide +kernel
theorem dX6_addTask_23 : decode cX6_addTask 23 = .ok (.iconst 1, 1) := by decide +kernel
theorem dX6_addTask_24 : decode cX6_addTask 24 = .ok (.goto 4, 3) := by decide +kernel
theorem dX6_addTask_27 : decode cX6_addTask 27 = .ok (.iconst 0, 1) := by decide +kernel
theorem dX6_addTask_28 : decode cX6_addTask 28 = .ok (.istore 4, 2) := by decide +kernel
theorem dX6_addTask_30 : decode cX6_addTask 30 = .ok (.iload 4, 2) := by decide +kernel
theorem dX6_addTask_32 : decode cX6_addTask 32 = .ok (.ifCond .ne 6, 3) := by decide +kernel
theorem dX6_addTask_35 : decode cX6_addTask 35 = .ok (.bipush (-2), 2) := by decide +kernel
theorem dX6_addTask_37 : decode cX6_addTask 37 = .ok (.ireturn, 1) := by decide +kernel
theorem dX6_addTask_38 : decode cX6_addTask 38 = .ok (.iconst 0, 1) := by decide +kernel
theorem dX6_addTask_39 : decode cX6_addTask 39 = .ok (.istore 5, 2) := by decide +kernel
theorem dX6_addTask_41 : decode cX6_addTask 41 = .ok (.iload 5, 2) := by decide +kernel
theorem dX6_addTask_43 : decode cX6_addTask 43 = .ok (.aload_n 0, 1) := by decide +kernel
theorem dX6_addTask_44 : decode cX6_addTask 44 = .ok (.getfield 15, 3) := by decide +kernel
theorem dX6_addTask_47 : decode cX6_addTask 47 = .ok (.arraylength, 1) := by decide +kernel
theorem dX6_addTask_48 : decode cX6_addTask 48 = .ok (.if_icmp .ge 42, 3) := by decide +kernel
theorem dX6_addTask_51 : decode cX6_addTask 51 = .ok (.aload_n 0, 1) := by decide +kernel
theorem dX6_addTask_52 : decode cX6_addTask 52 = .ok (.getfield 15, 3) := by decide +kernel
theorem dX6_addTask_55 : decode cX6_addTask 55 = .ok (.iload 5, 2) := by decide +kernel
theorem dX6_addTask_57 : decode cX6_addTask 57 = .ok (.aaload, 1) := by decide +kernel
theorem dX6_addTask_58 : decode cX6_addTask 58 = .ok (.getfield 57, 3) := by decide +kernel
theorem dX6_addTask_61 : decode cX6_addTask 61 = .ok (.ifCond .ne 23, 3) := by decide +kernel
theorem dX6_addTask_64 : decode cX6_addTask 64 = .ok (.aload_n 0, 1) := by decide +kernel
theorem dX6_addTask_65 : decode cX6_addTask 65 = .ok (.getfield 15, 3) := by decide +kernel
theorem dX6_addTask_68 : decode cX6_addTask 68 = .ok (.iload 5, 2) := by decide +kernel
theorem dX6_addTask_70 : decode cX6_addTask 70 = .ok (.aaload, 1) := by decide +kernel
theorem dX6_addTask_71 : decode cX6_addTask 71 = .ok (.iload_n 1, 1) := by decide +kernel
theorem dX6_addTask_72 : decode cX6_addTask 72 = .ok (.iload_n 2, 1) := by decide +kernel
theorem dX6_addTask_73 : decode cX6_addTask 73 = .ok (.iload_n 3, 1) := by decide +kernel
theorem dX6_addTask_74 : decode cX6_addTask 74 = .ok (.aload_n 0, 1) := by decide +kernel
theorem dX6_addTask_75 : decode cX6_addTask 75 = .ok (.getfield 61, 3) := by decide +kernel
theorem dX6_addTask_78 : decode cX6_addTask 78 = .ok (.invokevirtual 64, 3) := by decide +kernel
theorem dX6_addTask_81 : decode cX6_addTask 81 = .ok (.iload 5, 2) := by decide +kernel
theorem dX6_addTask_83 : decode cX6_addTask 83 = .ok (.ireturn, 1) := by decide +kernel
theorem dX6_addTask_84 : decode cX6_addTask 84 = .ok (.iinc 5 1, 3) := by decide +kernel
theorem dX6_addTask_87 : decode cX6_addTask 87 = .ok (.goto (-46), 3) := by decide +kernel
theorem dX6_addTask_90 : decode cX6_addTask 90 = .ok (.iconst (-1), 1) := by decide +kernel
theorem dX6_addTask_91 : decode cX6_addTask 91 = .ok (.ireturn, 1) := by decide +kernel
theorem dX6_addSection_0 : decode cX6_addSection 0 = .ok (.aload_n 0, 1) := by decide +kernel
theorem dX6_addSection_1 : decode cX6_addSection 1 = .ok (.iload_n 1, 1) := by decide +kernel
theorem dX6_addSection_2 : decode cX6_addSection 2 = .ok (.invokevirtual 68, 3) := by decide +kernel
theorem dX6_addSection_5 : decode cX6_addSection 5 = .ok (.ifCond .eq 26, 3) := by decide +kernel
theorem dX6_addSection_8 : decode cX6_addSection 8 = .ok (.aload_n 0, 1) := by decide +kernel
theorem dX6_addSection_9 : decode cX6_addSection 9 = .ok (.iload_n 3, 1) := by decide +kernel
theorem dX6_addSection_10 : decode cX6_addSection 10 = .ok (.invokevirtual 72, 3) := by decide +kernel
theorem dX6_addSection_13 : decode cX6_addSection 13 = .ok (.ifCond .eq 18, 3) := by decide +kernel
theorem dX6_addSection_16 : decode cX6_addSection 16 = .ok (.aload_n 0, 1) := by decide +kernel
theorem dX6_addSection_17 : decode cX6_addSection 17 = .ok (.getfield 15, 3) := by decide +kernel
theorem dX6_addSection_20 : decode cX6_addSection 20 = .ok (.iload_n 1, 1) := by decide +kernel
theorem dX6_addSection_21 : decode cX6_addSection 21 = .ok (.aaload, 1) := by decide +kernel
theorem dX6_addSection_22 : decode cX6_addSection 22 = .ok (.getfield 75, 3) := by decide +kernel
theorem dX6_addSection_25 : decode cX6_addSection 25 = .ok (.getfield 79, 3) := by decide +kernel
theorem dX6_addSection_28 : decode cX6_addSection 28 = .ok (.ifCond .eq 5, 3) := by decide +kernel
theorem dX6_addSection_31 : decode cX6_addSection 31 = .ok (.iconst 0, 1) := by decide +kernel
theorem dX6_addSection_32 : decode cX6_addSection 32 = .ok (.ireturn, 1) := by decide +kernel
theorem dX6_addSection_33 : decode cX6_addSection 33 = .ok (.iload_n 2, 1) := by decide +kernel
theorem dX6_addSection_34 : decode cX6_addSection 34 = .ok (.ifCond .lt 25, 3) := by decide +kernel
theorem dX6_addSection_37 : decode cX6_addSection 37 = .ok (.iload 4, 2) := by decide +kernel
theorem dX6_addSection_39 : decode cX6_addSection 39 = .ok (.iconst 1, 1) := by decide +kernel
theorem dX6_addSection_40 : decode cX6_addSection 40 = .ok (.if_icmp .lt 19, 3) := by decide +kernel
theorem dX6_addSection_43 : decode cX6_addSection 43 = .ok (.iload 4, 2) := by decide +kernel
theorem dX6_addSection_45 : decode cX6_addSection 45 = .ok (.aload_n 0, 1) := by decide +kernel
theorem dX6_addSection_46 : decode cX6_addSection 46 = .ok (.getfield 15, 3) := by decide +kernel
theorem dX6_addSection_49 : decode cX6_addSection 49 = .ok (.iload_n 1, 1) := by decide +kernel
theorem dX6_addSection_50 : decode cX6_addSection 50 = .ok (.aaload, 1) := by decide +kernel
theorem dX6_addSection_51 : decode cX6_addSection 51 = .ok (.getfield 84, 3) := by decide +kernel
theorem dX6_addSection_54 : decode cX6_addSection 54 = .ok (.iload_n 2, 1) := by decide +kernel
theorem dX6_addSection_55 : decode cX6_addSection 55 = .ok (.isub, 1) := by decide +kernel
theorem dX6_addSection_56 : decode cX6_addSection 56 = .ok (.if_icmp .le 5, 3) := by decide +kernel
theorem dX6_addSection_59 : decode cX6_addSection 59 = .ok (.iconst 0, 1) := by decide +kernel
theorem dX6_addSection_60 : decode cX6_addSection 60 = .ok (.ireturn, 1) := by decide +kernel
theorem dX6_addSection_61 : decode cX6_addSection 61 = .ok (.aload_n 0, 1) := by decide +kernel
theorem dX6_addSection_62 : decode cX6_addSection 62 = .ok (.getfield 35, 3) := by decide +kernel
theorem dX6_addSection_65 : decode cX6_addSection 65 = .ok (.new 87, 3) := by decide +kernel
theorem dX6_addSection_68 : decode cX6_addSection 68 = .ok (.dup, 1) := by decide +kernel
theorem dX6_addSection_69 : decode cX6_addSection 69 = .ok (.iload_n 1, 1) := by decide +kernel
theorem dX6_addSection_70 : decode cX6_addSection 70 = .ok (.iload_n 2, 1) := by decide +kernel
theorem dX6_addSection_71 : decode cX6_addSection 71 = .ok (.iload_n 3, 1) := by decide +kernel
theorem dX6_addSection_72 : decode cX6_addSection 72 = .ok (.iload 4, 2) := by decide +kernel
theorem dX6_addSection_74 : decode cX6_addSection 74 = .ok (.invokespecial 89, 3) := by decide +kernel
theorem dX6_addSection_77 : decode cX6_addSection 77 = .ok (.invokevirtual 91, 3) := by decide +kernel
theorem dX6_addSection_80 : decode cX6_addSection 80 = .ok (.ireturn, 1) := by decide +kernel
theorem dX6_removeTask_0 : decode cX6_removeTask 0 = .ok (.aload_n 0, 1) := by decide +kernel
theorem dX6_removeTask_1 : decode cX6_removeTask 1 = .ok (.iload_n 1, 1) := by decide +kernel
theorem dX6_removeTask_2 : decode cX6_removeTask 2 = .ok (.invokevirtual 68, 3) := by decide +kernel
theorem dX6_removeTask_5 : decode cX6_removeTask 5 = .ok (.ifCond .ne 5, 3) := by decide +kernel
theorem dX6_removeTask_8 : decode cX6_removeTask 8 = .ok (.iconst 0, 1) := by decide +kernel
theorem dX6_removeTask_9 : decode cX6_removeTask 9 = .ok (.ireturn, 1) := by decide +kernel
theorem dX6_removeTask_10 : decode cX6_removeTask 10 = .ok (.aload_n 0, 1) := by decide +kernel
theorem dX6_removeTask_11 : decode cX6_removeTask 11 = .ok (.getfield 15, 3) := by decide +kernel
theorem dX6_removeTask_14 : decode cX6_removeTask 14 = .ok (.iload_n 1, 1) := by decide +kernel
theorem dX6_removeTask_15 : decode cX6_removeTask 15 = .ok (.aaload, 1) := by decide +kernel
theorem dX6_removeTask_16 : decode cX6_removeTask 16 = .ok (.iconst 0, 1) := by decide +kernel
theorem dX6_removeTask_17 : decode cX6_removeTask 17 = .ok (.putfield 57, 3) := by decide +kernel
theorem dX6_removeTask_20 : decode cX6_removeTask 20 = .ok (.aload_n 0, 1) := by decide +kernel
theorem dX6_removeTask_21 : decode cX6_removeTask 21 = .ok (.iload_n 1, 1) := by decide +kernel
theorem dX6_removeTask_22 : decode cX6_removeTask 22 = .ok (.invokevirtual 95, 3) := by decide +kernel
theorem dX6_removeTask_25 : decode cX6_removeTask 25 = .ok (.aload_n 0, 1) := by decide +kernel
theorem dX6_removeTask_26 : decode cX6_removeTask 26 = .ok (.getfield 35, 3) := by decide +kernel
theorem dX6_removeTask_29 : decode cX6_removeTask 29 = .ok (.iload_n 1, 1) := by decide +kernel
theorem dX6_removeTask_30 : decode cX6_removeTask 30 = .ok (.invokevirtual 98, 3) := by decide +kernel
theorem dX6_removeTask_33 : decode cX6_removeTask 33 = .ok (.iconst 1, 1) := by decide +kernel
theorem dX6_removeTask_34 : decode cX6_removeTask 34 = .ok (.ireturn, 1) := by decide +kernel
theorem dX6_admissible_0 : decode cX6_admissible 0 = .ok (.aload_n 0, 1) := by decide +kernel
theorem dX6_admissible_1 : decode cX6_admissible 1 = .ok (.getfield 53, 3) := by decide +kernel
theorem dX6_admissible_4 : decode cX6_admissible 4 = .ok (.istore_n 1, 1) := by decide +kernel
theorem dX6_admissible_5 : decode cX6_admissible 5 = .ok (.iload_n 1, 1) := by decide +kernel
theorem dX6_admissible_6 : decode cX6_admissible 6 = .ok (.ifCond .le 26, 3) := by decide +kernel
theorem dX6_admissible_9 : decode cX6_admissible 9 = .ok (.aload_n 0, 1) := by decide +kernel
theorem dX6_admissible_10 : decode cX6_admissible 10 = .ok (.iload_n 1, 1) := by decide +kernel
theorem dX6_admissible_11 : decode cX6_admissible 11 = .ok (.iconst 1, 1) := by decide +kernel
theorem dX6_admissible_12 : decode cX6_admissible 12 = .ok (.isub, 1) := by decide +kernel
theorem dX6_admissible_13 : decode cX6_admissible 13 = .ok (.invokevirtual 101, 3) := by decide +kernel
theorem dX6_admissible_16 : decode cX6_admissible 16 = .ok (.lstore_n 2, 1) := by decide +kernel
theorem dX6_admissible_17 : decode cX6_admissible 17 = .ok (.lload_n 2, 1) := by decide +kernel
theorem dX6_admissible_18 : decode cX6_admissible 18 = .ok (.iload_n 1, 1) := by decide +kernel
theorem dX6_admissible_19 : decode cX6_admissible 19 = .ok (.i2l, 1) := by decide +kernel
theorem dX6_admissible_20 : decode cX6_admissible 20 = .ok (.lcmp, 1) := by decide +kernel
theorem dX6_admissible_21 : decode cX6_admissible 21 = .ok (.ifCond .lt 5, 3) := by decide +kernel
theorem dX6_admissible_24 : decode cX6_admissible 24 = .ok (.iconst 0, 1) := by decide +kernel
theorem dX6_admissible_25 : decode cX6_admissible 25 = .ok (.ireturn, 1) := by decide +kernel
theorem dX6_admissible_26 : decode cX6_admissible 26 = .ok (.lload_n 2, 1) := by decide +kernel
theorem dX6_admissible_27 : decode cX6_admissible 27 = .ok (.l2i, 1) := by decide +kernel
theorem dX6_admissible_28 : decode cX6_admissible 28 = .ok (.istore_n 1, 1) := by decide +kernel
theorem dX6_admissible_29 : decode cX6_admissible 29 = .ok (.goto (-24), 3) := by decide +kernel
theorem dX6_admissible_32 : decode cX6_admissible 32 = .ok (.iconst 1, 1) := by decide +kernel
theorem dX6_admissible_33 : decode cX6_admissible 33 = .ok (.ireturn, 1) := by decide +kernel
theorem dX6_tick_0 : decode cX6_tick 0 = .ok (.aload_n 0, 1) := by decide +kernel
theorem dX6_tick_1 : decode cX6_tick 1 = .ok (.getfield 61, 3) := by decide +kernel
theorem dX6_tick_4 : decode cX6_tick 4 = .ok (.aload_n 0, 1) := by decide +kernel
theorem dX6_tick_5 : decode cX6_tick 5 = .ok (.getfield 53, 3) := by decide +kernel
theorem dX6_tick_8 : decode cX6_tick 8 = .ok (.if_icmp .ge 10, 3) := by decide +kernel
theorem dX6_tick_11 : decode cX6_tick 11 = .ok (.aload_n 0, 1) := by decide +kernel
theorem dX6_tick_12 : decode cX6_tick 12 = .ok (.invokevirtual 105, 3) := by decide +kernel
theorem dX6_tick_15 : decode cX6_tick 15 = .ok (.goto 5, 3) := by decide +kernel
theorem dX6_tick_18 : decode cX6_tick 18 = .ok (.bipush (-2), 2) := by decide +kernel
theorem dX6_tick_20 : decode cX6_tick 20 = .ok (.ireturn, 1) := by decide +kernel
theorem dX6_run_0 : decode cX6_run 0 = .ok (.iload_n 1, 1) := by decide +kernel
theorem dX6_run_1 : decode cX6_run 1 = .ok (.ifCond .lt 10, 3) := by decide +kernel
theorem dX6_run_4 : decode cX6_run 4 = .ok (.iload_n 1, 1) := by decide +kernel
theorem dX6_run_5 : decode cX6_run 5 = .ok (.sipush 2000, 3) := by decide +kernel
theorem dX6_run_8 : decode cX6_run 8 = .ok (.if_icmp .le 5, 3) := by decide +kernel
theorem dX6_run_11 : decode cX6_run 11 = .ok (.iconst (-1), 1) := by decide +kernel
theorem dX6_run_12 : decode cX6_run 12 = .ok (.ireturn, 1) := by decide +kernel
theorem dX6_run_13 : decode cX6_run 13 = .ok (.aload_n 0, 1) := by decide +kernel
theorem dX6_run_14 : decode cX6_run 14 = .ok (.getfield 42, 3) := by decide +kernel
theorem dX6_run_17 : decode cX6_run 17 = .ok (.getfield 109, 3) := by decide +kernel
theorem dX6_run_20 : decode cX6_run 20 = .ok (.istore_n 2, 1) := by decide +kernel
theorem dX6_run_21 : decode cX6_run 21 = .ok (.iconst 0, 1) := by decide +kernel
theorem dX6_run_22 : decode cX6_run 22 = .ok (.istore_n 3, 1) := by decide +kernel
theorem dX6_run_23 : decode cX6_run 23 = .ok (.iload_n 3, 1) := by decide +kernel
theorem dX6_run_24 : decode cX6_run 24 = .ok (.iload_n 1, 1) := by decide +kernel
theorem dX6_run_25 : decode cX6_run 25 = .ok (.if_icmp .ge 36, 3) := by decide +kernel
theorem dX6_run_28 : decode cX6_run 28 = .ok (.aload_n 0, 1) := by decide +kernel
theorem dX6_run_29 : decode cX6_run 29 = .ok (.getfield 61, 3) := by decide +kernel
theorem dX6_run_32 : decode cX6_run 32 = .ok (.aload_n 0, 1) := by decide +kernel
theorem dX6_run_33 : decode cX6_run 33 = .ok (.getfield 53, 3) := by decide +kernel
theorem dX6_run_36 : decode cX6_run 36 = .ok (.if_icmp .ge 25, 3) := by decide +kernel
theorem dX6_run_39 : decode cX6_run 39 = .ok (.aload_n 0, 1) := by decide +kernel
theorem dX6_run_40 : decode cX6_run 40 = .ok (.getfield 42, 3) := by decide +kernel
theorem dX6_run_43 : decode cX6_run 43 = .ok (.getfield 109, 3) := by decide +kernel
theorem dX6_run_46 : decode cX6_run 46 = .ok (.iload_n 2, 1) := by decide +kernel
theorem dX6_run_47 : decode cX6_run 47 = .ok (.if_icmp .ne 14, 3) := by decide +kernel
theorem dX6_run_50 : decode cX6_run 50 = .ok (.aload_n 0, 1) := by decide +kernel
theorem dX6_run_51 : decode cX6_run 51 = .ok (.invokevirtual 105, 3) := by decide +kernel
theorem dX6_run_54 : decode cX6_run 54 = .ok (.pop, 1) := by decide +kernel
theorem dX6_run_55 : decode cX6_run 55 = .ok (.iinc 3 1, 3) := by decide +kernel
theorem dX6_run_58 : decode cX6_run 58 = .ok (.goto (-35), 3) := by decide +kernel
theorem dX6_run_61 : decode cX6_run 61 = .ok (.iload_n 3, 1) := by decide +kernel
theorem dX6_run_62 : decode cX6_run 62 = .ok (.ireturn, 1) := by decide +kernel
theorem dX6_ran_0 : decode cX6_ran 0 = .ok (.aload_n 0, 1) := by decide +kernel
theorem dX6_ran_1 : decode cX6_ran 1 = .ok (.getfield 49, 3) := by decide +kernel
theorem dX6_ran_4 : decode cX6_ran 4 = .ok (.iload_n 1, 1) := by decide +kernel
theorem dX6_ran_5 : decode cX6_ran 5 = .ok (.invokevirtual 112, 3) := by decide +kernel
theorem dX6_ran_8 : decode cX6_ran 8 = .ok (.ireturn, 1) := by decide +kernel
theorem dX6_remaining_0 : decode cX6_remaining 0 = .ok (.aload_n 0, 1) := by decide +kernel
theorem dX6_remaining_1 : decode cX6_remaining 1 = .ok (.iload_n 1, 1) := by decide +kernel
theorem dX6_remaining_2 : decode cX6_remaining 2 = .ok (.invokevirtual 116, 3) := by decide +kernel
theorem dX6_remaining_5 : decode cX6_remaining 5 = .ok (.ifCond .eq 28, 3) := by decide +kernel
theorem dX6_remaining_8 : decode cX6_remaining 8 = .ok (.aload_n 0, 1) := by decide +kernel
theorem dX6_remaining_9 : decode cX6_remaining 9 = .ok (.getfield 15, 3) := by decide +kernel
theorem dX6_remaining_12 : decode cX6_remaining 12 = .ok (.iload_n 1, 1) := by decide +kernel
theorem dX6_remaining_13 : decode cX6_remaining 13 = .ok (.aaload, 1) := by decide +kernel
theorem dX6_remaining_14 : decode cX6_remaining 14 = .ok (.getfield 84, 3) := by decide +kernel
theorem dX6_remaining_17 : decode cX6_remaining 17 = .ok (.aload_n 0, 1) := by decide +kernel
theorem dX6_remaining_18 : decode cX6_remaining 18 = .ok (.getfield 15, 3) := by decide +kernel
theorem dX6_remaining_21 : decode cX6_remaining 21 = .ok (.iload_n 1, 1) := by decide +kernel
theorem dX6_remaining_22 : decode cX6_remaining 22 = .ok (.aaload, 1) := by decide +kernel
theorem dX6_remaining_23 : decode cX6_remaining 23 = .ok (.getfield 75, 3) := by decide +kernel
theorem dX6_remaining_26 : decode cX6_remaining 26 = .ok (.getfield 119, 3) := by decide +kernel
theorem dX6_remaining_29 : decode cX6_remaining 29 = .ok (.isub, 1) := by decide +kernel
theorem dX6_remaining_30 : decode cX6_remaining 30 = .ok (.goto 4, 3) := by decide +kernel
theorem dX6_remaining_33 : decode cX6_remaining 33 = .ok (.iconst 0, 1) := by decide +kernel
theorem dX6_remaining_34 : decode cX6_remaining 34 = .ok (.ireturn, 1) := by decide +kernel
theorem dX6_deadlineOf_0 : decode cX6_deadlineOf 0 = .ok (.aload_n 0, 1) := by decide +kernel
theorem dX6_deadlineOf_1 : decode cX6_deadlineOf 1 = .ok (.iload_n 1, 1) := by decide +kernel
theorem dX6_deadlineOf_2 : decode cX6_deadlineOf 2 = .ok (.invokevirtual 116, 3) := by decide +kernel
theorem dX6_deadlineOf_5 : decode cX6_deadlineOf 5 = .ok (.ifCond .eq 18, 3) := by decide +kernel
theorem dX6_deadlineOf_8 : decode cX6_deadlineOf 8 = .ok (.aload_n 0, 1) := by decide +kernel
theorem dX6_deadlineOf_9 : decode cX6_deadlineOf 9 = .ok (.getfield 15, 3) := by decide +kernel
theorem dX6_deadlineOf_12 : decode cX6_deadlineOf 12 = .ok (.iload_n 1, 1) := by decide +kernel
theorem dX6_deadlineOf_13 : decode cX6_deadlineOf 13 = .ok (.aaload, 1) := by decide +kernel
theorem dX6_deadlineOf_14 : decode cX6_deadlineOf 14 = .ok (.getfield 75, 3) := by decide +kernel
theorem dX6_deadlineOf_17 : decode cX6_deadlineOf 17 = .ok (.getfield 122, 3) := by decide +kernel
theorem dX6_deadlineOf_20 : decode cX6_deadlineOf 20 = .ok (.goto 4, 3) := by decide +kernel
theorem dX6_deadlineOf_23 : decode cX6_deadlineOf 23 = .ok (.iconst (-1), 1) := by decide +kernel
theorem dX6_deadlineOf_24 : decode cX6_deadlineOf 24 = .ok (.ireturn, 1) := by decide +kernel
theorem dX6_effective_0 : decode cX6_effective 0 = .ok (.aload_n 0, 1) := by decide +kernel
theorem dX6_effective_1 : decode cX6_effective 1 = .ok (.iload_n 1, 1) := by decide +kernel
theorem dX6_effective_2 : decode cX6_effective 2 = .ok (.invokevirtual 116, 3) := by decide +kernel
theorem dX6_effective_5 : decode cX6_effective 5 = .ok (.ifCond .ne 5, 3) := by decide +kernel
theorem dX6_effective_8 : decode cX6_effective 8 = .ok (.iconst (-1), 1) := by decide +kernel
theorem dX6_effective_9 : decode cX6_effective 9 = .ok (.ireturn, 1) := by decide +kernel
theorem dX6_effective_10 : decode cX6_effective 10 = .ok (.aload_n 0, 1) := by decide +kernel
theorem dX6_effective_11 : decode cX6_effective 11 = .ok (.invokevirtual 125, 3) := by decide +kernel
theorem dX6_effective_14 : decode cX6_effective 14 = .ok (.aload_n 0, 1) := by decide +kernel
theorem dX6_effective_15 : decode cX6_effective 15 = .ok (.getfield 15, 3) := by decide +kernel
theorem dX6_effective_18 : decode cX6_effective 18 = .ok (.iload_n 1, 1) := by decide +kernel
theorem dX6_effective_19 : decode cX6_effective 19 = .ok (.aaload, 1) := by decide +kernel
theorem dX6_effective_20 : decode cX6_effective 20 = .ok (.getfield 75, 3) := by decide +kernel
theorem dX6_effective_23 : decode cX6_effective 23 = .ok (.getfield 128, 3) := by decide +kernel
theorem dX6_effective_26 : decode cX6_effective 26 = .ok (.ireturn, 1) := by decide +kernel
theorem dX6_waitsFor_0 : decode cX6_waitsFor 0 = .ok (.aload_n 0, 1) := by decide +kernel
theorem dX6_waitsFor_1 : decode cX6_waitsFor 1 = .ok (.iload_n 1, 1) := by decide +kernel
theorem dX6_waitsFor_2 : decode cX6_waitsFor 2 = .ok (.invokevirtual 116, 3) := by decide +kernel
theorem dX6_waitsFor_5 : decode cX6_waitsFor 5 = .ok (.ifCond .eq 18, 3) := by decide +kernel
theorem dX6_waitsFor_8 : decode cX6_waitsFor 8 = .ok (.aload_n 0, 1) := by decide +kernel
theorem dX6_waitsFor_9 : decode cX6_waitsFor 9 = .ok (.getfield 15, 3) := by decide +kernel
theorem dX6_waitsFor_12 : decode cX6_waitsFor 12 = .ok (.iload_n 1, 1) := by decide +kernel
theorem dX6_waitsFor_13 : decode cX6_waitsFor 13 = .ok (.aaload, 1) := by decide +kernel
theorem dX6_waitsFor_14 : decode cX6_waitsFor 14 = .ok (.getfield 75, 3) := by decide +kernel
theorem dX6_waitsFor_17 : decode cX6_waitsFor 17 = .ok (.getfield 131, 3) := by decide +kernel
theorem dX6_waitsFor_20 : decode cX6_waitsFor 20 = .ok (.goto 4, 3) := by decide +kernel
theorem dX6_waitsFor_23 : decode cX6_waitsFor 23 = .ok (.iconst (-1), 1) := by decide +kernel
theorem dX6_waitsFor_24 : decode cX6_waitsFor 24 = .ok (.ireturn, 1) := by decide +kernel
theorem dX6_owner_0 : decode cX6_owner 0 = .ok (.aload_n 0, 1) := by decide +kernel
theorem dX6_owner_1 : decode cX6_owner 1 = .ok (.iload_n 1, 1) := by decide +kernel
theorem dX6_owner_2 : decode cX6_owner 2 = .ok (.invokevirtual 72, 3) := by decide +kernel
theorem dX6_owner_5 : decode cX6_owner 5 = .ok (.ifCond .eq 12, 3) := by decide +kernel
theorem dX6_owner_8 : decode cX6_owner 8 = .ok (.aload_n 0, 1) := by decide +kernel
theorem dX6_owner_9 : decode cX6_owner 9 = .ok (.getfield 20, 3) := by decide +kernel
theorem dX6_owner_12 : decode cX6_owner 12 = .ok (.iload_n 1, 1) := by decide +kernel
theorem dX6_owner_13 : decode cX6_owner 13 = .ok (.iaload, 1) := by decide +kernel
theorem dX6_owner_14 : decode cX6_owner 14 = .ok (.goto 4, 3) := by decide +kernel
theorem dX6_owner_17 : decode cX6_owner 17 = .ok (.iconst (-1), 1) := by decide +kernel
theorem dX6_owner_18 : decode cX6_owner 18 = .ok (.ireturn, 1) := by decide +kernel
theorem dX6_waiters_0 : decode cX6_waiters 0 = .ok (.aload_n 0, 1) := by decide +kernel
theorem dX6_waiters_1 : decode cX6_waiters 1 = .ok (.iload_n 1, 1) := by decide +kernel
theorem dX6_waiters_2 : decode cX6_waiters 2 = .ok (.invokevirtual 72, 3) := by decide +kernel
theorem dX6_waiters_5 : decode cX6_waiters 5 = .ok (.ifCond .ne 5, 3) := by decide +kernel
theorem dX6_waiters_8 : decode cX6_waiters 8 = .ok (.iconst 0, 1) := by decide +kernel
theorem dX6_waiters_9 : decode cX6_waiters 9 = .ok (.ireturn, 1) := by decide +kernel
theorem dX6_waiters_10 : decode cX6_waiters 10 = .ok (.iconst 0, 1) := by decide +kernel
theorem dX6_waiters_11 : decode cX6_waiters 11 = .ok (.istore_n 2, 1) := by decide +kernel
theorem dX6_waiters_12 : decode cX6_waiters 12 = .ok (.aload_n 0, 1) := by decide +kernel
theorem dX6_waiters_13 : decode cX6_waiters 13 = .ok (.getfield 15, 3) := by decide +kernel
theorem dX6_waiters_16 : decode cX6_waiters 16 = .ok (.astore_n 3, 1) := by decide +kernel
theorem dX6_waiters_17 : decode cX6_waiters 17 = .ok (.aload_n 3, 1) := by decide +kernel
theorem dX6_waiters_18 : decode cX6_waiters 18 = .ok (.arraylength, 1) := by decide +kernel
theorem dX6_waiters_19 : decode cX6_waiters 19 = .ok (.istore 4, 2) := by decide +kernel
theorem dX6_waiters_21 : decode cX6_waiters 21 = .ok (.iconst 0, 1) := by decide +kernel
theorem dX6_waiters_22 : decode cX6_waiters 22 = .ok (.istore 5, 2) := by decide +kernel
theorem dX6_waiters_24 : decode cX6_waiters 24 = .ok (.iload 5, 2) := by decide +kernel
theorem dX6_waiters_26 : decode cX6_waiters 26 = .ok (.iload 4, 2) := by decide +kernel
theorem dX6_waiters_28 : decode cX6_waiters 28 = .ok (.if_icmp .ge 41, 3) := by decide +kernel
theorem dX6_waiters_31 : decode cX6_waiters 31 = .ok (.aload_n 3, 1) := by decide +kernel
theorem dX6_waiters_32 : decode cX6_waiters 32 = .ok (.iload 5, 2) := by decide +kernel
theorem dX6_waiters_34 : decode cX6_waiters 34 = .ok (.aaload, 1) := by decide +kernel
theorem dX6_waiters_35 : decode cX6_waiters 35 = .ok (.astore 6, 2) := by decide +kernel
theorem dX6_waiters_37 : decode cX6_waiters 37 = .ok (.aload 6, 2) := by decide +kernel
theorem dX6_waiters_39 : decode cX6_waiters 39 = .ok (.getfield 75, 3) := by decide +kernel
theorem dX6_waiters_42 : decode cX6_waiters 42 = .ok (.getfield 79, 3) := by decide +kernel
theorem dX6_waiters_45 : decode cX6_waiters 45 = .ok (.ifCond .eq 18, 3) := by decide +kernel
theorem dX6_waiters_48 : decode cX6_waiters 48 = .ok (.aload 6, 2) := by decide +kernel
theorem dX6_waiters_50 : decode cX6_waiters 50 = .ok (.getfield 75, 3) := by decide +kernel
theorem dX6_waiters_53 : decode cX6_waiters 53 = .ok (.getfield 131, 3) := by decide +kernel
theorem dX6_waiters_56 : decode cX6_waiters 56 = .ok (.iload_n 1, 1) := by decide +kernel
theorem dX6_waiters_57 : decode cX6_waiters 57 = .ok (.if_icmp .ne 6, 3) := by decide +kernel
theorem dX6_waiters_60 : decode cX6_waiters 60 = .ok (.iinc 2 1, 3) := by decide +kernel
theorem dX6_waiters_63 : decode cX6_waiters 63 = .ok (.iinc 5 1, 3) := by decide +kernel
theorem dX6_waiters_66 : decode cX6_waiters 66 = .ok (.goto (-42), 3) := by decide +kernel
theorem dX6_waiters_69 : decode cX6_waiters 69 = .ok (.iload_n 2, 1) := by decide +kernel
theorem dX6_waiters_70 : decode cX6_waiters 70 = .ok (.ireturn, 1) := by decide +kernel
theorem dX6_missCount_0 : decode cX6_missCount 0 = .ok (.aload_n 0, 1) := by decide +kernel
theorem dX6_missCount_1 : decode cX6_missCount 1 = .ok (.getfield 42, 3) := by decide +kernel
theorem dX6_missCount_4 : decode cX6_missCount 4 = .ok (.getfield 109, 3) := by decide +kernel
theorem dX6_missCount_7 : decode cX6_missCount 7 = .ok (.ireturn, 1) := by decide +kernel
theorem dX6_miss_0 : decode cX6_miss 0 = .ok (.aload_n 0, 1) := by decide +kernel
theorem dX6_miss_1 : decode cX6_miss 1 = .ok (.getfield 42, 3) := by decide +kernel
theorem dX6_miss_4 : decode cX6_miss 4 = .ok (.iload_n 1, 1) := by decide +kernel
theorem dX6_miss_5 : decode cX6_miss 5 = .ok (.invokevirtual 134, 3) := by decide +kernel
theorem dX6_miss_8 : decode cX6_miss 8 = .ok (.ifCond .ne 5, 3) := by decide +kernel
theorem dX6_miss_11 : decode cX6_miss 11 = .ok (.iconst (-1), 1) := by decide +kernel
theorem dX6_miss_12 : decode cX6_miss 12 = .ok (.ireturn, 1) := by decide +kernel
theorem dX6_miss_13 : decode cX6_miss 13 = .ok (.iload_n 2, 1) := by decide +kernel
theorem dX6_miss_14 : decode cX6_miss 14 = .ok (.lookupswitch 46 #[(0, 26), (1, 36)], 26) := by decide +kernel
theorem dX6_miss_40 : decode cX6_miss 40 = .ok (.aload_n 0, 1) := by decide +kernel
theorem dX6_miss_41 : decode cX6_miss 41 = .ok (.getfield 42, 3) := by decide +kernel
theorem dX6_miss_44 : decode cX6_miss 44 = .ok (.getfield 137, 3) := by decide +kernel
theorem dX6_miss_47 : decode cX6_miss 47 = .ok (.iload_n 1, 1) := by decide +kernel
theorem dX6_miss_48 : decode cX6_miss 48 = .ok (.iaload, 1) := by decide +kernel
theorem dX6_miss_49 : decode cX6_miss 49 = .ok (.ireturn, 1) := by decide +kernel
theorem dX6_miss_50 : decode cX6_miss 50 = .ok (.aload_n 0, 1) := by decide +kernel
theorem dX6_miss_51 : decode cX6_miss 51 = .ok (.getfield 42, 3) := by decide +kernel
theorem dX6_miss_54 : decode cX6_miss 54 = .ok (.getfield 140, 3) := by decide +kernel
theorem dX6_miss_57 : decode cX6_miss 57 = .ok (.iload_n 1, 1) := by decide +kernel
theorem dX6_miss_58 : decode cX6_miss 58 = .ok (.iaload, 1) := by decide +kernel
theorem dX6_miss_59 : decode cX6_miss 59 = .ok (.ireturn, 1) := by decide +kernel
theorem dX6_miss_60 : decode cX6_miss 60 = .ok (.iconst (-1), 1) := by decide +kernel
theorem dX6_miss_61 : decode cX6_miss 61 = .ok (.ireturn, 1) := by decide +kernel
theorem dX6_task_0 : decode cX6_task 0 = .ok (.aload_n 0, 1) := by decide +kernel
theorem dX6_task_1 : decode cX6_task 1 = .ok (.iload_n 1, 1) := by decide +kernel
theorem dX6_task_2 : decode cX6_task 2 = .ok (.invokevirtual 68, 3) := by decide +kernel
theorem dX6_task_5 : decode cX6_task 5 = .ok (.ifCond .ne 5, 3) := by decide +kernel
theorem dX6_task_8 : decode cX6_task 8 = .ok (.iconst (-1), 1) := by decide +kernel
theorem dX6_task_9 : decode cX6_task 9 = .ok (.ireturn, 1) := by decide +kernel
theorem dX6_task_10 : decode cX6_task 10 = .ok (.aload_n 0, 1) := by decide +kernel
theorem dX6_task_11 : decode cX6_task 11 = .ok (.getfield 15, 3) := by decide +kernel
theorem dX6_task_14 : decode cX6_task 14 = .ok (.iload_n 1, 1) := by decide +kernel
theorem dX6_task_15 : decode cX6_task 15 = .ok (.aaload, 1) := by decide +kernel
theorem dX6_task_16 : decode cX6_task 16 = .ok (.astore_n 3, 1) := by decide +kernel
theorem dX6_task_17 : decode cX6_task 17 = .ok (.iload_n 2, 1) := by decide +kernel
theorem dX6_task_18 : decode cX6_task 18 = .ok (.tableswitch 117 0 10 #[58, 63, 68, 73, 78, 87, 92, 97, 102, 107, 112], 58) := by decide +kernel
theorem dX6_task_76 : decode cX6_task 76 = .ok (.aload_n 3, 1) := by decide +kernel
theorem dX6_task_77 : decode cX6_task 77 = .ok (.getfield 143, 3) := by decide +kernel
theorem dX6_task_80 : decode cX6_task 80 = .ok (.ireturn, 1) := by decide +kernel
theorem dX6_task_81 : decode cX6_task 81 = .ok (.aload_n 3, 1) := by decide +kernel
theorem dX6_task_82 : decode cX6_task 82 = .ok (.getfield 84, 3) := by decide +kernel
theorem dX6_task_85 : decode cX6_task 85 = .ok (.ireturn, 1) := by decide +kernel
theorem dX6_task_86 : decode cX6_task 86 = .ok (.aload_n 3, 1) := by decide +kernel
theorem dX6_task_87 : decode cX6_task 87 = .ok (.getfield 146, 3) := by decide +kernel
theorem dX6_task_90 : decode cX6_task 90 = .ok (.ireturn, 1) := by decide +kernel
theorem dX6_task_91 : decode cX6_task 91 = .ok (.aload_n 3, 1) := by decide +kernel
theorem dX6_task_92 : decode cX6_task 92 = .ok (.getfield 149, 3) := by decide +kernel
theorem dX6_task_95 : decode cX6_task 95 = .ok (.ireturn, 1) := by decide +kernel
theorem dX6_task_96 : decode cX6_task 96 = .ok (.aload_n 0, 1) := by decide +kernel
theorem dX6_task_97 : decode cX6_task 97 = .ok (.getfield 35, 3) := by decide +kernel
theorem dX6_task_100 : decode cX6_task 100 = .ok (.iload_n 1, 1) := by decide +kernel
theorem dX6_task_101 : decode cX6_task 101 = .ok (.invokevirtual 152, 3) := by decide +kernel
theorem dX6_task_104 : decode cX6_task 104 = .ok (.ireturn, 1) := by decide +kernel
theorem dX6_task_105 : decode cX6_task 105 = .ok (.aload_n 3, 1) := by decide +kernel
theorem dX6_task_106 : decode cX6_task 106 = .ok (.getfield 155, 3) := by decide +kernel
theorem dX6_task_109 : decode cX6_task 109 = .ok (.ireturn, 1) := by decide +kernel
theorem dX6_task_110 : decode cX6_task 110 = .ok (.aload_n 3, 1) := by decide +kernel
theorem dX6_task_111 : decode cX6_task 111 = .ok (.getfield 158, 3) := by decide +kernel
theorem dX6_task_114 : decode cX6_task 114 = .ok (.ireturn, 1) := by decide +kernel
theorem dX6_task_115 : decode cX6_task 115 = .ok (.aload_n 3, 1) := by decide +kernel
theorem dX6_task_116 : decode cX6_task 116 = .ok (.getfield 161, 3) := by decide +kernel
theorem dX6_task_119 : decode cX6_task 119 = .ok (.ireturn, 1) := by decide +kernel
theorem dX6_task_120 : decode cX6_task 120 = .ok (.aload_n 3, 1) := by decide +kernel
theorem dX6_task_121 : decode cX6_task 121 = .ok (.getfield 164, 3) := by decide +kernel
theorem dX6_task_124 : decode cX6_task 124 = .ok (.ireturn, 1) := by decide +kernel
theorem dX6_task_125 : decode cX6_task 125 = .ok (.aload_n 3, 1) := by decide +kernel
theorem dX6_task_126 : decode cX6_task 126 = .ok (.getfield 167, 3) := by decide +kernel
theorem dX6_task_129 : decode cX6_task 129 = .ok (.ireturn, 1) := by decide +kernel
theorem dX6_task_130 : decode cX6_task 130 = .ok (.aload_n 3, 1) := by decide +kernel
theorem dX6_task_131 : decode cX6_task 131 = .ok (.getfield 170, 3) := by decide +kernel
theorem dX6_task_134 : decode cX6_task 134 = .ok (.ireturn, 1) := by decide +kernel
theorem dX6_task_135 : decode cX6_task 135 = .ok (.iconst (-1), 1) := by decide +kernel
theorem dX6_task_136 : decode cX6_task 136 = .ok (.ireturn, 1) := by decide +kernel
theorem dX6_count_0 : decode cX6_count 0 = .ok (.iload_n 1, 1) := by decide +kernel
theorem dX6_count_1 : decode cX6_count 1 = .ok (.tableswitch 81 0 6 #[43, 48, 53, 58, 66, 71, 76], 43) := by decide +kernel
theorem dX6_count_44 : decode cX6_count 44 = .ok (.aload_n 0, 1) := by decide +kernel
theorem dX6_count_45 : decode cX6_count 45 = .ok (.getfield 61, 3) := by decide +kernel
theorem dX6_count_48 : decode cX6_count 48 = .ok (.ireturn, 1) := by decide +kernel
theorem dX6_count_49 : decode cX6_count 49 = .ok (.aload_n 0, 1) := by decide +kernel
theorem dX6_count_50 : decode cX6_count 50 = .ok (.invokevirtual 173, 3) := by decide +kernel
theorem dX6_count_53 : decode cX6_count 53 = .ok (.ireturn, 1) := by decide +kernel
theorem dX6_count_54 : decode cX6_count 54 = .ok (.aload_n 0, 1) := by decide +kernel
theorem dX6_count_55 : decode cX6_count 55 = .ok (.invokevirtual 176, 3) := by decide +kernel
theorem dX6_count_58 : decode cX6_count 58 = .ok (.ireturn, 1) := by decide +kernel
theorem dX6_count_59 : decode cX6_count 59 = .ok (.aload_n 0, 1) := by decide +kernel
theorem dX6_count_60 : decode cX6_count 60 = .ok (.getfield 35, 3) := by decide +kernel
theorem dX6_count_63 : decode cX6_count 63 = .ok (.getfield 179, 3) := by decide +kernel
theorem dX6_count_66 : decode cX6_count 66 = .ok (.ireturn, 1) := by decide +kernel
theorem dX6_count_67 : decode cX6_count 67 = .ok (.aload_n 0, 1) := by decide +kernel
theorem dX6_count_68 : decode cX6_count 68 = .ok (.invokevirtual 182, 3) := by decide +kernel
theorem dX6_count_71 : decode cX6_count 71 = .ok (.ireturn, 1) := by decide +kernel
theorem dX6_count_72 : decode cX6_count 72 = .ok (.aload_n 0, 1) := by decide +kernel
theorem dX6_count_73 : decode cX6_count 73 = .ok (.getfield 185, 3) := by decide +kernel
theorem dX6_count_76 : decode cX6_count 76 = .ok (.ireturn, 1) := by decide +kernel
theorem dX6_count_77 : decode cX6_count 77 = .ok (.aload_n 0, 1) := by decide +kernel
theorem dX6_count_78 : decode cX6_count 78 = .ok (.getfield 53, 3) := by decide +kernel
theorem dX6_count_81 : decode cX6_count 81 = .ok (.ireturn, 1) := by decide +kernel
theorem dX6_count_82 : decode cX6_count 82 = .ok (.iconst (-1), 1) := by decide +kernel
theorem dX6_count_83 : decode cX6_count 83 = .ok (.ireturn, 1) := by decide +kernel
theorem dX6_nearest_0 : decode cX6_nearest 0 = .ok (.iload_n 1, 1) := by decide +kernel
theorem dX6_nearest_1 : decode cX6_nearest 1 = .ok (.iload_n 0, 1) := by decide +kernel
theorem dX6_nearest_2 : decode cX6_nearest 2 = .ok (.iload_n 2, 1) := by decide +kernel
theorem dX6_nearest_3 : decode cX6_nearest 3 = .ok (.invokestatic 188, 3) := by decide +kernel
theorem dX6_nearest_6 : decode cX6_nearest 6 = .ok (.invokestatic 194, 3) := by decide +kernel
theorem dX6_nearest_9 : decode cX6_nearest 9 = .ok (.ireturn, 1) := by decide +kernel
theorem dX6_isLive_0 : decode cX6_isLive 0 = .ok (.iload_n 1, 1) := by decide +kernel
theorem dX6_isLive_1 : decode cX6_isLive 1 = .ok (.ifCond .lt 28, 3) := by decide +kernel
theorem dX6_isLive_4 : decode cX6_isLive 4 = .ok (.iload_n 1, 1) := by decide +kernel
theorem dX6_isLive_5 : decode cX6_isLive 5 = .ok (.aload_n 0, 1) := by decide +kernel
theorem dX6_isLive_6 : decode cX6_isLive 6 = .ok (.getfield 15, 3) := by decide +kernel
theorem dX6_isLive_9 : decode cX6_isLive 9 = .ok (.arraylength, 1) := by decide +kernel
theorem dX6_isLive_10 : decode cX6_isLive 10 = .ok (.if_icmp .ge 19, 3) := by decide +kernel
theorem dX6_isLive_13 : decode cX6_isLive 13 = .ok (.aload_n 0, 1) := by decide +kernel
theorem dX6_isLive_14 : decode cX6_isLive 14 = .ok (.getfield 15, 3) := by decide +kernel
theorem dX6_isLive_17 : decode cX6_isLive 17 = .ok (.iload_n 1, 1) := by decide +kernel
theorem dX6_isLive_18 : decode cX6_isLive 18 = .ok (.aaload, 1) := by decide +kernel
theorem dX6_isLive_19 : decode cX6_isLive 19 = .ok (.getfield 57, 3) := by decide +kernel
theorem dX6_isLive_22 : decode cX6_isLive 22 = .ok (.ifCond .eq 7, 3) := by decide +kernel
theorem dX6_isLive_25 : decode cX6_isLive 25 = .ok (.iconst 1, 1) := by decide +kernel
theorem dX6_isLive_26 : decode cX6_isLive 26 = .ok (.goto 4, 3) := by decide +kernel
theorem dX6_isLive_29 : decode cX6_isLive 29 = .ok (.iconst 0, 1) := by decide +kernel
theorem dX6_isLive_30 : decode cX6_isLive 30 = .ok (.ireturn, 1) := by decide +kernel
theorem dX6_hasJob_0 : decode cX6_hasJob 0 = .ok (.aload_n 0, 1) := by decide +kernel
theorem dX6_hasJob_1 : decode cX6_hasJob 1 = .ok (.iload_n 1, 1) := by decide +kernel
theorem dX6_hasJob_2 : decode cX6_hasJob 2 = .ok (.invokevirtual 68, 3) := by decide +kernel
theorem dX6_hasJob_5 : decode cX6_hasJob 5 = .ok (.ifCond .eq 22, 3) := by decide +kernel
theorem dX6_hasJob_8 : decode cX6_hasJob 8 = .ok (.aload_n 0, 1) := by decide +kernel
theorem dX6_hasJob_9 : decode cX6_hasJob 9 = .ok (.getfield 15, 3) := by decide +kernel
theorem dX6_hasJob_12 : decode cX6_hasJob 12 = .ok (.iload_n 1, 1) := by decide +kernel
theorem dX6_hasJob_13 : decode cX6_hasJob 13 = .ok (.aaload, 1) := by decide +kernel
theorem dX6_hasJob_14 : decode cX6_hasJob 14 = .ok (.getfield 75, 3) := by decide +kernel
theorem dX6_hasJob_17 : decode cX6_hasJob 17 = .ok (.getfield 79, 3) := by decide +kernel
theorem dX6_hasJob_20 : decode cX6_hasJob 20 = .ok (.ifCond .eq 7, 3) := by decide +kernel
theorem dX6_hasJob_23 : decode cX6_hasJob 23 = .ok (.iconst 1, 1) := by decide +kernel
theorem dX6_hasJob_24 : decode cX6_hasJob 24 = .ok (.goto 4, 3) := by decide +kernel
theorem dX6_hasJob_27 : decode cX6_hasJob 27 = .ok (.iconst 0, 1) := by decide +kernel
theorem dX6_hasJob_28 : decode cX6_hasJob 28 = .ok (.ireturn, 1) := by decide +kernel
theorem dX6_isLock_0 : decode cX6_isLock 0 = .ok (.iload_n 1, 1) := by decide +kernel
theorem dX6_isLock_1 : decode cX6_isLock 1 = .ok (.ifCond .lt 16, 3) := by decide +kernel
theorem dX6_isLock_4 : decode cX6_isLock 4 = .ok (.iload_n 1, 1) := by decide +kernel
theorem dX6_isLock_5 : decode cX6_isLock 5 = .ok (.aload_n 0, 1) := by decide +kernel
theorem dX6_isLock_6 : decode cX6_isLock 6 = .ok (.getfield 20, 3) := by decide +kernel
theorem dX6_isLock_9 : decode cX6_isLock 9 = .ok (.arraylength, 1) := by decide +kernel
theorem dX6_isLock_10 : decode cX6_isLock 10 = .ok (.if_icmp .ge 7, 3) := by decide +kernel
theorem dX6_isLock_13 : decode cX6_isLock 13 = .ok (.iconst 1, 1) := by decide +kernel
theorem dX6_isLock_14 : decode cX6_isLock 14 = .ok (.goto 4, 3) := by decide +kernel
theorem dX6_isLock_17 : decode cX6_isLock 17 = .ok (.iconst 0, 1) := by decide +kernel
theorem dX6_isLock_18 : decode cX6_isLock 18 = .ok (.ireturn, 1) := by decide +kernel
theorem dX6_liveTasks_0 : decode cX6_liveTasks 0 = .ok (.iconst 0, 1) := by decide +kernel
theorem dX6_liveTasks_1 : decode cX6_liveTasks 1 = .ok (.istore_n 1, 1) := by decide +kernel
theorem dX6_liveTasks_2 : decode cX6_liveTasks 2 = .ok (.aload_n 0, 1) := by decide +kernel
theorem dX6_liveTasks_3 : decode cX6_liveTasks 3 = .ok (.getfield 15, 3) := by decide +kernel
theorem dX6_liveTasks_6 : decode cX6_liveTasks 6 = .ok (.astore_n 2, 1) := by decide +kernel
theorem dX6_liveTasks_7 : decode cX6_liveTasks 7 = .ok (.aload_n 2, 1) := by decide +kernel
theorem dX6_liveTasks_8 : decode cX6_liveTasks 8 = .ok (.arraylength, 1) := by decide +kernel
theorem dX6_liveTasks_9 : decode cX6_liveTasks 9 = .ok (.istore_n 3, 1) := by decide +kernel
theorem dX6_liveTasks_10 : decode cX6_liveTasks 10 = .ok (.iconst 0, 1) := by decide +kernel
theorem dX6_liveTasks_11 : decode cX6_liveTasks 11 = .ok (.istore 4, 2) := by decide +kernel
theorem dX6_liveTasks_13 : decode cX6_liveTasks 13 = .ok (.iload 4, 2) := by decide +kernel
theorem dX6_liveTasks_15 : decode cX6_liveTasks 15 = .ok (.iload_n 3, 1) := by decide +kernel
theorem dX6_liveTasks_16 : decode cX6_liveTasks 16 = .ok (.if_icmp .ge 26, 3) := by decide +kernel
theorem dX6_liveTasks_19 : decode cX6_liveTasks 19 = .ok (.aload_n 2, 1) := by decide +kernel
theorem dX6_liveTasks_20 : decode cX6_liveTasks 20 = .ok (.iload 4, 2) := by decide +kernel
theorem dX6_liveTasks_22 : decode cX6_liveTasks 22 = .ok (.aaload, 1) := by decide +kernel
theorem dX6_liveTasks_23 : decode cX6_liveTasks 23 = .ok (.astore 5, 2) := by decide +kernel
theorem dX6_liveTasks_25 : decode cX6_liveTasks 25 = .ok (.aload 5, 2) := by decide +kernel
theorem dX6_liveTasks_27 : decode cX6_liveTasks 27 = .ok (.getfield 57, 3) := by decide +kernel
theorem dX6_liveTasks_30 : decode cX6_liveTasks 30 = .ok (.ifCond .eq 6, 3) := by decide +kernel
theorem dX6_liveTasks_33 : decode cX6_liveTasks 33 = .ok (.iinc 1 1, 3) := by decide +kernel
theorem dX6_liveTasks_36 : decode cX6_liveTasks 36 = .ok (.iinc 4 1, 3) := by decide +kernel
theorem dX6_liveTasks_39 : decode cX6_liveTasks 39 = .ok (.goto (-26), 3) := by decide +kernel
theorem dX6_liveTasks_42 : decode cX6_liveTasks 42 = .ok (.iload_n 1, 1) := by decide +kernel
theorem dX6_liveTasks_43 : decode cX6_liveTasks 43 = .ok (.ireturn, 1) := by decide +kernel
theorem dX6_pendingJobs_0 : decode cX6_pendingJobs 0 = .ok (.iconst 0, 1) := by decide +kernel
theorem dX6_pendingJobs_1 : decode cX6_pendingJobs 1 = .ok (.istore_n 1, 1) := by decide +kernel
theorem dX6_pendingJobs_2 : decode cX6_pendingJobs 2 = .ok (.aload_n 0, 1) := by decide +kernel
theorem dX6_pendingJobs_3 : decode cX6_pendingJobs 3 = .ok (.getfield 15, 3) := by decide +kernel
theorem dX6_pendingJobs_6 : decode cX6_pendingJobs 6 = .ok (.astore_n 2, 1) := by decide +kernel
theorem dX6_pendingJobs_7 : decode cX6_pendingJobs 7 = .ok (.aload_n 2, 1) := by decide +kernel
theorem dX6_pendingJobs_8 : decode cX6_pendingJobs 8 = .ok (.arraylength, 1) := by decide +kernel
theorem dX6_pendingJobs_9 : decode cX6_pendingJobs 9 = .ok (.istore_n 3, 1) := by decide +kernel
theorem dX6_pendingJobs_10 : decode cX6_pendingJobs 10 = .ok (.iconst 0, 1) := by decide +kernel
theorem dX6_pendingJobs_11 : decode cX6_pendingJobs 11 = .ok (.istore 4, 2) := by decide +kernel
theorem dX6_pendingJobs_13 : decode cX6_pendingJobs 13 = .ok (.iload 4, 2) := by decide +kernel
theorem dX6_pendingJobs_15 : decode cX6_pendingJobs 15 = .ok (.iload_n 3, 1) := by decide +kernel
theorem dX6_pendingJobs_16 : decode cX6_pendingJobs 16 = .ok (.if_icmp .ge 29, 3) := by decide +kernel
theorem dX6_pendingJobs_19 : decode cX6_pendingJobs 19 = .ok (.aload_n 2, 1) := by decide +kernel
theorem dX6_pendingJobs_20 : decode cX6_pendingJobs 20 = .ok (.iload 4, 2) := by decide +kernel
theorem dX6_pendingJobs_22 : decode cX6_pendingJobs 22 = .ok (.aaload, 1) := by decide +kernel
theorem dX6_pendingJobs_23 : decode cX6_pendingJobs 23 = .ok (.astore 5, 2) := by decide +kernel
theorem dX6_pendingJobs_25 : decode cX6_pendingJobs 25 = .ok (.aload 5, 2) := by decide +kernel
theorem dX6_pendingJobs_27 : decode cX6_pendingJobs 27 = .ok (.getfield 75, 3) := by decide +kernel
theorem dX6_pendingJobs_30 : decode cX6_pendingJobs 30 = .ok (.getfield 79, 3) := by decide +kernel
theorem dX6_pendingJobs_33 : decode cX6_pendingJobs 33 = .ok (.ifCond .eq 6, 3) := by decide +kernel
theorem dX6_pendingJobs_36 : decode cX6_pendingJobs 36 = .ok (.iinc 1 1, 3) := by decide +kernel
theorem dX6_pendingJobs_39 : decode cX6_pendingJobs 39 = .ok (.iinc 4 1, 3) := by decide +kernel
theorem dX6_pendingJobs_42 : decode cX6_pendingJobs 42 = .ok (.goto (-29), 3) := by decide +kernel
theorem dX6_pendingJobs_45 : decode cX6_pendingJobs 45 = .ok (.iload_n 1, 1) := by decide +kernel
theorem dX6_pendingJobs_46 : decode cX6_pendingJobs 46 = .ok (.ireturn, 1) := by decide +kernel
theorem dX6_heldLocks_0 : decode cX6_heldLocks 0 = .ok (.iconst 0, 1) := by decide +kernel
theorem dX6_heldLocks_1 : decode cX6_heldLocks 1 = .ok (.istore_n 1, 1) := by decide +kernel
theorem dX6_heldLocks_2 : decode cX6_heldLocks 2 = .ok (.aload_n 0, 1) := by decide +kernel
theorem dX6_heldLocks_3 : decode cX6_heldLocks 3 = .ok (.getfield 20, 3) := by decide +kernel
theorem dX6_heldLocks_6 : decode cX6_heldLocks 6 = .ok (.astore_n 2, 1) := by decide +kernel
theorem dX6_heldLocks_7 : decode cX6_heldLocks 7 = .ok (.aload_n 2, 1) := by decide +kernel
theorem dX6_heldLocks_8 : decode cX6_heldLocks 8 = .ok (.arraylength, 1) := by decide +kernel
theorem dX6_heldLocks_9 : decode cX6_heldLocks 9 = .ok (.istore_n 3, 1) := by decide +kernel
theorem dX6_heldLocks_10 : decode cX6_heldLocks 10 = .ok (.iconst 0, 1) := by decide +kernel
theorem dX6_heldLocks_11 : decode cX6_heldLocks 11 = .ok (.istore 4, 2) := by decide +kernel
theorem dX6_heldLocks_13 : decode cX6_heldLocks 13 = .ok (.iload 4, 2) := by decide +kernel
theorem dX6_heldLocks_15 : decode cX6_heldLocks 15 = .ok (.iload_n 3, 1) := by decide +kernel
theorem dX6_heldLocks_16 : decode cX6_heldLocks 16 = .ok (.if_icmp .ge 24, 3) := by decide +kernel
theorem dX6_heldLocks_19 : decode cX6_heldLocks 19 = .ok (.aload_n 2, 1) := by decide +kernel
theorem dX6_heldLocks_20 : decode cX6_heldLocks 20 = .ok (.iload 4, 2) := by decide +kernel
theorem dX6_heldLocks_22 : decode cX6_heldLocks 22 = .ok (.iaload, 1) := by decide +kernel
theorem dX6_heldLocks_23 : decode cX6_heldLocks 23 = .ok (.istore 5, 2) := by decide +kernel
theorem dX6_heldLocks_25 : decode cX6_heldLocks 25 = .ok (.iload 5, 2) := by decide +kernel
theorem dX6_heldLocks_27 : decode cX6_heldLocks 27 = .ok (.iconst (-1), 1) := by decide +kernel
theorem dX6_heldLocks_28 : decode cX6_heldLocks 28 = .ok (.if_icmp .eq 6, 3) := by decide +kernel
theorem dX6_heldLocks_31 : decode cX6_heldLocks 31 = .ok (.iinc 1 1, 3) := by decide +kernel
theorem dX6_heldLocks_34 : decode cX6_heldLocks 34 = .ok (.iinc 4 1, 3) := by decide +kernel
theorem dX6_heldLocks_37 : decode cX6_heldLocks 37 = .ok (.goto (-24), 3) := by decide +kernel
theorem dX6_heldLocks_40 : decode cX6_heldLocks 40 = .ok (.iload_n 1, 1) := by decide +kernel
theorem dX6_heldLocks_41 : decode cX6_heldLocks 41 = .ok (.ireturn, 1) := by decide +kernel
theorem dX6_demandAt_0 : decode cX6_demandAt 0 = .ok (.lconst 0, 1) := by decide +kernel
theorem dX6_demandAt_1 : decode cX6_demandAt 1 = .ok (.lstore_n 2, 1) := by decide +kernel
theorem dX6_demandAt_2 : decode cX6_demandAt 2 = .ok (.aload_n 0, 1) := by decide +kernel
theorem dX6_demandAt_3 : decode cX6_demandAt 3 = .ok (.getfield 15, 3) := by decide +kernel
theorem dX6_demandAt_6 : decode cX6_demandAt 6 = .ok (.astore 4, 2) := by decide +kernel
theorem dX6_demandAt_8 : decode cX6_demandAt 8 = .ok (.aload 4, 2) := by decide +kernel
theorem dX6_demandAt_10 : decode cX6_demandAt 10 = .ok (.arraylength, 1) := by decide +kernel
theorem dX6_demandAt_11 : decode cX6_demandAt 11 = .ok (.istore 5, 2) := by decide +kernel
theorem dX6_demandAt_13 : decode cX6_demandAt 13 = .ok (.iconst 0, 1) := by decide +kernel
theorem dX6_demandAt_14 : decode cX6_demandAt 14 = .ok (.istore 6, 2) := by decide +kernel
theorem dX6_demandAt_16 : decode cX6_demandAt 16 = .ok (.iload 6, 2) := by decide +kernel
theorem dX6_demandAt_18 : decode cX6_demandAt 18 = .ok (.iload 5, 2) := by decide +kernel
theorem dX6_demandAt_20 : decode cX6_demandAt 20 = .ok (.if_icmp .ge 71, 3) := by decide +kernel
theorem dX6_demandAt_23 : decode cX6_demandAt 23 = .ok (.aload 4, 2) := by decide +kernel
theorem dX6_demandAt_25 : decode cX6_demandAt 25 = .ok (.iload 6, 2) := by decide +kernel
theorem dX6_demandAt_27 : decode cX6_demandAt 27 = .ok (.aaload, 1) := by decide +kernel
theorem dX6_demandAt_28 : decode cX6_demandAt 28 = .ok (.astore 7, 2) := by decide +kernel
theorem dX6_demandAt_30 : decode cX6_demandAt 30 = .ok (.aload 7, 2) := by decide +kernel
theorem dX6_demandAt_32 : decode cX6_demandAt 32 = .ok (.getfield 57, 3) := by decide +kernel
theorem dX6_demandAt_35 : decode cX6_demandAt 35 = .ok (.ifCond .eq 50, 3) := by decide +kernel
theorem dX6_demandAt_38 : decode cX6_demandAt 38 = .ok (.aload 7, 2) := by decide +kernel
theorem dX6_demandAt_40 : decode cX6_demandAt 40 = .ok (.getfield 146, 3) := by decide +kernel
theorem dX6_demandAt_43 : decode cX6_demandAt 43 = .ok (.iload_n 1, 1) := by decide +kernel
theorem dX6_demandAt_44 : decode cX6_demandAt 44 = .ok (.if_icmp .gt 41, 3) := by decide +kernel
theorem dX6_demandAt_47 : decode cX6_demandAt 47 = .ok (.aload 7, 2) := by decide +kernel
theorem dX6_demandAt_49 : decode cX6_demandAt 49 = .ok (.getfield 143, 3) := by decide +kernel
theorem dX6_demandAt_52 : decode cX6_demandAt 52 = .ok (.ifCond .le 33, 3) := by decide +kernel
theorem dX6_demandAt_55 : decode cX6_demandAt 55 = .ok (.iconst 1, 1) := by decide +kernel
theorem dX6_demandAt_56 : decode cX6_demandAt 56 = .ok (.iload_n 1, 1) := by decide +kernel
theorem dX6_demandAt_57 : decode cX6_demandAt 57 = .ok (.aload 7, 2) := by decide +kernel
theorem dX6_demandAt_59 : decode cX6_demandAt 59 = .ok (.getfield 146, 3) := by decide +kernel
theorem dX6_demandAt_62 : decode cX6_demandAt 62 = .ok (.isub, 1) := by decide +kernel
theorem dX6_demandAt_63 : decode cX6_demandAt 63 = .ok (.aload 7, 2) := by decide +kernel
theorem dX6_demandAt_65 : decode cX6_demandAt 65 = .ok (.getfield 143, 3) := by decide +kernel
theorem dX6_demandAt_68 : decode cX6_demandAt 68 = .ok (.idiv, 1) := by decide +kernel
theorem dX6_demandAt_69 : decode cX6_demandAt 69 = .ok (.iadd, 1) := by decide +kernel
theorem dX6_demandAt_70 : decode cX6_demandAt 70 = .ok (.i2l, 1) := by decide +kernel
theorem dX6_demandAt_71 : decode cX6_demandAt 71 = .ok (.lstore 8, 2) := by decide +kernel
theorem dX6_demandAt_73 : decode cX6_demandAt 73 = .ok (.lload_n 2, 1) := by decide +kernel
theorem dX6_demandAt_74 : decode cX6_demandAt 74 = .ok (.aload 7, 2) := by decide +kernel
theorem dX6_demandAt_76 : decode cX6_demandAt 76 = .ok (.getfield 84, 3) := by decide +kernel
theorem dX6_demandAt_79 : decode cX6_demandAt 79 = .ok (.i2l, 1) := by decide +kernel
theorem dX6_demandAt_80 : decode cX6_demandAt 80 = .ok (.lload 8, 2) := by decide +kernel
theorem dX6_demandAt_82 : decode cX6_demandAt 82 = .ok (.lmul, 1) := by decide +kernel
theorem dX6_demandAt_83 : decode cX6_demandAt 83 = .ok (.ladd, 1) := by decide +kernel
theorem dX6_demandAt_84 : decode cX6_demandAt 84 = .ok (.lstore_n 2, 1) := by decide +kernel
theorem dX6_demandAt_85 : decode cX6_demandAt 85 = .ok (.iinc 6 1, 3) := by decide +kernel
theorem dX6_demandAt_88 : decode cX6_demandAt 88 = .ok (.goto (-72), 3) := by decide +kernel
theorem dX6_demandAt_91 : decode cX6_demandAt 91 = .ok (.lload_n 2, 1) := by decide +kernel
theorem dX6_demandAt_92 : decode cX6_demandAt 92 = .ok (.lreturn, 1) := by decide +kernel
theorem dX6_passTick_0 : decode cX6_passTick 0 = .ok (.aload_n 0, 1) := by decide +kernel
theorem dX6_passTick_1 : decode cX6_passTick 1 = .ok (.invokevirtual 197, 3) := by decide +kernel
theorem dX6_passTick_4 : decode cX6_passTick 4 = .ok (.aload_n 0, 1) := by decide +kernel
theorem dX6_passTick_5 : decode cX6_passTick 5 = .ok (.invokevirtual 200, 3) := by decide +kernel
theorem dX6_passTick_8 : decode cX6_passTick 8 = .ok (.aload_n 0, 1) := by decide +kernel
theorem dX6_passTick_9 : decode cX6_passTick 9 = .ok (.invokevirtual 203, 3) := by decide +kernel
theorem dX6_passTick_12 : decode cX6_passTick 12 = .ok (.istore_n 1, 1) := by decide +kernel
theorem dX6_passTick_13 : decode cX6_passTick 13 = .ok (.aload_n 0, 1) := by decide +kernel
theorem dX6_passTick_14 : decode cX6_passTick 14 = .ok (.iload_n 1, 1) := by decide +kernel
theorem dX6_passTick_15 : decode cX6_passTick 15 = .ok (.invokevirtual 206, 3) := by decide +kernel
theorem dX6_passTick_18 : decode cX6_passTick 18 = .ok (.aload_n 0, 1) := by decide +kernel
theorem dX6_passTick_19 : decode cX6_passTick 19 = .ok (.getfield 49, 3) := by decide +kernel
theorem dX6_passTick_22 : decode cX6_passTick 22 = .ok (.iload_n 1, 1) := by decide +kernel
theorem dX6_passTick_23 : decode cX6_passTick 23 = .ok (.invokevirtual 209, 3) := by decide +kernel
theorem dX6_passTick_26 : decode cX6_passTick 26 = .ok (.iload_n 1, 1) := by decide +kernel
theorem dX6_passTick_27 : decode cX6_passTick 27 = .ok (.iconst (-1), 1) := by decide +kernel
theorem dX6_passTick_28 : decode cX6_passTick 28 = .ok (.if_icmp .ne 13, 3) := by decide +kernel
theorem dX6_passTick_31 : decode cX6_passTick 31 = .ok (.aload_n 0, 1) := by decide +kernel
theorem dX6_passTick_32 : decode cX6_passTick 32 = .ok (.dup, 1) := by decide +kernel
theorem dX6_passTick_33 : decode cX6_passTick 33 = .ok (.getfield 185, 3) := by decide +kernel
theorem dX6_passTick_36 : decode cX6_passTick 36 = .ok (.iconst 1, 1) := by decide +kernel
theorem dX6_passTick_37 : decode cX6_passTick 37 = .ok (.iadd, 1) := by decide +kernel
theorem dX6_passTick_38 : decode cX6_passTick 38 = .ok (.putfield 185, 3) := by decide +kernel
theorem dX6_passTick_41 : decode cX6_passTick 41 = .ok (.aload_n 0, 1) := by decide +kernel
theorem dX6_passTick_42 : decode cX6_passTick 42 = .ok (.dup, 1) := by decide +kernel
theorem dX6_passTick_43 : decode cX6_passTick 43 = .ok (.getfield 61, 3) := by decide +kernel
theorem dX6_passTick_46 : decode cX6_passTick 46 = .ok (.iconst 1, 1) := by decide +kernel
theorem dX6_passTick_47 : decode cX6_passTick 47 = .ok (.iadd, 1) := by decide +kernel
theorem dX6_passTick_48 : decode cX6_passTick 48 = .ok (.putfield 61, 3) := by decide +kernel
theorem dX6_passTick_51 : decode cX6_passTick 51 = .ok (.iload_n 1, 1) := by decide +kernel
theorem dX6_passTick_52 : decode cX6_passTick 52 = .ok (.ireturn, 1) := by decide +kernel
theorem dX6_dropLateJobs_0 : decode cX6_dropLateJobs 0 = .ok (.iconst 0, 1) := by decide +kernel
theorem dX6_dropLateJobs_1 : decode cX6_dropLateJobs 1 = .ok (.istore_n 1, 1) := by decide +kernel
theorem dX6_dropLateJobs_2 : decode cX6_dropLateJobs 2 = .ok (.iload_n 1, 1) := by decide +kernel
theorem dX6_dropLateJobs_3 : decode cX6_dropLateJobs 3 = .ok (.aload_n 0, 1) := by decide +kernel
theorem dX6_dropLateJobs_4 : decode cX6_dropLateJobs 4 = .ok (.getfield 15, 3) := by decide +kernel
theorem dX6_dropLateJobs_7 : decode cX6_dropLateJobs 7 = .ok (.arraylength, 1) := by decide +kernel
theorem dX6_dropLateJobs_8 : decode cX6_dropLateJobs 8 = .ok (.if_icmp .ge 75, 3) := by decide +kernel
theorem dX6_dropLateJobs_11 : decode cX6_dropLateJobs 11 = .ok (.aload_n 0, 1) := by decide +kernel
theorem dX6_dropLateJobs_12 : decode cX6_dropLateJobs 12 = .ok (.getfield 15, 3) := by decide +kernel
theorem dX6_dropLateJobs_15 : decode cX6_dropLateJobs 15 = .ok (.iload_n 1, 1) := by decide +kernel
theorem dX6_dropLateJobs_16 : decode cX6_dropLateJobs 16 = .ok (.aaload, 1) := by decide +kernel
theorem dX6_dropLateJobs_17 : decode cX6_dropLateJobs 17 = .ok (.getfield 75, 3) := by decide +kernel
theorem dX6_dropLateJobs_20 : decode cX6_dropLateJobs 20 = .ok (.getfield 79, 3) := by decide +kernel
theorem dX6_dropLateJobs_23 : decode cX6_dropLateJobs 23 = .ok (.ifCond .eq 54, 3) := by decide +kernel
theorem dX6_dropLateJobs_26 : decode cX6_dropLateJobs 26 = .ok (.aload_n 0, 1) := by decide +kernel
theorem dX6_dropLateJobs_27 : decode cX6_dropLateJobs 27 = .ok (.getfield 15, 3) := by decide +kernel
theorem dX6_dropLateJobs_30 : decode cX6_dropLateJobs 30 = .ok (.iload_n 1, 1) := by decide +kernel
theorem dX6_dropLateJobs_31 : decode cX6_dropLateJobs 31 = .ok (.aaload, 1) := by decide +kernel
theorem dX6_dropLateJobs_32 : decode cX6_dropLateJobs 32 = .ok (.getfield 75, 3) := by decide +kernel
theorem dX6_dropLateJobs_35 : decode cX6_dropLateJobs 35 = .ok (.getfield 122, 3) := by decide +kernel
theorem dX6_dropLateJobs_38 : decode cX6_dropLateJobs 38 = .ok (.aload_n 0, 1) := by decide +kernel
theorem dX6_dropLateJobs_39 : decode cX6_dropLateJobs 39 = .ok (.getfield 61, 3) := by decide +kernel
theorem dX6_dropLateJobs_42 : decode cX6_dropLateJobs 42 = .ok (.if_icmp .ne 35, 3) := by decide +kernel
theorem dX6_dropLateJobs_45 : decode cX6_dropLateJobs 45 = .ok (.aload_n 0, 1) := by decide +kernel
theorem dX6_dropLateJobs_46 : decode cX6_dropLateJobs 46 = .ok (.getfield 42, 3) := by decide +kernel
theorem dX6_dropLateJobs_49 : decode cX6_dropLateJobs 49 = .ok (.iload_n 1, 1) := by decide +kernel
theorem dX6_dropLateJobs_50 : decode cX6_dropLateJobs 50 = .ok (.aload_n 0, 1) := by decide +kernel
theorem dX6_dropLateJobs_51 : decode cX6_dropLateJobs 51 = .ok (.getfield 61, 3) := by decide +kernel
theorem dX6_dropLateJobs_54 : decode cX6_dropLateJobs 54 = .ok (.invokevirtual 212, 3) := by decide +kernel
theorem dX6_dropLateJobs_57 : decode cX6_dropLateJobs 57 = .ok (.aload_n 0, 1) := by decide +kernel
theorem dX6_dropLateJobs_58 : decode cX6_dropLateJobs 58 = .ok (.getfield 15, 3) := by decide +kernel
theorem dX6_dropLateJobs_61 : decode cX6_dropLateJobs 61 = .ok (.iload_n 1, 1) := by decide +kernel
theorem dX6_dropLateJobs_62 : decode cX6_dropLateJobs 62 = .ok (.aaload, 1) := by decide +kernel
theorem dX6_dropLateJobs_63 : decode cX6_dropLateJobs 63 = .ok (.dup, 1) := by decide +kernel
theorem dX6_dropLateJobs_64 : decode cX6_dropLateJobs 64 = .ok (.getfield 161, 3) := by decide +kernel
theorem dX6_dropLateJobs_67 : decode cX6_dropLateJobs 67 = .ok (.iconst 1, 1) := by decide +kernel
theorem dX6_dropLateJobs_68 : decode cX6_dropLateJobs 68 = .ok (.iadd, 1) := by decide +kernel
theorem dX6_dropLateJobs_69 : decode cX6_dropLateJobs 69 = .ok (.putfield 161, 3) := by decide +kernel
theorem dX6_dropLateJobs_72 : decode cX6_dropLateJobs 72 = .ok (.aload_n 0, 1) := by decide +kernel
theorem dX6_dropLateJobs_73 : decode cX6_dropLateJobs 73 = .ok (.iload_n 1, 1) := by decide +kernel
theorem dX6_dropLateJobs_74 : decode cX6_dropLateJobs 74 = .ok (.invokevirtual 95, 3) := by decide +kernel
theorem dX6_dropLateJobs_77 : decode cX6_dropLateJobs 77 = .ok (.iinc 1 1, 3) := by decide +kernel
theorem dX6_dropLateJobs_80 : decode cX6_dropLateJobs 80 = .ok (.goto (-78), 3) := by decide +kernel
theorem dX6_dropLateJobs_83 : decode cX6_dropLateJobs 83 = .ok (.return_, 1) := by decide +kernel
theorem dX6_releaseJobs_0 : decode cX6_releaseJobs 0 = .ok (.aload_n 0, 1) := by decide +kernel
theorem dX6_releaseJobs_1 : decode cX6_releaseJobs 1 = .ok (.getfield 15, 3) := by decide +kernel
theorem dX6_releaseJobs_4 : decode cX6_releaseJobs 4 = .ok (.astore_n 1, 1) := by decide +kernel
theorem dX6_releaseJobs_5 : decode cX6_releaseJobs 5 = .ok (.aload_n 1, 1) := by decide +kernel
theorem dX6_releaseJobs_6 : decode cX6_releaseJobs 6 = .ok (.arraylength, 1) := by decide +kernel
theorem dX6_releaseJobs_7 : decode cX6_releaseJobs 7 = .ok (.istore_n 2, 1) := by decide +kernel
theorem dX6_releaseJobs_8 : decode cX6_releaseJobs 8 = .ok (.iconst 0, 1) := by decide +kernel
theorem dX6_releaseJobs_9 : decode cX6_releaseJobs 9 = .ok (.istore_n 3, 1) := by decide +kernel
theorem dX6_releaseJobs_10 : decode cX6_releaseJobs 10 = .ok (.iload_n 3, 1) := by decide +kernel
theorem dX6_releaseJobs_11 : decode cX6_releaseJobs 11 = .ok (.iload_n 2, 1) := by decide +kernel
theorem dX6_releaseJobs_12 : decode cX6_releaseJobs 12 = .ok (.if_icmp .ge 39, 3) := by decide +kernel
theorem dX6_releaseJobs_15 : decode cX6_releaseJobs 15 = .ok (.aload_n 1, 1) := by decide +kernel
theorem dX6_releaseJobs_16 : decode cX6_releaseJobs 16 = .ok (.iload_n 3, 1) := by decide +kernel
theorem dX6_releaseJobs_17 : decode cX6_releaseJobs 17 = .ok (.aaload, 1) := by decide +kernel
theorem dX6_releaseJobs_18 : decode cX6_releaseJobs 18 = .ok (.astore 4, 2) := by decide +kernel
theorem dX6_releaseJobs_20 : decode cX6_releaseJobs 20 = .ok (.aload 4, 2) := by decide +kernel
theorem dX6_releaseJobs_22 : decode cX6_releaseJobs 22 = .ok (.getfield 57, 3) := by decide +kernel
theorem dX6_releaseJobs_25 : decode cX6_releaseJobs 25 = .ok (.ifCond .eq 20, 3) := by decide +kernel
theorem dX6_releaseJobs_28 : decode cX6_releaseJobs 28 = .ok (.aload 4, 2) := by decide +kernel
theorem dX6_releaseJobs_30 : decode cX6_releaseJobs 30 = .ok (.getfield 149, 3) := by decide +kernel
theorem dX6_releaseJobs_33 : decode cX6_releaseJobs 33 = .ok (.aload_n 0, 1) := by decide +kernel
theorem dX6_releaseJobs_34 : decode cX6_releaseJobs 34 = .ok (.getfield 61, 3) := by decide +kernel
theorem dX6_releaseJobs_37 : decode cX6_releaseJobs 37 = .ok (.if_icmp .ne 8, 3) := by decide +kernel
theorem dX6_releaseJobs_40 : decode cX6_releaseJobs 40 = .ok (.aload 4, 2) := by decide +kernel
theorem dX6_releaseJobs_42 : decode cX6_releaseJobs 42 = .ok (.invokevirtual 215, 3) := by decide +kernel
theorem dX6_releaseJobs_45 : decode cX6_releaseJobs 45 = .ok (.iinc 3 1, 3) := by decide +kernel
theorem dX6_releaseJobs_48 : decode cX6_releaseJobs 48 = .ok (.goto (-38), 3) := by decide +kernel
theorem dX6_releaseJobs_51 : decode cX6_releaseJobs 51 = .ok (.return_, 1) := by decide +kernel
theorem dX6_runOneJob_0 : decode cX6_runOneJob 0 = .ok (.iconst 0, 1) := by decide +kernel
theorem dX6_runOneJob_1 : decode cX6_runOneJob 1 = .ok (.istore_n 1, 1) := by decide +kernel
theorem dX6_runOneJob_2 : decode cX6_runOneJob 2 = .ok (.iload_n 1, 1) := by decide +kernel
theorem dX6_runOneJob_3 : decode cX6_runOneJob 3 = .ok (.aload_n 0, 1) := by decide +kernel
theorem dX6_runOneJob_4 : decode cX6_runOneJob 4 = .ok (.getfield 15, 3) := by decide +kernel
theorem dX6_runOneJob_7 : decode cX6_runOneJob 7 = .ok (.arraylength, 1) := by decide +kernel
theorem dX6_runOneJob_8 : decode cX6_runOneJob 8 = .ok (.if_icmp .ge 41, 3) := by decide +kernel
theorem dX6_runOneJob_11 : decode cX6_runOneJob 11 = .ok (.aload_n 0, 1) := by decide +kernel
theorem dX6_runOneJob_12 : decode cX6_runOneJob 12 = .ok (.invokevirtual 125, 3) := by decide +kernel
theorem dX6_runOneJob_15 : decode cX6_runOneJob 15 = .ok (.aload_n 0, 1) := by decide +kernel
theorem dX6_runOneJob_16 : decode cX6_runOneJob 16 = .ok (.iconst (-1), 1) := by decide +kernel
theorem dX6_runOneJob_17 : decode cX6_runOneJob 17 = .ok (.invokevirtual 218, 3) := by decide +kernel
theorem dX6_runOneJob_20 : decode cX6_runOneJob 20 = .ok (.istore_n 2, 1) := by decide +kernel
theorem dX6_runOneJob_21 : decode cX6_runOneJob 21 = .ok (.iload_n 2, 1) := by decide +kernel
theorem dX6_runOneJob_22 : decode cX6_runOneJob 22 = .ok (.iconst (-1), 1) := by decide +kernel
theorem dX6_runOneJob_23 : decode cX6_runOneJob 23 = .ok (.if_icmp .ne 5, 3) := by decide +kernel
theorem dX6_runOneJob_26 : decode cX6_runOneJob 26 = .ok (.iconst (-1), 1) := by decide +kernel
theorem dX6_runOneJob_27 : decode cX6_runOneJob 27 = .ok (.ireturn, 1) := by decide +kernel
theorem dX6_runOneJob_28 : decode cX6_runOneJob 28 = .ok (.aload_n 0, 1) := by decide +kernel
theorem dX6_runOneJob_29 : decode cX6_runOneJob 29 = .ok (.iload_n 2, 1) := by decide +kernel
theorem dX6_runOneJob_30 : decode cX6_runOneJob 30 = .ok (.invokevirtual 221, 3) := by decide +kernel
theorem dX6_runOneJob_33 : decode cX6_runOneJob 33 = .ok (.ifCond .eq 10, 3) := by decide +kernel
theorem dX6_runOneJob_36 : decode cX6_runOneJob 36 = .ok (.aload_n 0, 1) := by decide +kernel
theorem dX6_runOneJob_37 : decode cX6_runOneJob 37 = .ok (.iload_n 2, 1) := by decide +kernel
theorem dX6_runOneJob_38 : decode cX6_runOneJob 38 = .ok (.invokevirtual 224, 3) := by decide +kernel
theorem dX6_runOneJob_41 : decode cX6_runOneJob 41 = .ok (.iload_n 2, 1) := by decide +kernel
theorem dX6_runOneJob_42 : decode cX6_runOneJob 42 = .ok (.ireturn, 1) := by decide +kernel
theorem dX6_runOneJob_43 : decode cX6_runOneJob 43 = .ok (.iinc 1 1, 3) := by decide +kernel
theorem dX6_runOneJob_46 : decode cX6_runOneJob 46 = .ok (.goto (-44), 3) := by decide +kernel
theorem dX6_runOneJob_49 : decode cX6_runOneJob 49 = .ok (.iconst (-1), 1) := by decide +kernel
theorem dX6_runOneJob_50 : decode cX6_runOneJob 50 = .ok (.ireturn, 1) := by decide +kernel
theorem dX6_takeLocks_0 : decode cX6_takeLocks 0 = .ok (.aload_n 0, 1) := by decide +kernel
theorem dX6_takeLocks_1 : decode cX6_takeLocks 1 = .ok (.getfield 15, 3) := by decide +kernel
theorem dX6_takeLocks_4 : decode cX6_takeLocks 4 = .ok (.iload_n 1, 1) := by decide +kernel
theorem dX6_takeLocks_5 : decode cX6_takeLocks 5 = .ok (.aaload, 1) := by decide +kernel
theorem dX6_takeLocks_6 : decode cX6_takeLocks 6 = .ok (.getfield 75, 3) := by decide +kernel
theorem dX6_takeLocks_9 : decode cX6_takeLocks 9 = .ok (.astore_n 2, 1) := by decide +kernel
theorem dX6_takeLocks_10 : decode cX6_takeLocks 10 = .ok (.iconst 0, 1) := by decide +kernel
theorem dX6_takeLocks_11 : decode cX6_takeLocks 11 = .ok (.istore_n 3, 1) := by decide +kernel
theorem dX6_takeLocks_12 : decode cX6_takeLocks 12 = .ok (.iload_n 3, 1) := by decide +kernel
theorem dX6_takeLocks_13 : decode cX6_takeLocks 13 = .ok (.aload_n 0, 1) := by decide +kernel
theorem dX6_takeLocks_14 : decode cX6_takeLocks 14 = .ok (.getfield 35, 3) := by decide +kernel
theorem dX6_takeLocks_17 : decode cX6_takeLocks 17 = .ok (.getfield 179, 3) := by decide +kernel
theorem dX6_takeLocks_20 : decode cX6_takeLocks 20 = .ok (.if_icmp .ge 97, 3) := by decide +kernel
theorem dX6_takeLocks_23 : decode cX6_takeLocks 23 = .ok (.aload_n 0, 1) := by decide +kernel
theorem dX6_takeLocks_24 : decode cX6_takeLocks 24 = .ok (.getfield 35, 3) := by decide +kernel
theorem dX6_takeLocks_27 : decode cX6_takeLocks 27 = .ok (.getfield 227, 3) := by decide +kernel
theorem dX6_takeLocks_30 : decode cX6_takeLocks 30 = .ok (.iload_n 3, 1) := by decide +kernel
theorem dX6_takeLocks_31 : decode cX6_takeLocks 31 = .ok (.aaload, 1) := by decide +kernel
theorem dX6_takeLocks_32 : decode cX6_takeLocks 32 = .ok (.astore 4, 2) := by decide +kernel
theorem dX6_takeLocks_34 : decode cX6_takeLocks 34 = .ok (.aload 4, 2) := by decide +kernel
theorem dX6_takeLocks_36 : decode cX6_takeLocks 36 = .ok (.getfield 231, 3) := by decide +kernel
theorem dX6_takeLocks_39 : decode cX6_takeLocks 39 = .ok (.iload_n 1, 1) := by decide +kernel
theorem dX6_takeLocks_40 : decode cX6_takeLocks 40 = .ok (.if_icmp .ne 71, 3) := by decide +kernel
theorem dX6_takeLocks_43 : decode cX6_takeLocks 43 = .ok (.aload 4, 2) := by decide +kernel
theorem dX6_takeLocks_45 : decode cX6_takeLocks 45 = .ok (.getfield 234, 3) := by decide +kernel
theorem dX6_takeLocks_48 : decode cX6_takeLocks 48 = .ok (.aload_n 2, 1) := by decide +kernel
theorem dX6_takeLocks_49 : decode cX6_takeLocks 49 = .ok (.getfield 119, 3) := by decide +kernel
theorem dX6_takeLocks_52 : decode cX6_takeLocks 52 = .ok (.if_icmp .eq 6, 3) := by decide +kernel
theorem dX6_takeLocks_55 : decode cX6_takeLocks 55 = .ok (.goto 56, 3) := by decide +kernel
theorem dX6_takeLocks_58 : decode cX6_takeLocks 58 = .ok (.aload_n 0, 1) := by decide +kernel
theorem dX6_takeLocks_59 : decode cX6_takeLocks 59 = .ok (.getfield 20, 3) := by decide +kernel
theorem dX6_takeLocks_62 : decode cX6_takeLocks 62 = .ok (.aload 4, 2) := by decide +kernel
theorem dX6_takeLocks_64 : decode cX6_takeLocks 64 = .ok (.getfield 237, 3) := by decide +kernel
theorem dX6_takeLocks_67 : decode cX6_takeLocks 67 = .ok (.iaload, 1) := by decide +kernel
theorem dX6_takeLocks_68 : decode cX6_takeLocks 68 = .ok (.iconst (-1), 1) := by decide +kernel
theorem dX6_takeLocks_69 : decode cX6_takeLocks 69 = .ok (.if_icmp .ne 17, 3) := by decide +kernel
theorem dX6_takeLocks_72 : decode cX6_takeLocks 72 = .ok (.aload_n 0, 1) := by decide +kernel
theorem dX6_takeLocks_73 : decode cX6_takeLocks 73 = .ok (.getfield 20, 3) := by decide +kernel
theorem dX6_takeLocks_76 : decode cX6_takeLocks 76 = .ok (.aload 4, 2) := by decide +kernel
theorem dX6_takeLocks_78 : decode cX6_takeLocks 78 = .ok (.getfield 237, 3) := by decide +kernel
theorem dX6_takeLocks_81 : decode cX6_takeLocks 81 = .ok (.iload_n 1, 1) := by decide +kernel
theorem dX6_takeLocks_82 : decode cX6_takeLocks 82 = .ok (.iastore, 1) := by decide +kernel
theorem dX6_takeLocks_83 : decode cX6_takeLocks 83 = .ok (.goto 28, 3) := by decide +kernel
theorem dX6_takeLocks_86 : decode cX6_takeLocks 86 = .ok (.aload_n 0, 1) := by decide +kernel
theorem dX6_takeLocks_87 : decode cX6_takeLocks 87 = .ok (.getfield 20, 3) := by decide +kernel
theorem dX6_takeLocks_90 : decode cX6_takeLocks 90 = .ok (.aload 4, 2) := by decide +kernel
theorem dX6_takeLocks_92 : decode cX6_takeLocks 92 = .ok (.getfield 237, 3) := by decide +kernel
theorem dX6_takeLocks_95 : decode cX6_takeLocks 95 = .ok (.iaload, 1) := by decide +kernel
theorem dX6_takeLocks_96 : decode cX6_takeLocks 96 = .ok (.iload_n 1, 1) := by decide +kernel
theorem dX6_takeLocks_97 : decode cX6_takeLocks 97 = .ok (.if_icmp .eq 14, 3) := by decide +kernel
theorem dX6_takeLocks_100 : decode cX6_takeLocks 100 = .ok (.aload_n 2, 1) := by decide +kernel
theorem dX6_takeLocks_101 : decode cX6_takeLocks 101 = .ok (.aload 4, 2) := by decide +kernel
theorem dX6_takeLocks_103 : decode cX6_takeLocks 103 = .ok (.getfield 237, 3) := by decide +kernel
theorem dX6_takeLocks_106 : decode cX6_takeLocks 106 = .ok (.putfield 131, 3) := by decide +kernel
theorem dX6_takeLocks_109 : decode cX6_takeLocks 109 = .ok (.iconst 0, 1) := by decide +kernel
theorem dX6_takeLocks_110 : decode cX6_takeLocks 110 = .ok (.ireturn, 1) := by decide +kernel
theorem dX6_takeLocks_111 : decode cX6_takeLocks 111 = .ok (.iinc 3 1, 3) := by decide +kernel
theorem dX6_takeLocks_114 : decode cX6_takeLocks 114 = .ok (.goto (-102), 3) := by decide +kernel
theorem dX6_takeLocks_117 : decode cX6_takeLocks 117 = .ok (.iconst 1, 1) := by decide +kernel
theorem dX6_takeLocks_118 : decode cX6_takeLocks 118 = .ok (.ireturn, 1) := by decide +kernel
theorem dX6_workOneUnit_0 : decode cX6_workOneUnit 0 = .ok (.aload_n 0, 1) := by decide +kernel
theorem dX6_workOneUnit_1 : decode cX6_workOneUnit 1 = .ok (.getfield 15, 3) := by decide +kernel
theorem dX6_workOneUnit_4 : decode cX6_workOneUnit 4 = .ok (.iload_n 1, 1) := by decide +kernel
theorem dX6_workOneUnit_5 : decode cX6_workOneUnit 5 = .ok (.aaload, 1) := by decide +kernel
theorem dX6_workOneUnit_6 : decode cX6_workOneUnit 6 = .ok (.getfield 75, 3) := by decide +kernel
theorem dX6_workOneUnit_9 : decode cX6_workOneUnit 9 = .ok (.astore_n 2, 1) := by decide +kernel
theorem dX6_workOneUnit_10 : decode cX6_workOneUnit 10 = .ok (.aload_n 2, 1) := by decide +kernel
theorem dX6_workOneUnit_11 : decode cX6_workOneUnit 11 = .ok (.dup, 1) := by decide +kernel
theorem dX6_workOneUnit_12 : decode cX6_workOneUnit 12 = .ok (.getfield 119, 3) := by decide +kernel
theorem dX6_workOneUnit_15 : decode cX6_workOneUnit 15 = .ok (.iconst 1, 1) := by decide +kernel
theorem dX6_workOneUnit_16 : decode cX6_workOneUnit 16 = .ok (.iadd, 1) := by decide +kernel
theorem dX6_workOneUnit_17 : decode cX6_workOneUnit 17 = .ok (.putfield 119, 3) := by decide +kernel
theorem dX6_workOneUnit_20 : decode cX6_workOneUnit 20 = .ok (.aload_n 0, 1) := by decide +kernel
theorem dX6_workOneUnit_21 : decode cX6_workOneUnit 21 = .ok (.getfield 35, 3) := by decide +kernel
theorem dX6_workOneUnit_24 : decode cX6_workOneUnit 24 = .ok (.getfield 179, 3) := by decide +kernel
theorem dX6_workOneUnit_27 : decode cX6_workOneUnit 27 = .ok (.iconst 1, 1) := by decide +kernel
theorem dX6_workOneUnit_28 : decode cX6_workOneUnit 28 = .ok (.isub, 1) := by decide +kernel
theorem dX6_workOneUnit_29 : decode cX6_workOneUnit 29 = .ok (.istore_n 3, 1) := by decide +kernel
theorem dX6_workOneUnit_30 : decode cX6_workOneUnit 30 = .ok (.iload_n 3, 1) := by decide +kernel
theorem dX6_workOneUnit_31 : decode cX6_workOneUnit 31 = .ok (.ifCond .lt 50, 3) := by decide +kernel
theorem dX6_workOneUnit_34 : decode cX6_workOneUnit 34 = .ok (.aload_n 0, 1) := by decide +kernel
theorem dX6_workOneUnit_35 : decode cX6_workOneUnit 35 = .ok (.getfield 35, 3) := by decide +kernel
theorem dX6_workOneUnit_38 : decode cX6_workOneUnit 38 = .ok (.getfield 227, 3) := by decide +kernel
theorem dX6_workOneUnit_41 : decode cX6_workOneUnit 41 = .ok (.iload_n 3, 1) := by decide +kernel
theorem dX6_workOneUnit_42 : decode cX6_workOneUnit 42 = .ok (.aaload, 1) := by decide +kernel
theorem dX6_workOneUnit_43 : decode cX6_workOneUnit 43 = .ok (.astore 4, 2) := by decide +kernel
theorem dX6_workOneUnit_45 : decode cX6_workOneUnit 45 = .ok (.aload 4, 2) := by decide +kernel
theorem dX6_workOneUnit_47 : decode cX6_workOneUnit 47 = .ok (.getfield 231, 3) := by decide +kernel
theorem dX6_workOneUnit_50 : decode cX6_workOneUnit 50 = .ok (.iload_n 1, 1) := by decide +kernel
theorem dX6_workOneUnit_51 : decode cX6_workOneUnit 51 = .ok (.if_icmp .ne 24, 3) := by decide +kernel
theorem dX6_workOneUnit_54 : decode cX6_workOneUnit 54 = .ok (.aload 4, 2) := by decide +kernel
theorem dX6_workOneUnit_56 : decode cX6_workOneUnit 56 = .ok (.getfield 240, 3) := by decide +kernel
theorem dX6_workOneUnit_59 : decode cX6_workOneUnit 59 = .ok (.aload_n 2, 1) := by decide +kernel
theorem dX6_workOneUnit_60 : decode cX6_workOneUnit 60 = .ok (.getfield 119, 3) := by decide +kernel
theorem dX6_workOneUnit_63 : decode cX6_workOneUnit 63 = .ok (.if_icmp .ne 12, 3) := by decide +kernel
theorem dX6_workOneUnit_66 : decode cX6_workOneUnit 66 = .ok (.aload_n 0, 1) := by decide +kernel
theorem dX6_workOneUnit_67 : decode cX6_workOneUnit 67 = .ok (.aload 4, 2) := by decide +kernel
theorem dX6_workOneUnit_69 : decode cX6_workOneUnit 69 = .ok (.getfield 237, 3) := by decide +kernel
theorem dX6_workOneUnit_72 : decode cX6_workOneUnit 72 = .ok (.invokevirtual 243, 3) := by decide +kernel
theorem dX6_workOneUnit_75 : decode cX6_workOneUnit 75 = .ok (.iinc 3 (-1), 3) := by decide +kernel
theorem dX6_workOneUnit_78 : decode cX6_workOneUnit 78 = .ok (.goto (-48), 3) := by decide +kernel
theorem dX6_workOneUnit_81 : decode cX6_workOneUnit 81 = .ok (.aload_n 2, 1) := by decide +kernel
theorem dX6_workOneUnit_82 : decode cX6_workOneUnit 82 = .ok (.getfield 119, 3) := by decide +kernel
theorem dX6_workOneUnit_85 : decode cX6_workOneUnit 85 = .ok (.aload_n 0, 1) := by decide +kernel
theorem dX6_workOneUnit_86 : decode cX6_workOneUnit 86 = .ok (.getfield 15, 3) := by decide +kernel
theorem dX6_workOneUnit_89 : decode cX6_workOneUnit 89 = .ok (.iload_n 1, 1) := by decide +kernel
theorem dX6_workOneUnit_90 : decode cX6_workOneUnit 90 = .ok (.aaload, 1) := by decide +kernel
theorem dX6_workOneUnit_91 : decode cX6_workOneUnit 91 = .ok (.getfield 84, 3) := by decide +kernel
theorem dX6_workOneUnit_94 : decode cX6_workOneUnit 94 = .ok (.if_icmp .ne 18, 3) := by decide +kernel
theorem dX6_workOneUnit_97 : decode cX6_workOneUnit 97 = .ok (.aload_n 0, 1) := by decide +kernel
theorem dX6_workOneUnit_98 : decode cX6_workOneUnit 98 = .ok (.getfield 15, 3) := by decide +kernel
theorem dX6_workOneUnit_101 : decode cX6_workOneUnit 101 = .ok (.iload_n 1, 1) := by decide +kernel
theorem dX6_workOneUnit_102 : decode cX6_workOneUnit 102 = .ok (.aaload, 1) := by decide +kernel
theorem dX6_workOneUnit_103 : decode cX6_workOneUnit 103 = .ok (.aload_n 0, 1) := by decide +kernel
theorem dX6_workOneUnit_104 : decode cX6_workOneUnit 104 = .ok (.getfield 61, 3) := by decide +kernel
theorem dX6_workOneUnit_107 : decode cX6_workOneUnit 107 = .ok (.iconst 1, 1) := by decide +kernel
theorem dX6_workOneUnit_108 : decode cX6_workOneUnit 108 = .ok (.iadd, 1) := by decide +kernel
theorem dX6_workOneUnit_109 : decode cX6_workOneUnit 109 = .ok (.invokevirtual 246, 3) := by decide +kernel
theorem dX6_workOneUnit_112 : decode cX6_workOneUnit 112 = .ok (.return_, 1) := by decide +kernel
theorem dX6_letGo_0 : decode cX6_letGo 0 = .ok (.aload_n 0, 1) := by decide +kernel
theorem dX6_letGo_1 : decode cX6_letGo 1 = .ok (.getfield 20, 3) := by decide +kernel
theorem dX6_letGo_4 : decode cX6_letGo 4 = .ok (.iload_n 1, 1) := by decide +kernel
theorem dX6_letGo_5 : decode cX6_letGo 5 = .ok (.iconst (-1), 1) := by decide +kernel
theorem dX6_letGo_6 : decode cX6_letGo 6 = .ok (.iastore, 1) := by decide +kernel
theorem dX6_letGo_7 : decode cX6_letGo 7 = .ok (.aload_n 0, 1) := by decide +kernel
theorem dX6_letGo_8 : decode cX6_letGo 8 = .ok (.invokevirtual 125, 3) := by decide +kernel
theorem dX6_letGo_11 : decode cX6_letGo 11 = .ok (.aload_n 0, 1) := by decide +kernel
theorem dX6_letGo_12 : decode cX6_letGo 12 = .ok (.iload_n 1, 1) := by decide +kernel
theorem dX6_letGo_13 : decode cX6_letGo 13 = .ok (.invokevirtual 218, 3) := by decide +kernel
theorem dX6_letGo_16 : decode cX6_letGo 16 = .ok (.istore_n 2, 1) := by decide +kernel
theorem dX6_letGo_17 : decode cX6_letGo 17 = .ok (.iload_n 2, 1) := by decide +kernel
theorem dX6_letGo_18 : decode cX6_letGo 18 = .ok (.iconst (-1), 1) := by decide +kernel
theorem dX6_letGo_19 : decode cX6_letGo 19 = .ok (.if_icmp .eq 23, 3) := by decide +kernel
theorem dX6_letGo_22 : decode cX6_letGo 22 = .ok (.aload_n 0, 1) := by decide +kernel
theorem dX6_letGo_23 : decode cX6_letGo 23 = .ok (.getfield 20, 3) := by decide +kernel
theorem dX6_letGo_26 : decode cX6_letGo 26 = .ok (.iload_n 1, 1) := by decide +kernel
theorem dX6_letGo_27 : decode cX6_letGo 27 = .ok (.iload_n 2, 1) := by decide +kernel
theorem dX6_letGo_28 : decode cX6_letGo 28 = .ok (.iastore, 1) := by decide +kernel
theorem dX6_letGo_29 : decode cX6_letGo 29 = .ok (.aload_n 0, 1) := by decide +kernel
theorem dX6_letGo_30 : decode cX6_letGo 30 = .ok (.getfield 15, 3) := by decide +kernel
theorem dX6_letGo_33 : decode cX6_letGo 33 = .ok (.iload_n 2, 1) := by decide +kernel
theorem dX6_letGo_34 : decode cX6_letGo 34 = .ok (.aaload, 1) := by decide +kernel
theorem dX6_letGo_35 : decode cX6_letGo 35 = .ok (.getfield 75, 3) := by decide +kernel
theorem dX6_letGo_38 : decode cX6_letGo 38 = .ok (.iconst (-1), 1) := by decide +kernel
theorem dX6_letGo_39 : decode cX6_letGo 39 = .ok (.putfield 131, 3) := by decide +kernel
theorem dX6_letGo_42 : decode cX6_letGo 42 = .ok (.return_, 1) := by decide +kernel
theorem dX6_dropJob_0 : decode cX6_dropJob 0 = .ok (.aload_n 0, 1) := by decide +kernel
theorem dX6_dropJob_1 : decode cX6_dropJob 1 = .ok (.getfield 15, 3) := by decide +kernel
theorem dX6_dropJob_4 : decode cX6_dropJob 4 = .ok (.iload_n 1, 1) := by decide +kernel
theorem dX6_dropJob_5 : decode cX6_dropJob 5 = .ok (.aaload, 1) := by decide +kernel
theorem dX6_dropJob_6 : decode cX6_dropJob 6 = .ok (.getfield 75, 3) := by decide +kernel
theorem dX6_dropJob_9 : decode cX6_dropJob 9 = .ok (.iconst 0, 1) := by decide +kernel
theorem dX6_dropJob_10 : decode cX6_dropJob 10 = .ok (.putfield 79, 3) := by decide +kernel
theorem dX6_dropJob_13 : decode cX6_dropJob 13 = .ok (.aload_n 0, 1) := by decide +kernel
theorem dX6_dropJob_14 : decode cX6_dropJob 14 = .ok (.getfield 15, 3) := by decide +kernel
theorem dX6_dropJob_17 : decode cX6_dropJob 17 = .ok (.iload_n 1, 1) := by decide +kernel
theorem dX6_dropJob_18 : decode cX6_dropJob 18 = .ok (.aaload, 1) := by decide +kernel
theorem dX6_dropJob_19 : decode cX6_dropJob 19 = .ok (.getfield 75, 3) := by decide +kernel
theorem dX6_dropJob_22 : decode cX6_dropJob 22 = .ok (.iconst (-1), 1) := by decide +kernel
theorem dX6_dropJob_23 : decode cX6_dropJob 23 = .ok (.putfield 131, 3) := by decide +kernel
theorem dX6_dropJob_26 : decode cX6_dropJob 26 = .ok (.iconst 0, 1) := by decide +kernel
theorem dX6_dropJob_27 : decode cX6_dropJob 27 = .ok (.istore_n 2, 1) := by decide +kernel
theorem dX6_dropJob_28 : decode cX6_dropJob 28 = .ok (.iload_n 2, 1) := by decide +kernel
theorem dX6_dropJob_29 : decode cX6_dropJob 29 = .ok (.aload_n 0, 1) := by decide +kernel
theorem dX6_dropJob_30 : decode cX6_dropJob 30 = .ok (.getfield 20, 3) := by decide +kernel
theorem dX6_dropJob_33 : decode cX6_dropJob 33 = .ok (.arraylength, 1) := by decide +kernel
theorem dX6_dropJob_34 : decode cX6_dropJob 34 = .ok (.if_icmp .ge 24, 3) := by decide +kernel
theorem dX6_dropJob_37 : decode cX6_dropJob 37 = .ok (.aload_n 0, 1) := by decide +kernel
theorem dX6_dropJob_38 : decode cX6_dropJob 38 = .ok (.getfield 20, 3) := by decide +kernel
theorem dX6_dropJob_41 : decode cX6_dropJob 41 = .ok (.iload_n 2, 1) := by decide +kernel
theorem dX6_dropJob_42 : decode cX6_dropJob 42 = .ok (.iaload, 1) := by decide +kernel
theorem dX6_dropJob_43 : decode cX6_dropJob 43 = .ok (.iload_n 1, 1) := by decide +kernel
theorem dX6_dropJob_44 : decode cX6_dropJob 44 = .ok (.if_icmp .ne 8, 3) := by decide +kernel
theorem dX6_dropJob_47 : decode cX6_dropJob 47 = .ok (.aload_n 0, 1) := by decide +kernel
theorem dX6_dropJob_48 : decode cX6_dropJob 48 = .ok (.iload_n 2, 1) := by decide +kernel
theorem dX6_dropJob_49 : decode cX6_dropJob 49 = .ok (.invokevirtual 243, 3) := by decide +kernel
theorem dX6_dropJob_52 : decode cX6_dropJob 52 = .ok (.iinc 2 1, 3) := by decide +kernel
theorem dX6_dropJob_55 : decode cX6_dropJob 55 = .ok (.goto (-27), 3) := by decide +kernel
theorem dX6_dropJob_58 : decode cX6_dropJob 58 = .ok (.return_, 1) := by decide +kernel
theorem dX6_aheadOfAll_0 : decode cX6_aheadOfAll 0 = .ok (.iconst (-1), 1) := by decide +kernel
theorem dX6_aheadOfAll_1 : decode cX6_aheadOfAll 1 = .ok (.istore_n 2, 1) := by decide +kernel
theorem dX6_aheadOfAll_2 : decode cX6_aheadOfAll 2 = .ok (.iconst 0, 1) := by decide +kernel
theorem dX6_aheadOfAll_3 : decode cX6_aheadOfAll 3 = .ok (.istore_n 3, 1) := by decide +kernel
theorem dX6_aheadOfAll_4 : decode cX6_aheadOfAll 4 = .ok (.iload_n 3, 1) := by decide +kernel
theorem dX6_aheadOfAll_5 : decode cX6_aheadOfAll 5 = .ok (.aload_n 0, 1) := by decide +kernel
theorem dX6_aheadOfAll_6 : decode cX6_aheadOfAll 6 = .ok (.getfield 15, 3) := by decide +kernel
theorem dX6_aheadOfAll_9 : decode cX6_aheadOfAll 9 = .ok (.arraylength, 1) := by decide +kernel
theorem dX6_aheadOfAll_10 : decode cX6_aheadOfAll 10 = .ok (.if_icmp .ge 67, 3) := by decide +kernel
theorem dX6_aheadOfAll_13 : decode cX6_aheadOfAll 13 = .ok (.aload_n 0, 1) := by decide +kernel
theorem dX6_aheadOfAll_14 : decode cX6_aheadOfAll 14 = .ok (.getfield 15, 3) := by decide +kernel
theorem dX6_aheadOfAll_17 : decode cX6_aheadOfAll 17 = .ok (.iload_n 3, 1) := by decide +kernel
theorem dX6_aheadOfAll_18 : decode cX6_aheadOfAll 18 = .ok (.aaload, 1) := by decide +kernel
theorem dX6_aheadOfAll_19 : decode cX6_aheadOfAll 19 = .ok (.getfield 75, 3) := by decide +kernel
theorem dX6_aheadOfAll_22 : decode cX6_aheadOfAll 22 = .ok (.astore 4, 2) := by decide +kernel
theorem dX6_aheadOfAll_24 : decode cX6_aheadOfAll 24 = .ok (.aload 4, 2) := by decide +kernel
theorem dX6_aheadOfAll_26 : decode cX6_aheadOfAll 26 = .ok (.getfield 79, 3) := by decide +kernel
theorem dX6_aheadOfAll_29 : decode cX6_aheadOfAll 29 = .ok (.ifCond .eq 42, 3) := by decide +kernel
theorem dX6_aheadOfAll_32 : decode cX6_aheadOfAll 32 = .ok (.aload 4, 2) := by decide +kernel
theorem dX6_aheadOfAll_34 : decode cX6_aheadOfAll 34 = .ok (.getfield 131, 3) := by decide +kernel
theorem dX6_aheadOfAll_37 : decode cX6_aheadOfAll 37 = .ok (.iload_n 1, 1) := by decide +kernel
theorem dX6_aheadOfAll_38 : decode cX6_aheadOfAll 38 = .ok (.if_icmp .eq 6, 3) := by decide +kernel
theorem dX6_aheadOfAll_41 : decode cX6_aheadOfAll 41 = .ok (.goto 30, 3) := by decide +kernel
theorem dX6_aheadOfAll_44 : decode cX6_aheadOfAll 44 = .ok (.iload_n 2, 1) := by decide +kernel
theorem dX6_aheadOfAll_45 : decode cX6_aheadOfAll 45 = .ok (.iconst (-1), 1) := by decide +kernel
theorem dX6_aheadOfAll_46 : decode cX6_aheadOfAll 46 = .ok (.if_icmp .eq 23, 3) := by decide +kernel
theorem dX6_aheadOfAll_49 : decode cX6_aheadOfAll 49 = .ok (.aload 4, 2) := by decide +kernel
theorem dX6_aheadOfAll_51 : decode cX6_aheadOfAll 51 = .ok (.getfield 128, 3) := by decide +kernel
theorem dX6_aheadOfAll_54 : decode cX6_aheadOfAll 54 = .ok (.aload_n 0, 1) := by decide +kernel
theorem dX6_aheadOfAll_55 : decode cX6_aheadOfAll 55 = .ok (.getfield 15, 3) := by decide +kernel
theorem dX6_aheadOfAll_58 : decode cX6_aheadOfAll 58 = .ok (.iload_n 2, 1) := by decide +kernel
theorem dX6_aheadOfAll_59 : decode cX6_aheadOfAll 59 = .ok (.aaload, 1) := by decide +kernel
theorem dX6_aheadOfAll_60 : decode cX6_aheadOfAll 60 = .ok (.getfield 75, 3) := by decide +kernel
theorem dX6_aheadOfAll_63 : decode cX6_aheadOfAll 63 = .ok (.getfield 128, 3) := by decide +kernel
theorem dX6_aheadOfAll_66 : decode cX6_aheadOfAll 66 = .ok (.if_icmp .ge 5, 3) := by decide +kernel
theorem dX6_aheadOfAll_69 : decode cX6_aheadOfAll 69 = .ok (.iload_n 3, 1) := by decide +kernel
theorem dX6_aheadOfAll_70 : decode cX6_aheadOfAll 70 = .ok (.istore_n 2, 1) := by decide +kernel
theorem dX6_aheadOfAll_71 : decode cX6_aheadOfAll 71 = .ok (.iinc 3 1, 3) := by decide +kernel
theorem dX6_aheadOfAll_74 : decode cX6_aheadOfAll 74 = .ok (.goto (-70), 3) := by decide +kernel
theorem dX6_aheadOfAll_77 : decode cX6_aheadOfAll 77 = .ok (.iload_n 2, 1) := by decide +kernel
theorem dX6_aheadOfAll_78 : decode cX6_aheadOfAll 78 = .ok (.ireturn, 1) := by decide +kernel
theorem dX6_inheritDeadlines_0 : decode cX6_inheritDeadlines 0 = .ok (.aload_n 0, 1) := by decide +kernel
theorem dX6_inheritDeadlines_1 : decode cX6_inheritDeadlines 1 = .ok (.getfield 15, 3) := by decide +kernel
theorem dX6_inheritDeadlines_4 : decode cX6_inheritDeadlines 4 = .ok (.astore_n 1, 1) := by decide +kernel
theorem dX6_inheritDeadlines_5 : decode cX6_inheritDeadlines 5 = .ok (.aload_n 1, 1) := by decide +kernel
theorem dX6_inheritDeadlines_6 : decode cX6_inheritDeadlines 6 = .ok (.arraylength, 1) := by decide +kernel
theorem dX6_inheritDeadlines_7 : decode cX6_inheritDeadlines 7 = .ok (.istore_n 2, 1) := by decide +kernel
theorem dX6_inheritDeadlines_8 : decode cX6_inheritDeadlines 8 = .ok (.iconst 0, 1) := by decide +kernel
theorem dX6_inheritDeadlines_9 : decode cX6_inheritDeadlines 9 = .ok (.istore_n 3, 1) := by decide +kernel
theorem dX6_inheritDeadlines_10 : decode cX6_inheritDeadlines 10 = .ok (.iload_n 3, 1) := by decide +kernel
theorem dX6_inheritDeadlines_11 : decode cX6_inheritDeadlines 11 = .ok (.iload_n 2, 1) := by decide +kernel
theorem dX6_inheritDeadlines_12 : decode cX6_inheritDeadlines 12 = .ok (.if_icmp .ge 30, 3) := by decide +kernel
theorem dX6_inheritDeadlines_15 : decode cX6_inheritDeadlines 15 = .ok (.aload_n 1, 1) := by decide +kernel
theorem dX6_inheritDeadlines_16 : decode cX6_inheritDeadlines 16 = .ok (.iload_n 3, 1) := by decide +kernel
theorem dX6_inheritDeadlines_17 : decode cX6_inheritDeadlines 17 = .ok (.aaload, 1) := by decide +kernel
theorem dX6_inheritDeadlines_18 : decode cX6_inheritDeadlines 18 = .ok (.astore 4, 2) := by decide +kernel
theorem dX6_inheritDeadlines_20 : decode cX6_inheritDeadlines 20 = .ok (.aload 4, 2) := by decide +kernel
theorem dX6_inheritDeadlines_22 : decode cX6_inheritDeadlines 22 = .ok (.getfield 75, 3) := by decide +kernel
theorem dX6_inheritDeadlines_25 : decode cX6_inheritDeadlines 25 = .ok (.aload 4, 2) := by decide +kernel
theorem dX6_inheritDeadlines_27 : decode cX6_inheritDeadlines 27 = .ok (.getfield 75, 3) := by decide +kernel
theorem dX6_inheritDeadlines_30 : decode cX6_inheritDeadlines 30 = .ok (.getfield 122, 3) := by decide +kernel
theorem dX6_inheritDeadlines_33 : decode cX6_inheritDeadlines 33 = .ok (.putfield 128, 3) := by decide +kernel
theorem dX6_inheritDeadlines_36 : decode cX6_inheritDeadlines 36 = .ok (.iinc 3 1, 3) := by decide +kernel
theorem dX6_inheritDeadlines_39 : decode cX6_inheritDeadlines 39 = .ok (.goto (-29), 3) := by decide +kernel
theorem dX6_inheritDeadlines_42 : decode cX6_inheritDeadlines 42 = .ok (.iconst 0, 1) := by decide +kernel
theorem dX6_inheritDeadlines_43 : decode cX6_inheritDeadlines 43 = .ok (.istore_n 1, 1) := by decide +kernel
theorem dX6_inheritDeadlines_44 : decode cX6_inheritDeadlines 44 = .ok (.iload_n 1, 1) := by decide +kernel
theorem dX6_inheritDeadlines_45 : decode cX6_inheritDeadlines 45 = .ok (.aload_n 0, 1) := by decide +kernel
theorem dX6_inheritDeadlines_46 : decode cX6_inheritDeadlines 46 = .ok (.getfield 15, 3) := by decide +kernel
theorem dX6_inheritDeadlines_49 : decode cX6_inheritDeadlines 49 = .ok (.arraylength, 1) := by decide +kernel
theorem dX6_inheritDeadlines_50 : decode cX6_inheritDeadlines 50 = .ok (.if_icmp .ge 83, 3) := by decide +kernel
theorem dX6_inheritDeadlines_53 : decode cX6_inheritDeadlines 53 = .ok (.aload_n 0, 1) := by decide +kernel
theorem dX6_inheritDeadlines_54 : decode cX6_inheritDeadlines 54 = .ok (.getfield 15, 3) := by decide +kernel
theorem dX6_inheritDeadlines_57 : decode cX6_inheritDeadlines 57 = .ok (.iload_n 1, 1) := by decide +kernel
theorem dX6_inheritDeadlines_58 : decode cX6_inheritDeadlines 58 = .ok (.aaload, 1) := by decide +kernel
theorem dX6_inheritDeadlines_59 : decode cX6_inheritDeadlines 59 = .ok (.getfield 75, 3) := by decide +kernel
theorem dX6_inheritDeadlines_62 : decode cX6_inheritDeadlines 62 = .ok (.getfield 122, 3) := by decide +kernel
theorem dX6_inheritDeadlines_65 : decode cX6_inheritDeadlines 65 = .ok (.istore_n 2, 1) := by decide +kernel
theorem dX6_inheritDeadlines_66 : decode cX6_inheritDeadlines 66 = .ok (.aload_n 0, 1) := by decide +kernel
theorem dX6_inheritDeadlines_67 : decode cX6_inheritDeadlines 67 = .ok (.iload_n 1, 1) := by decide +kernel
theorem dX6_inheritDeadlines_68 : decode cX6_inheritDeadlines 68 = .ok (.invokevirtual 249, 3) := by decide +kernel
theorem dX6_inheritDeadlines_71 : decode cX6_inheritDeadlines 71 = .ok (.istore_n 3, 1) := by decide +kernel
theorem dX6_inheritDeadlines_72 : decode cX6_inheritDeadlines 72 = .ok (.iconst 0, 1) := by decide +kernel
theorem dX6_inheritDeadlines_73 : decode cX6_inheritDeadlines 73 = .ok (.istore 4, 2) := by decide +kernel
theorem dX6_inheritDeadlines_75 : decode cX6_inheritDeadlines 75 = .ok (.iload 4, 2) := by decide +kernel
theorem dX6_inheritDeadlines_77 : decode cX6_inheritDeadlines 77 = .ok (.aload_n 0, 1) := by decide +kernel
theorem dX6_inheritDeadlines_78 : decode cX6_inheritDeadlines 78 = .ok (.getfield 15, 3) := by decide +kernel
theorem dX6_inheritDeadlines_81 : decode cX6_inheritDeadlines 81 = .ok (.arraylength, 1) := by decide +kernel
theorem dX6_inheritDeadlines_82 : decode cX6_inheritDeadlines 82 = .ok (.if_icmp .ge 45, 3) := by decide +kernel
theorem dX6_inheritDeadlines_85 : decode cX6_inheritDeadlines 85 = .ok (.iload_n 3, 1) := by decide +kernel
theorem dX6_inheritDeadlines_86 : decode cX6_inheritDeadlines 86 = .ok (.iconst (-1), 1) := by decide +kernel
theorem dX6_inheritDeadlines_87 : decode cX6_inheritDeadlines 87 = .ok (.if_icmp .eq 40, 3) := by decide +kernel
theorem dX6_inheritDeadlines_90 : decode cX6_inheritDeadlines 90 = .ok (.aload_n 0, 1) := by decide +kernel
theorem dX6_inheritDeadlines_91 : decode cX6_inheritDeadlines 91 = .ok (.getfield 15, 3) := by decide +kernel
theorem dX6_inheritDeadlines_94 : decode cX6_inheritDeadlines 94 = .ok (.iload_n 3, 1) := by decide +kernel
theorem dX6_inheritDeadlines_95 : decode cX6_inheritDeadlines 95 = .ok (.aaload, 1) := by decide +kernel
theorem dX6_inheritDeadlines_96 : decode cX6_inheritDeadlines 96 = .ok (.getfield 75, 3) := by decide +kernel
theorem dX6_inheritDeadlines_99 : decode cX6_inheritDeadlines 99 = .ok (.astore 5, 2) := by decide +kernel
theorem dX6_inheritDeadlines_101 : decode cX6_inheritDeadlines 101 = .ok (.aload 5, 2) := by decide +kernel
theorem dX6_inheritDeadlines_103 : decode cX6_inheritDeadlines 103 = .ok (.aload 5, 2) := by decide +kernel
theorem dX6_inheritDeadlines_105 : decode cX6_inheritDeadlines 105 = .ok (.getfield 128, 3) := by decide +kernel
theorem dX6_inheritDeadlines_108 : decode cX6_inheritDeadlines 108 = .ok (.iload_n 2, 1) := by decide +kernel
theorem dX6_inheritDeadlines_109 : decode cX6_inheritDeadlines 109 = .ok (.invokestatic 188, 3) := by decide +kernel
theorem dX6_inheritDeadlines_112 : decode cX6_inheritDeadlines 112 = .ok (.putfield 128, 3) := by decide +kernel
theorem dX6_inheritDeadlines_115 : decode cX6_inheritDeadlines 115 = .ok (.aload_n 0, 1) := by decide +kernel
theorem dX6_inheritDeadlines_116 : decode cX6_inheritDeadlines 116 = .ok (.iload_n 3, 1) := by decide +kernel
theorem dX6_inheritDeadlines_117 : decode cX6_inheritDeadlines 117 = .ok (.invokevirtual 249, 3) := by decide +kernel
theorem dX6_inheritDeadlines_120 : decode cX6_inheritDeadlines 120 = .ok (.istore_n 3, 1) := by decide +kernel
theorem dX6_inheritDeadlines_121 : decode cX6_inheritDeadlines 121 = .ok (.iinc 4 1, 3) := by decide +kernel
theorem dX6_inheritDeadlines_124 : decode cX6_inheritDeadlines 124 = .ok (.goto (-49), 3) := by decide +kernel
theorem dX6_inheritDeadlines_127 : decode cX6_inheritDeadlines 127 = .ok (.iinc 1 1, 3) := by decide +kernel
theorem dX6_inheritDeadlines_130 : decode cX6_inheritDeadlines 130 = .ok (.goto (-86), 3) := by decide +kernel
theorem dX6_inheritDeadlines_133 : decode cX6_inheritDeadlines 133 = .ok (.return_, 1) := by decide +kernel
theorem dX6_holderAwaitedBy_0 : decode cX6_holderAwaitedBy 0 = .ok (.aload_n 0, 1) := by decide +kernel
theorem dX6_holderAwaitedBy_1 : decode cX6_holderAwaitedBy 1 = .ok (.getfield 15, 3) := by decide +kernel
theorem dX6_holderAwaitedBy_4 : decode cX6_holderAwaitedBy 4 = .ok (.iload_n 1, 1) := by decide +kernel
theorem dX6_holderAwaitedBy_5 : decode cX6_holderAwaitedBy 5 = .ok (.aaload, 1) := by decide +kernel
theorem dX6_holderAwaitedBy_6 : decode cX6_holderAwaitedBy 6 = .ok (.getfield 75, 3) := by decide +kernel
theorem dX6_holderAwaitedBy_9 : decode cX6_holderAwaitedBy 9 = .ok (.getfield 131, 3) := by decide +kernel
theorem dX6_holderAwaitedBy_12 : decode cX6_holderAwaitedBy 12 = .ok (.istore_n 2, 1) := by decide +kernel
theorem dX6_holderAwaitedBy_13 : decode cX6_holderAwaitedBy 13 = .ok (.iload_n 2, 1) := by decide +kernel
theorem dX6_holderAwaitedBy_14 : decode cX6_holderAwaitedBy 14 = .ok (.iconst (-1), 1) := by decide +kernel
theorem dX6_holderAwaitedBy_15 : decode cX6_holderAwaitedBy 15 = .ok (.if_icmp .ne 7, 3) := by decide +kernel
theorem dX6_holderAwaitedBy_18 : decode cX6_holderAwaitedBy 18 = .ok (.iconst (-1), 1) := by decide +kernel
theorem dX6_holderAwaitedBy_19 : decode cX6_holderAwaitedBy 19 = .ok (.goto 9, 3) := by decide +kernel
theorem dX6_holderAwaitedBy_22 : decode cX6_holderAwaitedBy 22 = .ok (.aload_n 0, 1) := by decide +kernel
theorem dX6_holderAwaitedBy_23 : decode cX6_holderAwaitedBy 23 = .ok (.getfield 20, 3) := by decide +kernel
theorem dX6_holderAwaitedBy_26 : decode cX6_holderAwaitedBy 26 = .ok (.iload_n 2, 1) := by decide +kernel
theorem dX6_holderAwaitedBy_27 : decode cX6_holderAwaitedBy 27 = .ok (.iaload, 1) := by decide +kernel
theorem dX6_holderAwaitedBy_28 : decode cX6_holderAwaitedBy 28 = .ok (.ireturn, 1) := by decide +kernel
theorem dX6_countWaitsAndPutBys_0 : decode cX6_countWaitsAndPutBys 0 = .ok (.iconst 0, 1) := by decide +kernel
theorem dX6_countWaitsAndPutBys_1 : decode cX6_countWaitsAndPutBys 1 = .ok (.istore_n 2, 1) := by decide +kernel
theorem dX6_countWaitsAndPutBys_2 : decode cX6_countWaitsAndPutBys 2 = .ok (.iload_n 2, 1) := by decide +kernel
theorem dX6_countWaitsAndPutBys_3 : decode cX6_countWaitsAndPutBys 3 = .ok (.aload_n 0, 1) := by decide +kernel
theorem dX6_countWaitsAndPutBys_4 : decode cX6_countWaitsAndPutBys 4 = .ok (.getfield 15, 3) := by decide +kernel
theorem dX6_countWaitsAndPutBys_7 : decode cX6_countWaitsAndPutBys 7 = .ok (.arraylength, 1) := by decide +kernel
theorem dX6_countWaitsAndPutBys_8 : decode cX6_countWaitsAndPutBys 8 = .ok (.if_icmp .ge 109, 3) := by decide +kernel
theorem dX6_countWaitsAndPutBys_11 : decode cX6_countWaitsAndPutBys 11 = .ok (.aload_n 0, 1) := by decide +kernel
theorem dX6_countWaitsAndPutBys_12 : decode cX6_countWaitsAndPutBys 12 = .ok (.getfield 15, 3) := by decide +kernel
theorem dX6_countWaitsAndPutBys_15 : decode cX6_countWaitsAndPutBys 15 = .ok (.iload_n 2, 1) := by decide +kernel
theorem dX6_countWaitsAndPutBys_16 : decode cX6_countWaitsAndPutBys 16 = .ok (.aaload, 1) := by decide +kernel
theorem dX6_countWaitsAndPutBys_17 : decode cX6_countWaitsAndPutBys 17 = .ok (.getfield 75, 3) := by decide +kernel
theorem dX6_countWaitsAndPutBys_20 : decode cX6_countWaitsAndPutBys 20 = .ok (.astore_n 3, 1) := by decide +kernel
theorem dX6_countWaitsAndPutBys_21 : decode cX6_countWaitsAndPutBys 21 = .ok (.iload_n 2, 1) := by decide +kernel
theorem dX6_countWaitsAndPutBys_22 : decode cX6_countWaitsAndPutBys 22 = .ok (.iload_n 1, 1) := by decide +kernel
theorem dX6_countWaitsAndPutBys_23 : decode cX6_countWaitsAndPutBys 23 = .ok (.if_icmp .ne 7, 3) := by decide +kernel
theorem dX6_countWaitsAndPutBys_26 : decode cX6_countWaitsAndPutBys 26 = .ok (.iconst 1, 1) := by decide +kernel
theorem dX6_countWaitsAndPutBys_27 : decode cX6_countWaitsAndPutBys 27 = .ok (.goto 4, 3) := by decide +kernel
theorem dX6_countWaitsAndPutBys_30 : decode cX6_countWaitsAndPutBys 30 = .ok (.iconst 0, 1) := by decide +kernel
theorem dX6_countWaitsAndPutBys_31 : decode cX6_countWaitsAndPutBys 31 = .ok (.istore 4, 2) := by decide +kernel
theorem dX6_countWaitsAndPutBys_33 : decode cX6_countWaitsAndPutBys 33 = .ok (.aload_n 3, 1) := by decide +kernel
theorem dX6_countWaitsAndPutBys_34 : decode cX6_countWaitsAndPutBys 34 = .ok (.getfield 79, 3) := by decide +kernel
theorem dX6_countWaitsAndPutBys_37 : decode cX6_countWaitsAndPutBys 37 = .ok (.ifCond .eq 29, 3) := by decide +kernel
theorem dX6_countWaitsAndPutBys_40 : decode cX6_countWaitsAndPutBys 40 = .ok (.aload_n 3, 1) := by decide +kernel
theorem dX6_countWaitsAndPutBys_41 : decode cX6_countWaitsAndPutBys 41 = .ok (.getfield 131, 3) := by decide +kernel
theorem dX6_countWaitsAndPutBys_44 : decode cX6_countWaitsAndPutBys 44 = .ok (.iconst (-1), 1) := by decide +kernel
theorem dX6_countWaitsAndPutBys_45 : decode cX6_countWaitsAndPutBys 45 = .ok (.if_icmp .eq 21, 3) := by decide +kernel
theorem dX6_countWaitsAndPutBys_48 : decode cX6_countWaitsAndPutBys 48 = .ok (.aload_n 0, 1) := by decide +kernel
theorem dX6_countWaitsAndPutBys_49 : decode cX6_countWaitsAndPutBys 49 = .ok (.getfield 15, 3) := by decide +kernel
theorem dX6_countWaitsAndPutBys_52 : decode cX6_countWaitsAndPutBys 52 = .ok (.iload_n 2, 1) := by decide +kernel
theorem dX6_countWaitsAndPutBys_53 : decode cX6_countWaitsAndPutBys 53 = .ok (.aaload, 1) := by decide +kernel
theorem dX6_countWaitsAndPutBys_54 : decode cX6_countWaitsAndPutBys 54 = .ok (.dup, 1) := by decide +kernel
theorem dX6_countWaitsAndPutBys_55 : decode cX6_countWaitsAndPutBys 55 = .ok (.getfield 164, 3) := by decide +kernel
theorem dX6_countWaitsAndPutBys_58 : decode cX6_countWaitsAndPutBys 58 = .ok (.iconst 1, 1) := by decide +kernel
theorem dX6_countWaitsAndPutBys_59 : decode cX6_countWaitsAndPutBys 59 = .ok (.iadd, 1) := by decide +kernel
theorem dX6_countWaitsAndPutBys_60 : decode cX6_countWaitsAndPutBys 60 = .ok (.putfield 164, 3) := by decide +kernel
theorem dX6_countWaitsAndPutBys_63 : decode cX6_countWaitsAndPutBys 63 = .ok (.goto 42, 3) := by decide +kernel
theorem dX6_countWaitsAndPutBys_66 : decode cX6_countWaitsAndPutBys 66 = .ok (.aload_n 3, 1) := by decide +kernel
theorem dX6_countWaitsAndPutBys_67 : decode cX6_countWaitsAndPutBys 67 = .ok (.getfield 79, 3) := by decide +kernel
theorem dX6_countWaitsAndPutBys_70 : decode cX6_countWaitsAndPutBys 70 = .ok (.ifCond .eq 35, 3) := by decide +kernel
theorem dX6_countWaitsAndPutBys_73 : decode cX6_countWaitsAndPutBys 73 = .ok (.aload_n 3, 1) := by decide +kernel
theorem dX6_countWaitsAndPutBys_74 : decode cX6_countWaitsAndPutBys 74 = .ok (.getfield 252, 3) := by decide +kernel
theorem dX6_countWaitsAndPutBys_77 : decode cX6_countWaitsAndPutBys 77 = .ok (.ifCond .eq 28, 3) := by decide +kernel
theorem dX6_countWaitsAndPutBys_80 : decode cX6_countWaitsAndPutBys 80 = .ok (.iload 4, 2) := by decide +kernel
theorem dX6_countWaitsAndPutBys_82 : decode cX6_countWaitsAndPutBys 82 = .ok (.ifCond .ne 23, 3) := by decide +kernel
theorem dX6_countWaitsAndPutBys_85 : decode cX6_countWaitsAndPutBys 85 = .ok (.iload_n 1, 1) := by decide +kernel
theorem dX6_countWaitsAndPutBys_86 : decode cX6_countWaitsAndPutBys 86 = .ok (.iconst (-1), 1) := by decide +kernel
theorem dX6_countWaitsAndPutBys_87 : decode cX6_countWaitsAndPutBys 87 = .ok (.if_icmp .eq 18, 3) := by decide +kernel
theorem dX6_countWaitsAndPutBys_90 : decode cX6_countWaitsAndPutBys 90 = .ok (.aload_n 0, 1) := by decide +kernel
theorem dX6_countWaitsAndPutBys_91 : decode cX6_countWaitsAndPutBys 91 = .ok (.getfield 15, 3) := by decide +kernel
theorem dX6_countWaitsAndPutBys_94 : decode cX6_countWaitsAndPutBys 94 = .ok (.iload_n 2, 1) := by decide +kernel
theorem dX6_countWaitsAndPutBys_95 : decode cX6_countWaitsAndPutBys 95 = .ok (.aaload, 1) := by decide +kernel
theorem dX6_countWaitsAndPutBys_96 : decode cX6_countWaitsAndPutBys 96 = .ok (.dup, 1) := by decide +kernel
theorem dX6_countWaitsAndPutBys_97 : decode cX6_countWaitsAndPutBys 97 = .ok (.getfield 167, 3) := by decide +kernel
theorem dX6_countWaitsAndPutBys_100 : decode cX6_countWaitsAndPutBys 100 = .ok (.iconst 1, 1) := by decide +kernel
theorem dX6_countWaitsAndPutBys_101 : decode cX6_countWaitsAndPutBys 101 = .ok (.iadd, 1) := by decide +kernel
theorem dX6_countWaitsAndPutBys_102 : decode cX6_countWaitsAndPutBys 102 = .ok (.putfield 167, 3) := by decide +kernel
theorem dX6_countWaitsAndPutBys_105 : decode cX6_countWaitsAndPutBys 105 = .ok (.aload_n 3, 1) := by decide +kernel
theorem dX6_countWaitsAndPutBys_106 : decode cX6_countWaitsAndPutBys 106 = .ok (.iload 4, 2) := by decide +kernel
theorem dX6_countWaitsAndPutBys_108 : decode cX6_countWaitsAndPutBys 108 = .ok (.putfield 252, 3) := by decide +kernel
theorem dX6_countWaitsAndPutBys_111 : decode cX6_countWaitsAndPutBys 111 = .ok (.iinc 2 1, 3) := by decide +kernel
theorem dX6_countWaitsAndPutBys_114 : decode cX6_countWaitsAndPutBys 114 = .ok (.goto (-112), 3) := by decide +kernel
theorem dX6_countWaitsAndPutBys_117 : decode cX6_countWaitsAndPutBys 117 = .ok (.return_, 1) := by decide +kernel
