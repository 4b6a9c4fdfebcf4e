theorem dX0_init_0 : decode cX0_init 0 = .ok (.aload_n 0, 1) := by decide +kernel
theorem dX0_init_1 : decode cX0_init 1 = .ok (.invokespecial 3, 3) := by decide +kernel
theorem dX0_init_4 : decode cX0_init 4 = .ok (.aload_n 0, 1) := by decide +kernel
theorem dX0_init_5 : decode cX0_init 5 = .ok (.iconst (-1), 1) := by decide +kernel
theorem dX0_init_6 : decode cX0_init 6 = .ok (.putfield 9, 3) := by decide +kernel
theorem dX0_init_9 : decode cX0_init 9 = .ok (.return_, 1) := by decide +kernel
theorem dX0_begin_0 : decode cX0_begin 0 = .ok (.aload_n 0, 1) := by decide +kernel
theorem dX0_begin_1 : decode cX0_begin 1 = .ok (.iconst 1, 1) := by decide +kernel
theorem dX0_begin_2 : decode cX0_begin 2 = .ok (.putfield 15, 3) := by decide +kernel
theorem dX0_begin_5 : decode cX0_begin 5 = .ok (.aload_n 0, 1) := by decide +kernel
theorem dX0_begin_6 : decode cX0_begin 6 = .ok (.iload_n 1, 1) := by decide +kernel
theorem dX0_begin_7 : decode cX0_begin 7 = .ok (.putfield 19, 3) := by decide +kernel
theorem dX0_begin_10 : decode cX0_begin 10 = .ok (.aload_n 0, 1) := by decide +kernel
theorem dX0_begin_11 : decode cX0_begin 11 = .ok (.iload_n 2, 1) := by decide +kernel
theorem dX0_begin_12 : decode cX0_begin 12 = .ok (.putfield 22, 3) := by decide +kernel
theorem dX0_begin_15 : decode cX0_begin 15 = .ok (.aload_n 0, 1) := by decide +kernel
theorem dX0_begin_16 : decode cX0_begin 16 = .ok (.iconst 0, 1) := by decide +kernel
theorem dX0_begin_17 : decode cX0_begin 17 = .ok (.putfield 25, 3) := by decide +kernel
theorem dX0_begin_20 : decode cX0_begin 20 = .ok (.aload_n 0, 1) := by decide +kernel
theorem dX0_begin_21 : decode cX0_begin 21 = .ok (.iconst (-1), 1) := by decide +kernel
theorem dX0_begin_22 : decode cX0_begin 22 = .ok (.putfield 9, 3) := by decide +kernel
theorem dX0_begin_25 : decode cX0_begin 25 = .ok (.aload_n 0, 1) := by decide +kernel
theorem dX0_begin_26 : decode cX0_begin 26 = .ok (.iconst 0, 1) := by decide +kernel
theorem dX0_begin_27 : decode cX0_begin 27 = .ok (.putfield 28, 3) := by decide +kernel
theorem dX0_begin_30 : decode cX0_begin 30 = .ok (.return_, 1) := by decide +kernel
theorem dX1_init_0 : decode cX1_init 0 = .ok (.aload_n 0, 1) := by decide +kernel
theorem dX1_init_1 : decode cX1_init 1 = .ok (.invokespecial 1, 3) := by decide +kernel
theorem dX1_init_4 : decode cX1_init 4 = .ok (.aload_n 0, 1) := by decide +kernel
theorem dX1_init_5 : decode cX1_init 5 = .ok (.iload_n 1, 1) := by decide +kernel
theorem dX1_init_6 : decode cX1_init 6 = .ok (.newarray .int, 2) := by decide +kernel
theorem dX1_init_8 : decode cX1_init 8 = .ok (.putfield 7, 3) := by decide +kernel
theorem dX1_init_11 : decode cX1_init 11 = .ok (.aload_n 0, 1) := by decide +kernel
theorem dX1_init_12 : decode cX1_init 12 = .ok (.iload_n 1, 1) := by decide +kernel
theorem dX1_init_13 : decode cX1_init 13 = .ok (.newarray .int, 2) := by decide +kernel
theorem dX1_init_15 : decode cX1_init 15 = .ok (.putfield 13, 3) := by decide +kernel
theorem dX1_init_18 : decode cX1_init 18 = .ok (.return_, 1) := by decide +kernel
theorem dX1_note_0 : decode cX1_note 0 = .ok (.aload_n 0, 1) := by decide +kernel
theorem dX1_note_1 : decode cX1_note 1 = .ok (.getfield 16, 3) := by decide +kernel
theorem dX1_note_4 : decode cX1_note 4 = .ok (.aload_n 0, 1) := by decide +kernel
theorem dX1_note_5 : decode cX1_note 5 = .ok (.getfield 7, 3) := by decide +kernel
theorem dX1_note_8 : decode cX1_note 8 = .ok (.arraylength, 1) := by decide +kernel
theorem dX1_note_9 : decode cX1_note 9 = .ok (.if_icmp .ge 23, 3) := by decide +kernel
theorem dX1_note_12 : decode cX1_note 12 = .ok (.aload_n 0, 1) := by decide +kernel
theorem dX1_note_13 : decode cX1_note 13 = .ok (.getfield 7, 3) := by decide +kernel
theorem dX1_note_16 : decode cX1_note 16 = .ok (.aload_n 0, 1) := by decide +kernel
theorem dX1_note_17 : decode cX1_note 17 = .ok (.getfield 16, 3) := by decide +kernel
theorem dX1_note_20 : decode cX1_note 20 = .ok (.iload_n 1, 1) := by decide +kernel
theorem dX1_note_21 : decode cX1_note 21 = .ok (.iastore, 1) := by decide +kernel
theorem dX1_note_22 : decode cX1_note 22 = .ok (.aload_n 0, 1) := by decide +kernel
theorem dX1_note_23 : decode cX1_note 23 = .ok (.getfield 13, 3) := by decide +kernel
theorem dX1_note_26 : decode cX1_note 26 = .ok (.aload_n 0, 1) := by decide +kernel
theorem dX1_note_27 : decode cX1_note 27 = .ok (.getfield 16, 3) := by decide +kernel
theorem dX1_note_30 : decode cX1_note 30 = .ok (.iload_n 2, 1) := by decide +kernel
theorem dX1_note_31 : decode cX1_note 31 = .ok (.iastore, 1) := by decide +kernel
theorem dX1_note_32 : decode cX1_note 32 = .ok (.aload_n 0, 1) := by decide +kernel
theorem dX1_note_33 : decode cX1_note 33 = .ok (.dup, 1) := by decide +kernel
theorem dX1_note_34 : decode cX1_note 34 = .ok (.getfield 16, 3) := by decide +kernel
theorem dX1_note_37 : decode cX1_note 37 = .ok (.iconst 1, 1) := by decide +kernel
theorem dX1_note_38 : decode cX1_note 38 = .ok (.iadd, 1) := by decide +kernel
theorem dX1_note_39 : decode cX1_note 39 = .ok (.putfield 16, 3) := by decide +kernel
theorem dX1_note_42 : decode cX1_note 42 = .ok (.return_, 1) := by decide +kernel
theorem dX1_keeps_0 : decode cX1_keeps 0 = .ok (.iload_n 1, 1) := by decide +kernel
theorem dX1_keeps_1 : decode cX1_keeps 1 = .ok (.ifCond .lt 24, 3) := by decide +kernel
theorem dX1_keeps_4 : decode cX1_keeps 4 = .ok (.iload_n 1, 1) := by decide +kernel
theorem dX1_keeps_5 : decode cX1_keeps 5 = .ok (.aload_n 0, 1) := by decide +kernel
theorem dX1_keeps_6 : decode cX1_keeps 6 = .ok (.getfield 16, 3) := by decide +kernel
theorem dX1_keeps_9 : decode cX1_keeps 9 = .ok (.if_icmp .ge 16, 3) := by decide +kernel
theorem dX1_keeps_12 : decode cX1_keeps 12 = .ok (.iload_n 1, 1) := by decide +kernel
theorem dX1_keeps_13 : decode cX1_keeps 13 = .ok (.aload_n 0, 1) := by decide +kernel
theorem dX1_keeps_14 : decode cX1_keeps 14 = .ok (.getfield 7, 3) := by decide +kernel
theorem dX1_keeps_17 : decode cX1_keeps 17 = .ok (.arraylength, 1) := by decide +kernel
theorem dX1_keeps_18 : decode cX1_keeps 18 = .ok (.if_icmp .ge 7, 3) := by decide +kernel
theorem dX1_keeps_21 : decode cX1_keeps 21 = .ok (.iconst 1, 1) := by decide +kernel
theorem dX1_keeps_22 : decode cX1_keeps 22 = .ok (.goto 4, 3) := by decide +kernel
theorem dX1_keeps_25 : decode cX1_keeps 25 = .ok (.iconst 0, 1) := by decide +kernel
theorem dX1_keeps_26 : decode cX1_keeps 26 = .ok (.ireturn, 1) := by decide +kernel
theorem dX2_init_0 : decode cX2_init 0 = .ok (.aload_n 0, 1) := by decide +kernel
theorem dX2_init_1 : decode cX2_init 1 = .ok (.invokespecial 3, 3) := by decide +kernel
theorem dX2_init_4 : decode cX2_init 4 = .ok (.aload_n 0, 1) := by decide +kernel
theorem dX2_init_5 : decode cX2_init 5 = .ok (.bipush 100, 2) := by decide +kernel
theorem dX2_init_7 : decode cX2_init 7 = .ok (.newarray .int, 2) := by decide +kernel
theorem dX2_init_9 : decode cX2_init 9 = .ok (.putfield 9, 3) := by decide +kernel
theorem dX2_init_12 : decode cX2_init 12 = .ok (.return_, 1) := by decide +kernel
theorem dX2_note_0 : decode cX2_note 0 = .ok (.aload_n 0, 1) := by decide +kernel
theorem dX2_note_1 : decode cX2_note 1 = .ok (.getfield 9, 3) := by decide +kernel
theorem dX2_note_4 : decode cX2_note 4 = .ok (.aload_n 0, 1) := by decide +kernel
theorem dX2_note_5 : decode cX2_note 5 = .ok (.getfield 15, 3) := by decide +kernel
theorem dX2_note_8 : decode cX2_note 8 = .ok (.bipush 100, 2) := by decide +kernel
theorem dX2_note_10 : decode cX2_note 10 = .ok (.irem, 1) := by decide +kernel
theorem dX2_note_11 : decode cX2_note 11 = .ok (.iload_n 1, 1) := by decide +kernel
theorem dX2_note_12 : decode cX2_note 12 = .ok (.iastore, 1) := by decide +kernel
theorem dX2_note_13 : decode cX2_note 13 = .ok (.aload_n 0, 1) := by decide +kernel
theorem dX2_note_14 : decode cX2_note 14 = .ok (.dup, 1) := by decide +kernel
theorem dX2_note_15 : decode cX2_note 15 = .ok (.getfield 15, 3) := by decide +kernel
theorem dX2_note_18 : decode cX2_note 18 = .ok (.iconst 1, 1) := by decide +kernel
theorem dX2_note_19 : decode cX2_note 19 = .ok (.iadd, 1) := by decide +kernel
theorem dX2_note_20 : decode cX2_note 20 = .ok (.putfield 15, 3) := by decide +kernel
theorem dX2_note_23 : decode cX2_note 23 = .ok (.return_, 1) := by decide +kernel
theorem dX2_runnerBack_0 : decode cX2_runnerBack 0 = .ok (.iload_n 1, 1) := by decide +kernel
theorem dX2_runnerBack_1 : decode cX2_runnerBack 1 = .ok (.ifCond .lt 17, 3) := by decide +kernel
theorem dX2_runnerBack_4 : decode cX2_runnerBack 4 = .ok (.iload_n 1, 1) := by decide +kernel
theorem dX2_runnerBack_5 : decode cX2_runnerBack 5 = .ok (.bipush 100, 2) := by decide +kernel
theorem dX2_runnerBack_7 : decode cX2_runnerBack 7 = .ok (.if_icmp .ge 11, 3) := by decide +kernel
theorem dX2_runnerBack_10 : decode cX2_runnerBack 10 = .ok (.iload_n 1, 1) := by decide +kernel
theorem dX2_runnerBack_11 : decode cX2_runnerBack 11 = .ok (.aload_n 0, 1) := by decide +kernel
theorem dX2_runnerBack_12 : decode cX2_runnerBack 12 = .ok (.getfield 15, 3) := by decide +kernel
theorem dX2_runnerBack_15 : decode cX2_runnerBack 15 = .ok (.if_icmp .lt 6, 3) := by decide +kernel
theorem dX2_runnerBack_18 : decode cX2_runnerBack 18 = .ok (.bipush (-2), 2) := by decide +kernel
theorem dX2_runnerBack_20 : decode cX2_runnerBack 20 = .ok (.ireturn, 1) := by decide +kernel
theorem dX2_runnerBack_21 : decode cX2_runnerBack 21 = .ok (.aload_n 0, 1) := by decide +kernel
theorem dX2_runnerBack_22 : decode cX2_runnerBack 22 = .ok (.getfield 9, 3) := by decide +kernel
theorem dX2_runnerBack_25 : decode cX2_runnerBack 25 = .ok (.aload_n 0, 1) := by decide +kernel
theorem dX2_runnerBack_26 : decode cX2_runnerBack 26 = .ok (.getfield 15, 3) := by decide +kernel
theorem dX2_runnerBack_29 : decode cX2_runnerBack 29 = .ok (.iconst 1, 1) := by decide +kernel
theorem dX2_runnerBack_30 : decode cX2_runnerBack 30 = .ok (.isub, 1) := by decide +kernel
theorem dX2_runnerBack_31 : decode cX2_runnerBack 31 = .ok (.iload_n 1, 1) := by decide +kernel
theorem dX2_runnerBack_32 : decode cX2_runnerBack 32 = .ok (.isub, 1) := by decide +kernel
theorem dX2_runnerBack_33 : decode cX2_runnerBack 33 = .ok (.bipush 100, 2) := by decide +kernel
theorem dX2_runnerBack_35 : decode cX2_runnerBack 35 = .ok (.irem, 1) := by decide +kernel
theorem dX2_runnerBack_36 : decode cX2_runnerBack 36 = .ok (.iaload, 1) := by decide +kernel
theorem dX2_runnerBack_37 : decode cX2_runnerBack 37 = .ok (.ireturn, 1) := by decide +kernel
theorem dX3_init_0 : decode cX3_init 0 = .ok (.aload_n 0, 1) := by decide +kernel
theorem dX3_init_1 : decode cX3_init 1 = .ok (.invokespecial 1, 3) := by decide +kernel
theorem dX3_init_4 : decode cX3_init 4 = .ok (.aload_n 0, 1) := by decide +kernel
theorem dX3_init_5 : decode cX3_init 5 = .ok (.iload_n 1, 1) := by decide +kernel
theorem dX3_init_6 : decode cX3_init 6 = .ok (.putfield 7, 3) := by decide +kernel
theorem dX3_init_9 : decode cX3_init 9 = .ok (.aload_n 0, 1) := by decide +kernel
theorem dX3_init_10 : decode cX3_init 10 = .ok (.iload_n 2, 1) := by decide +kernel
theorem dX3_init_11 : decode cX3_init 11 = .ok (.putfield 13, 3) := by decide +kernel
theorem dX3_init_14 : decode cX3_init 14 = .ok (.aload_n 0, 1) := by decide +kernel
theorem dX3_init_15 : decode cX3_init 15 = .ok (.iload_n 3, 1) := by decide +kernel
theorem dX3_init_16 : decode cX3_init 16 = .ok (.putfield 16, 3) := by decide +kernel
theorem dX3_init_19 : decode cX3_init 19 = .ok (.aload_n 0, 1) := by decide +kernel
theorem dX3_init_20 : decode cX3_init 20 = .ok (.iload 4, 2) := by decide +kernel
theorem dX3_init_22 : decode cX3_init 22 = .ok (.putfield 19, 3) := by decide +kernel
theorem dX3_init_25 : decode cX3_init 25 = .ok (.aload_n 0, 1) := by decide +kernel
theorem dX3_init_26 : decode cX3_init 26 = .ok (.iload_n 2, 1) := by decide +kernel
theorem dX3_init_27 : decode cX3_init 27 = .ok (.iload 4, 2) := by decide +kernel
theorem dX3_init_29 : decode cX3_init 29 = .ok (.iadd, 1) := by decide +kernel
theorem dX3_init_30 : decode cX3_init 30 = .ok (.putfield 22, 3) := by decide +kernel
theorem dX3_init_33 : decode cX3_init 33 = .ok (.return_, 1) := by decide +kernel
theorem dX3_covers_0 : decode cX3_covers 0 = .ok (.aload_n 0, 1) := by decide +kernel
theorem dX3_covers_1 : decode cX3_covers 1 = .ok (.getfield 13, 3) := by decide +kernel
theorem dX3_covers_4 : decode cX3_covers 4 = .ok (.aload_n 1, 1) := by decide +kernel
theorem dX3_covers_5 : decode cX3_covers 5 = .ok (.getfield 13, 3) := by decide +kernel
theorem dX3_covers_8 : decode cX3_covers 8 = .ok (.if_icmp .gt 18, 3) := by decide +kernel
theorem dX3_covers_11 : decode cX3_covers 11 = .ok (.aload_n 1, 1) := by decide +kernel
theorem dX3_covers_12 : decode cX3_covers 12 = .ok (.getfield 22, 3) := by decide +kernel
theorem dX3_covers_15 : decode cX3_covers 15 = .ok (.aload_n 0, 1) := by decide +kernel
theorem dX3_covers_16 : decode cX3_covers 16 = .ok (.getfield 22, 3) := by decide +kernel
theorem dX3_covers_19 : decode cX3_covers 19 = .ok (.if_icmp .gt 7, 3) := by decide +kernel
theorem dX3_covers_22 : decode cX3_covers 22 = .ok (.iconst 1, 1) := by decide +kernel
theorem dX3_covers_23 : decode cX3_covers 23 = .ok (.goto 4, 3) := by decide +kernel
theorem dX3_covers_26 : decode cX3_covers 26 = .ok (.iconst 0, 1) := by decide +kernel
theorem dX3_covers_27 : decode cX3_covers 27 = .ok (.ireturn, 1) := by decide +kernel
theorem dX3_clashesWith_0 : decode cX3_clashesWith 0 = .ok (.aload_n 0, 1) := by decide +kernel
theorem dX3_clashesWith_1 : decode cX3_clashesWith 1 = .ok (.getfield 7, 3) := by decide +kernel
theorem dX3_clashesWith_4 : decode cX3_clashesWith 4 = .ok (.aload_n 1, 1) := by decide +kernel
theorem dX3_clashesWith_5 : decode cX3_clashesWith 5 = .ok (.getfield 7, 3) := by decide +kernel
theorem dX3_clashesWith_8 : decode cX3_clashesWith 8 = .ok (.if_icmp .ne 29, 3) := by decide +kernel
theorem dX3_clashesWith_11 : decode cX3_clashesWith 11 = .ok (.aload_n 0, 1) := by decide +kernel
theorem dX3_clashesWith_12 : decode cX3_clashesWith 12 = .ok (.getfield 13, 3) := by decide +kernel
theorem dX3_clashesWith_15 : decode cX3_clashesWith 15 = .ok (.aload_n 1, 1) := by decide +kernel
theorem dX3_clashesWith_16 : decode cX3_clashesWith 16 = .ok (.getfield 22, 3) := by decide +kernel
theorem dX3_clashesWith_19 : decode cX3_clashesWith 19 = .ok (.if_icmp .ge 18, 3) := by decide +kernel
theorem dX3_clashesWith_22 : decode cX3_clashesWith 22 = .ok (.aload_n 1, 1) := by decide +kernel
theorem dX3_clashesWith_23 : decode cX3_clashesWith 23 = .ok (.getfield 13, 3) := by decide +kernel
theorem dX3_clashesWith_26 : decode cX3_clashesWith 26 = .ok (.aload_n 0, 1) := by decide +kernel
theorem dX3_clashesWith_27 : decode cX3_clashesWith 27 = .ok (.getfield 22, 3) := by decide +kernel
theorem dX3_clashesWith_30 : decode cX3_clashesWith 30 = .ok (.if_icmp .ge 7, 3) := by decide +kernel
theorem dX3_clashesWith_33 : decode cX3_clashesWith 33 = .ok (.iconst 1, 1) := by decide +kernel
theorem dX3_clashesWith_34 : decode cX3_clashesWith 34 = .ok (.goto 4, 3) := by decide +kernel
theorem dX3_clashesWith_37 : decode cX3_clashesWith 37 = .ok (.iconst 0, 1) := by decide +kernel
theorem dX3_clashesWith_38 : decode cX3_clashesWith 38 = .ok (.istore_n 2, 1) := by decide +kernel
theorem dX3_clashesWith_39 : decode cX3_clashesWith 39 = .ok (.aload_n 0, 1) := by decide +kernel
theorem dX3_clashesWith_40 : decode cX3_clashesWith 40 = .ok (.aload_n 1, 1) := by decide +kernel
theorem dX3_clashesWith_41 : decode cX3_clashesWith 41 = .ok (.invokevirtual 25, 3) := by decide +kernel
theorem dX3_clashesWith_44 : decode cX3_clashesWith 44 = .ok (.ifCond .ne 11, 3) := by decide +kernel
theorem dX3_clashesWith_47 : decode cX3_clashesWith 47 = .ok (.aload_n 1, 1) := by decide +kernel
theorem dX3_clashesWith_48 : decode cX3_clashesWith 48 = .ok (.aload_n 0, 1) := by decide +kernel
theorem dX3_clashesWith_49 : decode cX3_clashesWith 49 = .ok (.invokevirtual 25, 3) := by decide +kernel
theorem dX3_clashesWith_52 : decode cX3_clashesWith 52 = .ok (.ifCond .eq 7, 3) := by decide +kernel
theorem dX3_clashesWith_55 : decode cX3_clashesWith 55 = .ok (.iconst 1, 1) := by decide +kernel
theorem dX3_clashesWith_56 : decode cX3_clashesWith 56 = .ok (.goto 4, 3) := by decide +kernel
theorem dX3_clashesWith_59 : decode cX3_clashesWith 59 = .ok (.iconst 0, 1) := by decide +kernel
theorem dX3_clashesWith_60 : decode cX3_clashesWith 60 = .ok (.istore_n 3, 1) := by decide +kernel
theorem dX3_clashesWith_61 : decode cX3_clashesWith 61 = .ok (.iload_n 2, 1) := by decide +kernel
theorem dX3_clashesWith_62 : decode cX3_clashesWith 62 = .ok (.ifCond .eq 22, 3) := by decide +kernel
theorem dX3_clashesWith_65 : decode cX3_clashesWith 65 = .ok (.iload_n 3, 1) := by decide +kernel
theorem dX3_clashesWith_66 : decode cX3_clashesWith 66 = .ok (.ifCond .eq 14, 3) := by decide +kernel
theorem dX3_clashesWith_69 : decode cX3_clashesWith 69 = .ok (.aload_n 0, 1) := by decide +kernel
theorem dX3_clashesWith_70 : decode cX3_clashesWith 70 = .ok (.getfield 16, 3) := by decide +kernel
theorem dX3_clashesWith_73 : decode cX3_clashesWith 73 = .ok (.aload_n 1, 1) := by decide +kernel
theorem dX3_clashesWith_74 : decode cX3_clashesWith 74 = .ok (.getfield 16, 3) := by decide +kernel
theorem dX3_clashesWith_77 : decode cX3_clashesWith 77 = .ok (.if_icmp .ne 7, 3) := by decide +kernel
theorem dX3_clashesWith_80 : decode cX3_clashesWith 80 = .ok (.iconst 1, 1) := by decide +kernel
theorem dX3_clashesWith_81 : decode cX3_clashesWith 81 = .ok (.goto 4, 3) := by decide +kernel
theorem dX3_clashesWith_84 : decode cX3_clashesWith 84 = .ok (.iconst 0, 1) := by decide +kernel
theorem dX3_clashesWith_85 : decode cX3_clashesWith 85 = .ok (.ireturn, 1) := by decide +kernel
theorem dX3_goesBefore_0 : decode cX3_goesBefore 0 = .ok (.aload_n 0, 1) := by decide +kernel
theorem dX3_goesBefore_1 : decode cX3_goesBefore 1 = .ok (.getfield 13, 3) := by decide +kernel
theorem dX3_goesBefore_4 : decode cX3_goesBefore 4 = .ok (.aload_n 1, 1) := by decide +kernel
theorem dX3_goesBefore_5 : decode cX3_goesBefore 5 = .ok (.getfield 13, 3) := by decide +kernel
theorem dX3_goesBefore_8 : decode cX3_goesBefore 8 = .ok (.if_icmp .ne 22, 3) := by decide +kernel
theorem dX3_goesBefore_11 : decode cX3_goesBefore 11 = .ok (.aload_n 0, 1) := by decide +kernel
theorem dX3_goesBefore_12 : decode cX3_goesBefore 12 = .ok (.getfield 19, 3) := by decide +kernel
theorem dX3_goesBefore_15 : decode cX3_goesBefore 15 = .ok (.aload_n 1, 1) := by decide +kernel
theorem dX3_goesBefore_16 : decode cX3_goesBefore 16 = .ok (.getfield 19, 3) := by decide +kernel
theorem dX3_goesBefore_19 : decode cX3_goesBefore 19 = .ok (.if_icmp .le 7, 3) := by decide +kernel
theorem dX3_goesBefore_22 : decode cX3_goesBefore 22 = .ok (.iconst 1, 1) := by decide +kernel
theorem dX3_goesBefore_23 : decode cX3_goesBefore 23 = .ok (.goto 23, 3) := by decide +kernel
theorem dX3_goesBefore_26 : decode cX3_goesBefore 26 = .ok (.iconst 0, 1) := by decide +kernel
theorem dX3_goesBefore_27 : decode cX3_goesBefore 27 = .ok (.goto 19, 3) := by decide +kernel
theorem dX3_goesBefore_30 : decode cX3_goesBefore 30 = .ok (.aload_n 0, 1) := by decide +kernel
theorem dX3_goesBefore_31 : decode cX3_goesBefore 31 = .ok (.getfield 13, 3) := by decide +kernel
theorem dX3_goesBefore_34 : decode cX3_goesBefore 34 = .ok (.aload_n 1, 1) := by decide +kernel
theorem dX3_goesBefore_35 : decode cX3_goesBefore 35 = .ok (.getfield 13, 3) := by decide +kernel
theorem dX3_goesBefore_38 : decode cX3_goesBefore 38 = .ok (.if_icmp .ge 7, 3) := by decide +kernel
theorem dX3_goesBefore_41 : decode cX3_goesBefore 41 = .ok (.iconst 1, 1) := by decide +kernel
theorem dX3_goesBefore_42 : decode cX3_goesBefore 42 = .ok (.goto 4, 3) := by decide +kernel
theorem dX3_goesBefore_45 : decode cX3_goesBefore 45 = .ok (.iconst 0, 1) := by decide +kernel
theorem dX3_goesBefore_46 : decode cX3_goesBefore 46 = .ok (.ireturn, 1) := by decide +kernel
theorem dX4_init_0 : decode cX4_init 0 = .ok (.aload_n 0, 1) := by decide +kernel
theorem dX4_init_1 : decode cX4_init 1 = .ok (.invokespecial 1, 3) := by decide +kernel
theorem dX4_init_4 : decode cX4_init 4 = .ok (.aload_n 0, 1) := by decide +kernel
theorem dX4_init_5 : decode cX4_init 5 = .ok (.iload_n 1, 1) := by decide +kernel
theorem dX4_init_6 : decode cX4_init 6 = .ok (.anewarray 7, 3) := by decide +kernel
theorem dX4_init_9 : decode cX4_init 9 = .ok (.putfield 9, 3) := by decide +kernel
theorem dX4_init_12 : decode cX4_init 12 = .ok (.return_, 1) := by decide +kernel
theorem dX4_insert_0 : decode cX4_insert 0 = .ok (.aload_n 0, 1) := by decide +kernel
theorem dX4_insert_1 : decode cX4_insert 1 = .ok (.getfield 15, 3) := by decide +kernel
theorem dX4_insert_4 : decode cX4_insert 4 = .ok (.aload_n 0, 1) := by decide +kernel
theorem dX4_insert_5 : decode cX4_insert 5 = .ok (.getfield 9, 3) := by decide +kernel
theorem dX4_insert_8 : decode cX4_insert 8 = .ok (.arraylength, 1) := by decide +kernel
theorem dX4_insert_9 : decode cX4_insert 9 = .ok (.if_icmp .ge 11, 3) := by decide +kernel
theorem dX4_insert_12 : decode cX4_insert 12 = .ok (.aload_n 0, 1) := by decide +kernel
theorem dX4_insert_13 : decode cX4_insert 13 = .ok (.aload_n 1, 1) := by decide +kernel
theorem dX4_insert_14 : decode cX4_insert 14 = .ok (.invokevirtual 19, 3) := by decide +kernel
theorem dX4_insert_17 : decode cX4_insert 17 = .ok (.ifCond .eq 5, 3) := by decide +kernel
theorem dX4_insert_20 : decode cX4_insert 20 = .ok (.iconst 0, 1) := by decide +kernel
theorem dX4_insert_21 : decode cX4_insert 21 = .ok (.ireturn, 1) := by decide +kernel
theorem dX4_insert_22 : decode cX4_insert 22 = .ok (.aload_n 0, 1) := by decide +kernel
theorem dX4_insert_23 : decode cX4_insert 23 = .ok (.getfield 15, 3) := by decide +kernel
theorem dX4_insert_26 : decode cX4_insert 26 = .ok (.istore_n 2, 1) := by decide +kernel
theorem dX4_insert_27 : decode cX4_insert 27 = .ok (.iload_n 2, 1) := by decide +kernel
theorem dX4_insert_28 : decode cX4_insert 28 = .ok (.ifCond .le 38, 3) := by decide +kernel
theorem dX4_insert_31 : decode cX4_insert 31 = .ok (.aload_n 1, 1) := by decide +kernel
theorem dX4_insert_32 : decode cX4_insert 32 = .ok (.aload_n 0, 1) := by decide +kernel
theorem dX4_insert_33 : decode cX4_insert 33 = .ok (.getfield 9, 3) := by decide +kernel
theorem dX4_insert_36 : decode cX4_insert 36 = .ok (.iload_n 2, 1) := by decide +kernel
theorem dX4_insert_37 : decode cX4_insert 37 = .ok (.iconst 1, 1) := by decide +kernel
theorem dX4_insert_38 : decode cX4_insert 38 = .ok (.isub, 1) := by decide +kernel
theorem dX4_insert_39 : decode cX4_insert 39 = .ok (.aaload, 1) := by decide +kernel
theorem dX4_insert_40 : decode cX4_insert 40 = .ok (.invokevirtual 23, 3) := by decide +kernel
theorem dX4_insert_43 : decode cX4_insert 43 = .ok (.ifCond .eq 23, 3) := by decide +kernel
theorem dX4_insert_46 : decode cX4_insert 46 = .ok (.aload_n 0, 1) := by decide +kernel
theorem dX4_insert_47 : decode cX4_insert 47 = .ok (.getfield 9, 3) := by decide +kernel
theorem dX4_insert_50 : decode cX4_insert 50 = .ok (.iload_n 2, 1) := by decide +kernel
theorem dX4_insert_51 : decode cX4_insert 51 = .ok (.aload_n 0, 1) := by decide +kernel
theorem dX4_insert_52 : decode cX4_insert 52 = .ok (.getfield 9, 3) := by decide +kernel
theorem dX4_insert_55 : decode cX4_insert 55 = .ok (.iload_n 2, 1) := by decide +kernel
theorem dX4_insert_56 : decode cX4_insert 56 = .ok (.iconst 1, 1) := by decide +kernel
theorem dX4_insert_57 : decode cX4_insert 57 = .ok (.isub, 1) := by decide +kernel
theorem dX4_insert_58 : decode cX4_insert 58 = .ok (.aaload, 1) := by decide +kernel
theorem dX4_insert_59 : decode cX4_insert 59 = .ok (.aastore, 1) := by decide +kernel
theorem dX4_insert_60 : decode cX4_insert 60 = .ok (.iinc 2 (-1), 3) := by decide +kernel
theorem dX4_insert_63 : decode cX4_insert 63 = .ok (.goto (-36), 3) := by decide +kernel
theorem dX4_insert_66 : decode cX4_insert 66 = .ok (.aload_n 0, 1) := by decide +kernel
theorem dX4_insert_67 : decode cX4_insert 67 = .ok (.getfield 9, 3) := by decide +kernel
theorem dX4_insert_70 : decode cX4_insert 70 = .ok (.iload_n 2, 1) := by decide +kernel
theorem dX4_insert_71 : decode cX4_insert 71 = .ok (.aload_n 1, 1) := by decide +kernel
theorem dX4_insert_72 : decode cX4_insert 72 = .ok (.aastore, 1) := by decide +kernel
theorem dX4_insert_73 : decode cX4_insert 73 = .ok (.aload_n 0, 1) := by decide +kernel
theorem dX4_insert_74 : decode cX4_insert 74 = .ok (.dup, 1) := by decide +kernel
theorem dX4_insert_75 : decode cX4_insert 75 = .ok (.getfield 15, 3) := by decide +kernel
theorem dX4_insert_78 : decode cX4_insert 78 = .ok (.iconst 1, 1) := by decide +kernel
theorem dX4_insert_79 : decode cX4_insert 79 = .ok (.iadd, 1) := by decide +kernel
theorem dX4_insert_80 : decode cX4_insert 80 = .ok (.putfield 15, 3) := by decide +kernel
theorem dX4_insert_83 : decode cX4_insert 83 = .ok (.iconst 1, 1) := by decide +kernel
theorem dX4_insert_84 : decode cX4_insert 84 = .ok (.ireturn, 1) := by decide +kernel
theorem dX4_clashes_0 : decode cX4_clashes 0 = .ok (.iconst 0, 1) := by decide +kernel
theorem dX4_clashes_1 : decode cX4_clashes 1 = .ok (.istore_n 2, 1) := by decide +kernel
theorem dX4_clashes_2 : decode cX4_clashes 2 = .ok (.iload_n 2, 1) := by decide +kernel
theorem dX4_clashes_3 : decode cX4_clashes 3 = .ok (.aload_n 0, 1) := by decide +kernel
theorem dX4_clashes_4 : decode cX4_clashes 4 = .ok (.getfield 15, 3) := by decide +kernel
theorem dX4_clashes_7 : decode cX4_clashes 7 = .ok (.if_icmp .ge 24, 3) := by decide +kernel
theorem dX4_clashes_10 : decode cX4_clashes 10 = .ok (.aload_n 0, 1) := by decide +kernel
theorem dX4_clashes_11 : decode cX4_clashes 11 = .ok (.getfield 9, 3) := by decide +kernel
theorem dX4_clashes_14 : decode cX4_clashes 14 = .ok (.iload_n 2, 1) := by decide +kernel
theorem dX4_clashes_15 : decode cX4_clashes 15 = .ok (.aaload, 1) := by decide +kernel
theorem dX4_clashes_16 : decode cX4_clashes 16 = .ok (.aload_n 1, 1) := by decide +kernel
theorem dX4_clashes_17 : decode cX4_clashes 17 = .ok (.invokevirtual 26, 3) := by decide +kernel
theorem dX4_clashes_20 : decode cX4_clashes 20 = .ok (.ifCond .eq 5, 3) := by decide +kernel
theorem dX4_clashes_23 : decode cX4_clashes 23 = .ok (.iconst 1, 1) := by decide +kernel
theorem dX4_clashes_24 : decode cX4_clashes 24 = .ok (.ireturn, 1) := by decide +kernel
theorem dX4_clashes_25 : decode cX4_clashes 25 = .ok (.iinc 2 1, 3) := by decide +kernel
theorem dX4_clashes_28 : decode cX4_clashes 28 = .ok (.goto (-26), 3) := by decide +kernel
theorem dX4_clashes_31 : decode cX4_clashes 31 = .ok (.iconst 0, 1) := by decide +kernel
theorem dX4_clashes_32 : decode cX4_clashes 32 = .ok (.ireturn, 1) := by decide +kernel
theorem dX4_removeAllOf_0 : decode cX4_removeAllOf 0 = .ok (.iconst 0, 1) := by decide +kernel
theorem dX4_removeAllOf_1 : decode cX4_removeAllOf 1 = .ok (.istore_n 2, 1) := by decide +kernel
theorem dX4_removeAllOf_2 : decode cX4_removeAllOf 2 = .ok (.iconst 0, 1) := by decide +kernel
theorem dX4_removeAllOf_3 : decode cX4_removeAllOf 3 = .ok (.istore_n 3, 1) := by decide +kernel
theorem dX4_removeAllOf_4 : decode cX4_removeAllOf 4 = .ok (.iload_n 3, 1) := by decide +kernel
theorem dX4_removeAllOf_5 : decode cX4_removeAllOf 5 = .ok (.aload_n 0, 1) := by decide +kernel
theorem dX4_removeAllOf_6 : decode cX4_removeAllOf 6 = .ok (.getfield 15, 3) := by decide +kernel
theorem dX4_removeAllOf_9 : decode cX4_removeAllOf 9 = .ok (.if_icmp .ge 37, 3) := by decide +kernel
theorem dX4_removeAllOf_12 : decode cX4_removeAllOf 12 = .ok (.aload_n 0, 1) := by decide +kernel
theorem dX4_removeAllOf_13 : decode cX4_removeAllOf 13 = .ok (.getfield 9, 3) := by decide +kernel
theorem dX4_removeAllOf_16 : decode cX4_removeAllOf 16 = .ok (.iload_n 3, 1) := by decide +kernel
theorem dX4_removeAllOf_17 : decode cX4_removeAllOf 17 = .ok (.aaload, 1) := by decide +kernel
theorem dX4_removeAllOf_18 : decode cX4_removeAllOf 18 = .ok (.getfield 29, 3) := by decide +kernel
theorem dX4_removeAllOf_21 : decode cX4_removeAllOf 21 = .ok (.iload_n 1, 1) := by decide +kernel
theorem dX4_removeAllOf_22 : decode cX4_removeAllOf 22 = .ok (.if_icmp .eq 18, 3) := by decide +kernel
theorem dX4_removeAllOf_25 : decode cX4_removeAllOf 25 = .ok (.aload_n 0, 1) := by decide +kernel
theorem dX4_removeAllOf_26 : decode cX4_removeAllOf 26 = .ok (.getfield 9, 3) := by decide +kernel
theorem dX4_removeAllOf_29 : decode cX4_removeAllOf 29 = .ok (.iload_n 2, 1) := by decide +kernel
theorem dX4_removeAllOf_30 : decode cX4_removeAllOf 30 = .ok (.aload_n 0, 1) := by decide +kernel
theorem dX4_removeAllOf_31 : decode cX4_removeAllOf 31 = .ok (.getfield 9, 3) := by decide +kernel
theorem dX4_removeAllOf_34 : decode cX4_removeAllOf 34 = .ok (.iload_n 3, 1) := by decide +kernel
theorem dX4_removeAllOf_35 : decode cX4_removeAllOf 35 = .ok (.aaload, 1) := by decide +kernel
theorem dX4_removeAllOf_36 : decode cX4_removeAllOf 36 = .ok (.aastore, 1) := by decide +kernel
theorem dX4_removeAllOf_37 : decode cX4_removeAllOf 37 = .ok (.iinc 2 1, 3) := by decide +kernel
theorem dX4_removeAllOf_40 : decode cX4_removeAllOf 40 = .ok (.iinc 3 1, 3) := by decide +kernel
theorem dX4_removeAllOf_43 : decode cX4_removeAllOf 43 = .ok (.goto (-39), 3) := by decide +kernel
theorem dX4_removeAllOf_46 : decode cX4_removeAllOf 46 = .ok (.aload_n 0, 1) := by decide +kernel
theorem dX4_removeAllOf_47 : decode cX4_removeAllOf 47 = .ok (.iload_n 2, 1) := by decide +kernel
theorem dX4_removeAllOf_48 : decode cX4_removeAllOf 48 = .ok (.putfield 15, 3) := by decide +kernel
theorem dX4_removeAllOf_51 : decode cX4_removeAllOf 51 = .ok (.return_, 1) := by decide +kernel
theorem dX4_sizeOf_0 : decode cX4_sizeOf 0 = .ok (.iconst 0, 1) := by decide +kernel
theorem dX4_sizeOf_1 : decode cX4_sizeOf 1 = .ok (.istore_n 2, 1) := by decide +kernel
theorem dX4_sizeOf_2 : decode cX4_sizeOf 2 = .ok (.iconst 0, 1) := by decide +kernel
theorem dX4_sizeOf_3 : decode cX4_sizeOf 3 = .ok (.istore_n 3, 1) := by decide +kernel
theorem dX4_sizeOf_4 : decode cX4_sizeOf 4 = .ok (.iload_n 3, 1) := by decide +kernel
theorem dX4_sizeOf_5 : decode cX4_sizeOf 5 = .ok (.aload_n 0, 1) := by decide +kernel
theorem dX4_sizeOf_6 : decode cX4_sizeOf 6 = .ok (.getfield 15, 3) := by decide +kernel
theorem dX4_sizeOf_9 : decode cX4_sizeOf 9 = .ok (.if_icmp .ge 25, 3) := by decide +kernel
theorem dX4_sizeOf_12 : decode cX4_sizeOf 12 = .ok (.aload_n 0, 1) := by decide +kernel
theorem dX4_sizeOf_13 : decode cX4_sizeOf 13 = .ok (.getfield 9, 3) := by decide +kernel
theorem dX4_sizeOf_16 : decode cX4_sizeOf 16 = .ok (.iload_n 3, 1) := by decide +kernel
theorem dX4_sizeOf_17 : decode cX4_sizeOf 17 = .ok (.aaload, 1) := by decide +kernel
theorem dX4_sizeOf_18 : decode cX4_sizeOf 18 = .ok (.getfield 29, 3) := by decide +kernel
theorem dX4_sizeOf_21 : decode cX4_sizeOf 21 = .ok (.iload_n 1, 1) := by decide +kernel
theorem dX4_sizeOf_22 : decode cX4_sizeOf 22 = .ok (.if_icmp .ne 6, 3) := by decide +kernel
theorem dX4_sizeOf_25 : decode cX4_sizeOf 25 = .ok (.iinc 2 1, 3) := by decide +kernel
theorem dX4_sizeOf_28 : decode cX4_sizeOf 28 = .ok (.iinc 3 1, 3) := by decide +kernel
theorem dX4_sizeOf_31 : decode cX4_sizeOf 31 = .ok (.goto (-27), 3) := by decide +kernel
theorem dX4_sizeOf_34 : decode cX4_sizeOf 34 = .ok (.iload_n 2, 1) := by decide +kernel
theorem dX4_sizeOf_35 : decode cX4_sizeOf 35 = .ok (.ireturn, 1) := by decide +kernel
theorem dX5_init_0 : decode cX5_init 0 = .ok (.aload_n 0, 1) := by decide +kernel
theorem dX5_init_1 : decode cX5_init 1 = .ok (.invokespecial 1, 3) := by decide +kernel
theorem dX5_init_4 : decode cX5_init 4 = .ok (.aload_n 0, 1) := by decide +kernel
theorem dX5_init_5 : decode cX5_init 5 = .ok (.new 7, 3) := by decide +kernel
theorem dX5_init_8 : decode cX5_init 8 = .ok (.dup, 1) := by decide +kernel
theorem dX5_init_9 : decode cX5_init 9 = .ok (.invokespecial 9, 3) := by decide +kernel
theorem dX5_init_12 : decode cX5_init 12 = .ok (.putfield 10, 3) := by decide +kernel
theorem dX5_init_15 : decode cX5_init 15 = .ok (.return_, 1) := by decide +kernel
theorem dX5_enter_0 : decode cX5_enter 0 = .ok (.aload_n 0, 1) := by decide +kernel
theorem dX5_enter_1 : decode cX5_enter 1 = .ok (.iconst 1, 1) := by decide +kernel
theorem dX5_enter_2 : decode cX5_enter 2 = .ok (.putfield 16, 3) := by decide +kernel
theorem dX5_enter_5 : decode cX5_enter 5 = .ok (.aload_n 0, 1) := by decide +kernel
theorem dX5_enter_6 : decode cX5_enter 6 = .ok (.iload_n 1, 1) := by decide +kernel
theorem dX5_enter_7 : decode cX5_enter 7 = .ok (.putfield 20, 3) := by decide +kernel
theorem dX5_enter_10 : decode cX5_enter 10 = .ok (.aload_n 0, 1) := by decide +kernel
theorem dX5_enter_11 : decode cX5_enter 11 = .ok (.iload_n 2, 1) := by decide +kernel
theorem dX5_enter_12 : decode cX5_enter 12 = .ok (.putfield 24, 3) := by decide +kernel
theorem dX5_enter_15 : decode cX5_enter 15 = .ok (.aload_n 0, 1) := by decide +kernel
theorem dX5_enter_16 : decode cX5_enter 16 = .ok (.iload_n 3, 1) := by decide +kernel
theorem dX5_enter_17 : decode cX5_enter 17 = .ok (.putfield 27, 3) := by decide +kernel
theorem dX5_enter_20 : decode cX5_enter 20 = .ok (.aload_n 0, 1) := by decide +kernel
theorem dX5_enter_21 : decode cX5_enter 21 = .ok (.iload 4, 2) := by decide +kernel
theorem dX5_enter_23 : decode cX5_enter 23 = .ok (.putfield 30, 3) := by decide +kernel
theorem dX5_enter_26 : decode cX5_enter 26 = .ok (.aload_n 0, 1) := by decide +kernel
theorem dX5_enter_27 : decode cX5_enter 27 = .ok (.iconst 0, 1) := by decide +kernel
theorem dX5_enter_28 : decode cX5_enter 28 = .ok (.putfield 33, 3) := by decide +kernel
theorem dX5_enter_31 : decode cX5_enter 31 = .ok (.aload_n 0, 1) := by decide +kernel
theorem dX5_enter_32 : decode cX5_enter 32 = .ok (.iconst 0, 1) := by decide +kernel
theorem dX5_enter_33 : decode cX5_enter 33 = .ok (.putfield 36, 3) := by decide +kernel
theorem dX5_enter_36 : decode cX5_enter 36 = .ok (.aload_n 0, 1) := by decide +kernel
theorem dX5_enter_37 : decode cX5_enter 37 = .ok (.iconst 0, 1) := by decide +kernel
theorem dX5_enter_38 : decode cX5_enter 38 = .ok (.putfield 39, 3) := by decide +kernel
theorem dX5_enter_41 : decode cX5_enter 41 = .ok (.aload_n 0, 1) := by decide +kernel
theorem dX5_enter_42 : decode cX5_enter 42 = .ok (.iconst 0, 1) := by decide +kernel
theorem dX5_enter_43 : decode cX5_enter 43 = .ok (.putfield 42, 3) := by decide +kernel
theorem dX5_enter_46 : decode cX5_enter 46 = .ok (.aload_n 0, 1) := by decide +kernel
theorem dX5_enter_47 : decode cX5_enter 47 = .ok (.iconst 0, 1) := by decide +kernel
theorem dX5_enter_48 : decode cX5_enter 48 = .ok (.putfield 45, 3) := by decide +kernel
theorem dX5_enter_51 : decode cX5_enter 51 = .ok (.aload_n 0, 1) := by decide +kernel
theorem dX5_enter_52 : decode cX5_enter 52 = .ok (.iconst 0, 1) := by decide +kernel
theorem dX5_enter_53 : decode cX5_enter 53 = .ok (.putfield 48, 3) := by decide +kernel
theorem dX5_enter_56 : decode cX5_enter 56 = .ok (.return_, 1) := by decide +kernel
theorem dX5_releaseJob_0 : decode cX5_releaseJob 0 = .ok (.aload_n 0, 1) := by decide +kernel
theorem dX5_releaseJob_1 : decode cX5_releaseJob 1 = .ok (.getfield 10, 3) := by decide +kernel
theorem dX5_releaseJob_4 : decode cX5_releaseJob 4 = .ok (.aload_n 0, 1) := by decide +kernel
theorem dX5_releaseJob_5 : decode cX5_releaseJob 5 = .ok (.getfield 30, 3) := by decide +kernel
theorem dX5_releaseJob_8 : decode cX5_releaseJob 8 = .ok (.aload_n 0, 1) := by decide +kernel
theorem dX5_releaseJob_9 : decode cX5_releaseJob 9 = .ok (.getfield 30, 3) := by decide +kernel
theorem dX5_releaseJob_12 : decode cX5_releaseJob 12 = .ok (.aload_n 0, 1) := by decide +kernel
theorem dX5_releaseJob_13 : decode cX5_releaseJob 13 = .ok (.getfield 27, 3) := by decide +kernel
theorem dX5_releaseJob_16 : decode cX5_releaseJob 16 = .ok (.iadd, 1) := by decide +kernel
theorem dX5_releaseJob_17 : decode cX5_releaseJob 17 = .ok (.invokevirtual 51, 3) := by decide +kernel
theorem dX5_releaseJob_20 : decode cX5_releaseJob 20 = .ok (.aload_n 0, 1) := by decide +kernel
theorem dX5_releaseJob_21 : decode cX5_releaseJob 21 = .ok (.dup, 1) := by decide +kernel
theorem dX5_releaseJob_22 : decode cX5_releaseJob 22 = .ok (.getfield 33, 3) := by decide +kernel
theorem dX5_releaseJob_25 : decode cX5_releaseJob 25 = .ok (.iconst 1, 1) := by decide +kernel
theorem dX5_releaseJob_26 : decode cX5_releaseJob 26 = .ok (.iadd, 1) := by decide +kernel
theorem dX5_releaseJob_27 : decode cX5_releaseJob 27 = .ok (.putfield 33, 3) := by decide +kernel
theorem dX5_releaseJob_30 : decode cX5_releaseJob 30 = .ok (.aload_n 0, 1) := by decide +kernel
theorem dX5_releaseJob_31 : decode cX5_releaseJob 31 = .ok (.dup, 1) := by decide +kernel
theorem dX5_releaseJob_32 : decode cX5_releaseJob 32 = .ok (.getfield 30, 3) := by decide +kernel
theorem dX5_releaseJob_35 : decode cX5_releaseJob 35 = .ok (.aload_n 0, 1) := by decide +kernel
theorem dX5_releaseJob_36 : decode cX5_releaseJob 36 = .ok (.getfield 20, 3) := by decide +kernel
theorem dX5_releaseJob_39 : decode cX5_releaseJob 39 = .ok (.iadd, 1) := by decide +kernel
theorem dX5_releaseJob_40 : decode cX5_releaseJob 40 = .ok (.putfield 30, 3) := by decide +kernel
theorem dX5_releaseJob_43 : decode cX5_releaseJob 43 = .ok (.return_, 1) := by decide +kernel
theorem dX5_endJob_0 : decode cX5_endJob 0 = .ok (.aload_n 0, 1) := by decide +kernel
theorem dX5_endJob_1 : decode cX5_endJob 1 = .ok (.getfield 10, 3) := by decide +kernel
theorem dX5_endJob_4 : decode cX5_endJob 4 = .ok (.iconst 0, 1) := by decide +kernel
theorem dX5_endJob_5 : decode cX5_endJob 5 = .ok (.putfield 55, 3) := by decide +kernel
theorem dX5_endJob_8 : decode cX5_endJob 8 = .ok (.aload_n 0, 1) := by decide +kernel
theorem dX5_endJob_9 : decode cX5_endJob 9 = .ok (.dup, 1) := by decide +kernel
theorem dX5_endJob_10 : decode cX5_endJob 10 = .ok (.getfield 36, 3) := by decide +kernel
theorem dX5_endJob_13 : decode cX5_endJob 13 = .ok (.iconst 1, 1) := by decide +kernel
theorem dX5_endJob_14 : decode cX5_endJob 14 = .ok (.iadd, 1) := by decide +kernel
theorem dX5_endJob_15 : decode cX5_endJob 15 = .ok (.putfield 36, 3) := by decide +kernel
theorem dX5_endJob_18 : decode cX5_endJob 18 = .ok (.aload_n 0, 1) := by decide +kernel
theorem dX5_endJob_19 : decode cX5_endJob 19 = .ok (.aload_n 0, 1) := by decide +kernel
theorem dX5_endJob_20 : decode cX5_endJob 20 = .ok (.getfield 48, 3) := by decide +kernel
theorem dX5_endJob_23 : decode cX5_endJob 23 = .ok (.iload_n 1, 1) := by decide +kernel
theorem dX5_endJob_24 : decode cX5_endJob 24 = .ok (.aload_n 0, 1) := by decide +kernel
theorem dX5_endJob_25 : decode cX5_endJob 25 = .ok (.getfield 10, 3) := by decide +kernel
theorem dX5_endJob_28 : decode cX5_endJob 28 = .ok (.getfield 58, 3) := by decide +kernel
theorem dX5_endJob_31 : decode cX5_endJob 31 = .ok (.isub, 1) := by decide +kernel
theorem dX5_endJob_32 : decode cX5_endJob 32 = .ok (.invokestatic 61, 3) := by decide +kernel
theorem dX5_endJob_35 : decode cX5_endJob 35 = .ok (.putfield 48, 3) := by decide +kernel
theorem dX5_endJob_38 : decode cX5_endJob 38 = .ok (.return_, 1) := by decide +kernel
theorem dJ7_fill_53178_0 : decode cJ7_fill_53178 0 = .ok (.iconst 0, 1) := by decide +kernel
theorem dJ7_fill_53178_1 : decode cJ7_fill_53178 1 = .ok (.istore_n 2, 1) := by decide +kernel
theorem dJ7_fill_53178_2 : decode cJ7_fill_53178 2 = .ok (.aload_n 0, 1) := by decide +kernel
theorem dJ7_fill_53178_3 : decode cJ7_fill_53178 3 = .ok (.arraylength, 1) := by decide +kernel
theorem dJ7_fill_53178_4 : decode cJ7_fill_53178 4 = .ok (.istore_n 3, 1) := by decide +kernel
theorem dJ7_fill_53178_5 : decode cJ7_fill_53178 5 = .ok (.iload_n 2, 1) := by decide +kernel
theorem dJ7_fill_53178_6 : decode cJ7_fill_53178 6 = .ok (.iload_n 3, 1) := by decide +kernel
theorem dJ7_fill_53178_7 : decode cJ7_fill_53178 7 = .ok (.if_icmp .ge 13, 3) := by decide +kernel
theorem dJ7_fill_53178_10 : decode cJ7_fill_53178 10 = .ok (.aload_n 0, 1) := by decide +kernel
theorem dJ7_fill_53178_11 : decode cJ7_fill_53178 11 = .ok (.iload_n 2, 1) := by decide +kernel
theorem dJ7_fill_53178_12 : decode cJ7_fill_53178 12 = .ok (.iload_n 1, 1) := by decide +kernel
theorem dJ7_fill_53178_13 : decode cJ7_fill_53178 13 = .ok (.iastore, 1) := by decide +kernel
theorem dJ7_fill_53178_14 : decode cJ7_fill_53178 14 = .ok (.iinc 2 1, 3) := by decide +kernel
theorem dJ7_fill_53178_17 : decode cJ7_fill_53178 17 = .ok (.goto (-12), 3) := by decide +kernel
theorem dJ7_fill_53178_20 : decode cJ7_fill_53178 20 = .ok (.return_, 1) := by decide +kernel
theorem dJ9_max_7cf53_0 : decode cJ9_max_7cf53 0 = .ok (.iload_n 0, 1) := by decide +kernel
theorem dJ9_max_7cf53_1 : decode cJ9_max_7cf53 1 = .ok (.iload_n 1, 1) := by decide +kernel
theorem dJ9_max_7cf53_2 : decode cJ9_max_7cf53 2 = .ok (.if_icmp .lt 7, 3) := by decide +kernel
theorem dJ9_max_7cf53_5 : decode cJ9_max_7cf53 5 = .ok (.iload_n 0, 1) := by decide +kernel
theorem dJ9_max_7cf53_6 : decode cJ9_max_7cf53 6 = .ok (.goto 4, 3) := by decide +kernel
theorem dJ9_max_7cf53_9 : decode cJ9_max_7cf53 9 = .ok (.iload_n 1, 1) := by decide +kernel
theorem dJ9_max_7cf53_10 : decode cJ9_max_7cf53 10 = .ok (.ireturn, 1) := by decide +kernel
theorem dJ9_min_7cf53_0 : decode cJ9_min_7cf53 0 = .ok (.iload_n 0, 1) := by decide +kernel
theorem dJ9_min_7cf53_1 : decode cJ9_min_7cf53 1 = .ok (.iload_n 1, 1) := by decide +kernel
theorem dJ9_min_7cf53_2 : decode cJ9_min_7cf53 2 = .ok (.if_icmp .gt 7, 3) := by decide +kernel
theorem dJ9_min_7cf53_5 : decode cJ9_min_7cf53 5 = .ok (.iload_n 0, 1) := by decide +kernel
theorem dJ9_min_7cf53_6 : decode cJ9_min_7cf53 6 = .ok (.goto 4, 3) := by decide +kernel
theorem dJ9_min_7cf53_9 : decode cJ9_min_7cf53 9 = .ok (.iload_n 1, 1) := by decide +kernel
theorem dJ9_min_7cf53_10 : decode cJ9_min_7cf53 10 = .ok (.ireturn, 1) := by decide +kernel
