theorem dX7_misses_70 : decode cX7_misses 70 = .ok (.getfield 83, 3) := by decide +kernel
theorem dX7_misses_73 : decode cX7_misses 73 = .ok (.aload_n 0, 1) := by decide +kernel
theorem dX7_misses_74 : decode cX7_misses 74 = .ok (.getfield 143, 3) := by decide +kernel
theorem dX7_misses_77 : decode cX7_misses 77 = .ok (.aload_n 0, 1) := by decide +kernel
theorem dX7_misses_78 : decode cX7_misses 78 = .ok (.getfield 127, 3) := by decide +kernel
theorem dX7_misses_81 : decode cX7_misses 81 = .ok (.iastore, 1) := by decide +kernel
theorem dX7_misses_82 : decode cX7_misses 82 = .ok (.aload_n 0, 1) := by decide +kernel
theorem dX7_misses_83 : decode cX7_misses 83 = .ok (.dup, 1) := by decide +kernel
theorem dX7_misses_84 : decode cX7_misses 84 = .ok (.getfield 143, 3) := by decide +kernel
theorem dX7_misses_87 : decode cX7_misses 87 = .ok (.iconst 1, 1) := by decide +kernel
theorem dX7_misses_88 : decode cX7_misses 88 = .ok (.iadd, 1) := by decide +kernel
theorem dX7_misses_89 : decode cX7_misses 89 = .ok (.putfield 143, 3) := by decide +kernel
theorem dX7_misses_92 : decode cX7_misses 92 = .ok (.aload_n 0, 1) := by decide +kernel
theorem dX7_misses_93 : decode cX7_misses 93 = .ok (.iload_n 2, 1) := by decide +kernel
theorem dX7_misses_94 : decode cX7_misses 94 = .ok (.invokevirtual 140, 3) := by decide +kernel
theorem dX7_misses_97 : decode cX7_misses 97 = .ok (.iinc 2 1, 3) := by decide +kernel
theorem dX7_misses_100 : decode cX7_misses 100 = .ok (.goto (-96), 3) := by decide +kernel
theorem dX7_misses_103 : decode cX7_misses 103 = .ok (.iload_n 1, 1) := by decide +kernel
theorem dX7_misses_104 : decode cX7_misses 104 = .ok (.ireturn, 1) := by decide +kernel
theorem dX7_releases_0 : decode cX7_releases 0 = .ok (.iconst 0, 1) := by decide +kernel
theorem dX7_releases_1 : decode cX7_releases 1 = .ok (.istore_n 1, 1) := by decide +kernel
theorem dX7_releases_2 : decode cX7_releases 2 = .ok (.iload_n 1, 1) := by decide +kernel
theorem dX7_releases_3 : decode cX7_releases 3 = .ok (.aload_n 0, 1) := by decide +kernel
theorem dX7_releases_4 : decode cX7_releases 4 = .ok (.getfield 93, 3) := by decide +kernel
theorem dX7_releases_7 : decode cX7_releases 7 = .ok (.if_icmp .ge 114, 3) := by decide +kernel
theorem dX7_releases_10 : decode cX7_releases 10 = .ok (.aload_n 0, 1) := by decide +kernel
theorem dX7_releases_11 : decode cX7_releases 11 = .ok (.getfield 9, 3) := by decide +kernel
theorem dX7_releases_14 : decode cX7_releases 14 = .ok (.iload_n 1, 1) := by decide +kernel
theorem dX7_releases_15 : decode cX7_releases 15 = .ok (.baload, 1) := by decide +kernel
theorem dX7_releases_16 : decode cX7_releases 16 = .ok (.ifCond .eq 99, 3) := by decide +kernel
theorem dX7_releases_19 : decode cX7_releases 19 = .ok (.aload_n 0, 1) := by decide +kernel
theorem dX7_releases_20 : decode cX7_releases 20 = .ok (.getfield 23, 3) := by decide +kernel
theorem dX7_releases_23 : decode cX7_releases 23 = .ok (.iload_n 1, 1) := by decide +kernel
theorem dX7_releases_24 : decode cX7_releases 24 = .ok (.iaload, 1) := by decide +kernel
theorem dX7_releases_25 : decode cX7_releases 25 = .ok (.aload_n 0, 1) := by decide +kernel
theorem dX7_releases_26 : decode cX7_releases 26 = .ok (.getfield 127, 3) := by decide +kernel
theorem dX7_releases_29 : decode cX7_releases 29 = .ok (.if_icmp .eq 6, 3) := by decide +kernel
theorem dX7_releases_32 : decode cX7_releases 32 = .ok (.goto 83, 3) := by decide +kernel
theorem dX7_releases_35 : decode cX7_releases 35 = .ok (.aload_n 0, 1) := by decide +kernel
theorem dX7_releases_36 : decode cX7_releases 36 = .ok (.getfield 44, 3) := by decide +kernel
theorem dX7_releases_39 : decode cX7_releases 39 = .ok (.iload_n 1, 1) := by decide +kernel
theorem dX7_releases_40 : decode cX7_releases 40 = .ok (.iconst 1, 1) := by decide +kernel
theorem dX7_releases_41 : decode cX7_releases 41 = .ok (.bastore, 1) := by decide +kernel
theorem dX7_releases_42 : decode cX7_releases 42 = .ok (.aload_n 0, 1) := by decide +kernel
theorem dX7_releases_43 : decode cX7_releases 43 = .ok (.getfield 47, 3) := by decide +kernel
theorem dX7_releases_46 : decode cX7_releases 46 = .ok (.iload_n 1, 1) := by decide +kernel
theorem dX7_releases_47 : decode cX7_releases 47 = .ok (.aload_n 0, 1) := by decide +kernel
theorem dX7_releases_48 : decode cX7_releases 48 = .ok (.getfield 127, 3) := by decide +kernel
theorem dX7_releases_51 : decode cX7_releases 51 = .ok (.iastore, 1) := by decide +kernel
theorem dX7_releases_52 : decode cX7_releases 52 = .ok (.aload_n 0, 1) := by decide +kernel
theorem dX7_releases_53 : decode cX7_releases 53 = .ok (.getfield 50, 3) := by decide +kernel
theorem dX7_releases_56 : decode cX7_releases 56 = .ok (.iload_n 1, 1) := by decide +kernel
theorem dX7_releases_57 : decode cX7_releases 57 = .ok (.aload_n 0, 1) := by decide +kernel
theorem dX7_releases_58 : decode cX7_releases 58 = .ok (.getfield 127, 3) := by decide +kernel
theorem dX7_releases_61 : decode cX7_releases 61 = .ok (.aload_n 0, 1) := by decide +kernel
theorem dX7_releases_62 : decode cX7_releases 62 = .ok (.getfield 20, 3) := by decide +kernel
theorem dX7_releases_65 : decode cX7_releases 65 = .ok (.iload_n 1, 1) := by decide +kernel
theorem dX7_releases_66 : decode cX7_releases 66 = .ok (.iaload, 1) := by decide +kernel
theorem dX7_releases_67 : decode cX7_releases 67 = .ok (.iadd, 1) := by decide +kernel
theorem dX7_releases_68 : decode cX7_releases 68 = .ok (.iastore, 1) := by decide +kernel
theorem dX7_releases_69 : decode cX7_releases 69 = .ok (.aload_n 0, 1) := by decide +kernel
theorem dX7_releases_70 : decode cX7_releases 70 = .ok (.getfield 53, 3) := by decide +kernel
theorem dX7_releases_73 : decode cX7_releases 73 = .ok (.iload_n 1, 1) := by decide +kernel
theorem dX7_releases_74 : decode cX7_releases 74 = .ok (.iconst 0, 1) := by decide +kernel
theorem dX7_releases_75 : decode cX7_releases 75 = .ok (.iastore, 1) := by decide +kernel
theorem dX7_releases_76 : decode cX7_releases 76 = .ok (.aload_n 0, 1) := by decide +kernel
theorem dX7_releases_77 : decode cX7_releases 77 = .ok (.getfield 56, 3) := by decide +kernel
theorem dX7_releases_80 : decode cX7_releases 80 = .ok (.iload_n 1, 1) := by decide +kernel
theorem dX7_releases_81 : decode cX7_releases 81 = .ok (.iconst (-1), 1) := by decide +kernel
theorem dX7_releases_82 : decode cX7_releases 82 = .ok (.iastore, 1) := by decide +kernel
theorem dX7_releases_83 : decode cX7_releases 83 = .ok (.aload_n 0, 1) := by decide +kernel
theorem dX7_releases_84 : decode cX7_releases 84 = .ok (.getfield 59, 3) := by decide +kernel
theorem dX7_releases_87 : decode cX7_releases 87 = .ok (.iload_n 1, 1) := by decide +kernel
theorem dX7_releases_88 : decode cX7_releases 88 = .ok (.iconst 0, 1) := by decide +kernel
theorem dX7_releases_89 : decode cX7_releases 89 = .ok (.bastore, 1) := by decide +kernel
theorem dX7_releases_90 : decode cX7_releases 90 = .ok (.aload_n 0, 1) := by decide +kernel
theorem dX7_releases_91 : decode cX7_releases 91 = .ok (.getfield 26, 3) := by decide +kernel
theorem dX7_releases_94 : decode cX7_releases 94 = .ok (.iload_n 1, 1) := by decide +kernel
theorem dX7_releases_95 : decode cX7_releases 95 = .ok (.dup2, 1) := by decide +kernel
theorem dX7_releases_96 : decode cX7_releases 96 = .ok (.iaload, 1) := by decide +kernel
theorem dX7_releases_97 : decode cX7_releases 97 = .ok (.iconst 1, 1) := by decide +kernel
theorem dX7_releases_98 : decode cX7_releases 98 = .ok (.iadd, 1) := by decide +kernel
theorem dX7_releases_99 : decode cX7_releases 99 = .ok (.iastore, 1) := by decide +kernel
theorem dX7_releases_100 : decode cX7_releases 100 = .ok (.aload_n 0, 1) := by decide +kernel
theorem dX7_releases_101 : decode cX7_releases 101 = .ok (.getfield 23, 3) := by decide +kernel
theorem dX7_releases_104 : decode cX7_releases 104 = .ok (.iload_n 1, 1) := by decide +kernel
theorem dX7_releases_105 : decode cX7_releases 105 = .ok (.dup2, 1) := by decide +kernel
theorem dX7_releases_106 : decode cX7_releases 106 = .ok (.iaload, 1) := by decide +kernel
theorem dX7_releases_107 : decode cX7_releases 107 = .ok (.aload_n 0, 1) := by decide +kernel
theorem dX7_releases_108 : decode cX7_releases 108 = .ok (.getfield 13, 3) := by decide +kernel
theorem dX7_releases_111 : decode cX7_releases 111 = .ok (.iload_n 1, 1) := by decide +kernel
theorem dX7_releases_112 : decode cX7_releases 112 = .ok (.iaload, 1) := by decide +kernel
theorem dX7_releases_113 : decode cX7_releases 113 = .ok (.iadd, 1) := by decide +kernel
theorem dX7_releases_114 : decode cX7_releases 114 = .ok (.iastore, 1) := by decide +kernel
theorem dX7_releases_115 : decode cX7_releases 115 = .ok (.iinc 1 1, 3) := by decide +kernel
theorem dX7_releases_118 : decode cX7_releases 118 = .ok (.goto (-116), 3) := by decide +kernel
theorem dX7_releases_121 : decode cX7_releases 121 = .ok (.return_, 1) := by decide +kernel
theorem dX7_wanted_0 : decode cX7_wanted 0 = .ok (.iconst (-1), 1) := by decide +kernel
theorem dX7_wanted_1 : decode cX7_wanted 1 = .ok (.istore_n 2, 1) := by decide +kernel
theorem dX7_wanted_2 : decode cX7_wanted 2 = .ok (.iconst 0, 1) := by decide +kernel
theorem dX7_wanted_3 : decode cX7_wanted 3 = .ok (.istore_n 3, 1) := by decide +kernel
theorem dX7_wanted_4 : decode cX7_wanted 4 = .ok (.iload_n 3, 1) := by decide +kernel
theorem dX7_wanted_5 : decode cX7_wanted 5 = .ok (.aload_n 0, 1) := by decide +kernel
theorem dX7_wanted_6 : decode cX7_wanted 6 = .ok (.getfield 133, 3) := by decide +kernel
theorem dX7_wanted_9 : decode cX7_wanted 9 = .ok (.if_icmp .ge 74, 3) := by decide +kernel
theorem dX7_wanted_12 : decode cX7_wanted 12 = .ok (.aload_n 0, 1) := by decide +kernel
theorem dX7_wanted_13 : decode cX7_wanted 13 = .ok (.getfield 65, 3) := by decide +kernel
theorem dX7_wanted_16 : decode cX7_wanted 16 = .ok (.iload_n 3, 1) := by decide +kernel
theorem dX7_wanted_17 : decode cX7_wanted 17 = .ok (.iaload, 1) := by decide +kernel
theorem dX7_wanted_18 : decode cX7_wanted 18 = .ok (.iload_n 1, 1) := by decide +kernel
theorem dX7_wanted_19 : decode cX7_wanted 19 = .ok (.if_icmp .ne 58, 3) := by decide +kernel
theorem dX7_wanted_22 : decode cX7_wanted 22 = .ok (.aload_n 0, 1) := by decide +kernel
theorem dX7_wanted_23 : decode cX7_wanted 23 = .ok (.getfield 71, 3) := by decide +kernel
theorem dX7_wanted_26 : decode cX7_wanted 26 = .ok (.iload_n 3, 1) := by decide +kernel
theorem dX7_wanted_27 : decode cX7_wanted 27 = .ok (.iaload, 1) := by decide +kernel
theorem dX7_wanted_28 : decode cX7_wanted 28 = .ok (.aload_n 0, 1) := by decide +kernel
theorem dX7_wanted_29 : decode cX7_wanted 29 = .ok (.getfield 53, 3) := by decide +kernel
theorem dX7_wanted_32 : decode cX7_wanted 32 = .ok (.iload_n 1, 1) := by decide +kernel
theorem dX7_wanted_33 : decode cX7_wanted 33 = .ok (.iaload, 1) := by decide +kernel
theorem dX7_wanted_34 : decode cX7_wanted 34 = .ok (.if_icmp .ne 43, 3) := by decide +kernel
theorem dX7_wanted_37 : decode cX7_wanted 37 = .ok (.aload_n 0, 1) := by decide +kernel
theorem dX7_wanted_38 : decode cX7_wanted 38 = .ok (.getfield 62, 3) := by decide +kernel
theorem dX7_wanted_41 : decode cX7_wanted 41 = .ok (.aload_n 0, 1) := by decide +kernel
theorem dX7_wanted_42 : decode cX7_wanted 42 = .ok (.getfield 68, 3) := by decide +kernel
theorem dX7_wanted_45 : decode cX7_wanted 45 = .ok (.iload_n 3, 1) := by decide +kernel
theorem dX7_wanted_46 : decode cX7_wanted 46 = .ok (.iaload, 1) := by decide +kernel
theorem dX7_wanted_47 : decode cX7_wanted 47 = .ok (.iaload, 1) := by decide +kernel
theorem dX7_wanted_48 : decode cX7_wanted 48 = .ok (.iload_n 1, 1) := by decide +kernel
theorem dX7_wanted_49 : decode cX7_wanted 49 = .ok (.if_icmp .ne 6, 3) := by decide +kernel
theorem dX7_wanted_52 : decode cX7_wanted 52 = .ok (.goto 25, 3) := by decide +kernel
theorem dX7_wanted_55 : decode cX7_wanted 55 = .ok (.iload_n 2, 1) := by decide +kernel
theorem dX7_wanted_56 : decode cX7_wanted 56 = .ok (.iconst (-1), 1) := by decide +kernel
theorem dX7_wanted_57 : decode cX7_wanted 57 = .ok (.if_icmp .eq 18, 3) := by decide +kernel
theorem dX7_wanted_60 : decode cX7_wanted 60 = .ok (.aload_n 0, 1) := by decide +kernel
theorem dX7_wanted_61 : decode cX7_wanted 61 = .ok (.getfield 74, 3) := by decide +kernel
theorem dX7_wanted_64 : decode cX7_wanted 64 = .ok (.iload_n 3, 1) := by decide +kernel
theorem dX7_wanted_65 : decode cX7_wanted 65 = .ok (.iaload, 1) := by decide +kernel
theorem dX7_wanted_66 : decode cX7_wanted 66 = .ok (.aload_n 0, 1) := by decide +kernel
theorem dX7_wanted_67 : decode cX7_wanted 67 = .ok (.getfield 74, 3) := by decide +kernel
theorem dX7_wanted_70 : decode cX7_wanted 70 = .ok (.iload_n 2, 1) := by decide +kernel
theorem dX7_wanted_71 : decode cX7_wanted 71 = .ok (.iaload, 1) := by decide +kernel
theorem dX7_wanted_72 : decode cX7_wanted 72 = .ok (.if_icmp .le 5, 3) := by decide +kernel
theorem dX7_wanted_75 : decode cX7_wanted 75 = .ok (.iload_n 3, 1) := by decide +kernel
theorem dX7_wanted_76 : decode cX7_wanted 76 = .ok (.istore_n 2, 1) := by decide +kernel
theorem dX7_wanted_77 : decode cX7_wanted 77 = .ok (.iinc 3 1, 3) := by decide +kernel
theorem dX7_wanted_80 : decode cX7_wanted 80 = .ok (.goto (-76), 3) := by decide +kernel
theorem dX7_wanted_83 : decode cX7_wanted 83 = .ok (.iload_n 2, 1) := by decide +kernel
theorem dX7_wanted_84 : decode cX7_wanted 84 = .ok (.ireturn, 1) := by decide +kernel
theorem dX7_taken_0 : decode cX7_taken 0 = .ok (.aload_n 0, 1) := by decide +kernel
theorem dX7_taken_1 : decode cX7_taken 1 = .ok (.iconst (-1), 1) := by decide +kernel
theorem dX7_taken_2 : decode cX7_taken 2 = .ok (.invokevirtual 119, 3) := by decide +kernel
theorem dX7_taken_5 : decode cX7_taken 5 = .ok (.istore_n 1, 1) := by decide +kernel
theorem dX7_taken_6 : decode cX7_taken 6 = .ok (.iload_n 1, 1) := by decide +kernel
theorem dX7_taken_7 : decode cX7_taken 7 = .ok (.iconst (-1), 1) := by decide +kernel
theorem dX7_taken_8 : decode cX7_taken 8 = .ok (.if_icmp .eq 67, 3) := by decide +kernel
theorem dX7_taken_11 : decode cX7_taken 11 = .ok (.aload_n 0, 1) := by decide +kernel
theorem dX7_taken_12 : decode cX7_taken 12 = .ok (.iload_n 1, 1) := by decide +kernel
theorem dX7_taken_13 : decode cX7_taken 13 = .ok (.invokevirtual 146, 3) := by decide +kernel
theorem dX7_taken_16 : decode cX7_taken 16 = .ok (.istore_n 2, 1) := by decide +kernel
theorem dX7_taken_17 : decode cX7_taken 17 = .ok (.iload_n 2, 1) := by decide +kernel
theorem dX7_taken_18 : decode cX7_taken 18 = .ok (.iconst (-1), 1) := by decide +kernel
theorem dX7_taken_19 : decode cX7_taken 19 = .ok (.if_icmp .ne 5, 3) := by decide +kernel
theorem dX7_taken_22 : decode cX7_taken 22 = .ok (.iload_n 1, 1) := by decide +kernel
theorem dX7_taken_23 : decode cX7_taken 23 = .ok (.ireturn, 1) := by decide +kernel
theorem dX7_taken_24 : decode cX7_taken 24 = .ok (.aload_n 0, 1) := by decide +kernel
theorem dX7_taken_25 : decode cX7_taken 25 = .ok (.getfield 62, 3) := by decide +kernel
theorem dX7_taken_28 : decode cX7_taken 28 = .ok (.aload_n 0, 1) := by decide +kernel
theorem dX7_taken_29 : decode cX7_taken 29 = .ok (.getfield 68, 3) := by decide +kernel
theorem dX7_taken_32 : decode cX7_taken 32 = .ok (.iload_n 2, 1) := by decide +kernel
theorem dX7_taken_33 : decode cX7_taken 33 = .ok (.iaload, 1) := by decide +kernel
theorem dX7_taken_34 : decode cX7_taken 34 = .ok (.iaload, 1) := by decide +kernel
theorem dX7_taken_35 : decode cX7_taken 35 = .ok (.iconst (-1), 1) := by decide +kernel
theorem dX7_taken_36 : decode cX7_taken 36 = .ok (.if_icmp .ne 18, 3) := by decide +kernel
theorem dX7_taken_39 : decode cX7_taken 39 = .ok (.aload_n 0, 1) := by decide +kernel
theorem dX7_taken_40 : decode cX7_taken 40 = .ok (.getfield 62, 3) := by decide +kernel
theorem dX7_taken_43 : decode cX7_taken 43 = .ok (.aload_n 0, 1) := by decide +kernel
theorem dX7_taken_44 : decode cX7_taken 44 = .ok (.getfield 68, 3) := by decide +kernel
theorem dX7_taken_47 : decode cX7_taken 47 = .ok (.iload_n 2, 1) := by decide +kernel
theorem dX7_taken_48 : decode cX7_taken 48 = .ok (.iaload, 1) := by decide +kernel
theorem dX7_taken_49 : decode cX7_taken 49 = .ok (.iload_n 1, 1) := by decide +kernel
theorem dX7_taken_50 : decode cX7_taken 50 = .ok (.iastore, 1) := by decide +kernel
theorem dX7_taken_51 : decode cX7_taken 51 = .ok (.goto 21, 3) := by decide +kernel
theorem dX7_taken_54 : decode cX7_taken 54 = .ok (.aload_n 0, 1) := by decide +kernel
theorem dX7_taken_55 : decode cX7_taken 55 = .ok (.getfield 56, 3) := by decide +kernel
theorem dX7_taken_58 : decode cX7_taken 58 = .ok (.iload_n 1, 1) := by decide +kernel
theorem dX7_taken_59 : decode cX7_taken 59 = .ok (.aload_n 0, 1) := by decide +kernel
theorem dX7_taken_60 : decode cX7_taken 60 = .ok (.getfield 68, 3) := by decide +kernel
theorem dX7_taken_63 : decode cX7_taken 63 = .ok (.iload_n 2, 1) := by decide +kernel
theorem dX7_taken_64 : decode cX7_taken 64 = .ok (.iaload, 1) := by decide +kernel
theorem dX7_taken_65 : decode cX7_taken 65 = .ok (.iastore, 1) := by decide +kernel
theorem dX7_taken_66 : decode cX7_taken 66 = .ok (.aload_n 0, 1) := by decide +kernel
theorem dX7_taken_67 : decode cX7_taken 67 = .ok (.iconst (-1), 1) := by decide +kernel
theorem dX7_taken_68 : decode cX7_taken 68 = .ok (.invokevirtual 119, 3) := by decide +kernel
theorem dX7_taken_71 : decode cX7_taken 71 = .ok (.istore_n 1, 1) := by decide +kernel
theorem dX7_taken_72 : decode cX7_taken 72 = .ok (.goto (-66), 3) := by decide +kernel
theorem dX7_taken_75 : decode cX7_taken 75 = .ok (.iconst (-1), 1) := by decide +kernel
theorem dX7_taken_76 : decode cX7_taken 76 = .ok (.ireturn, 1) := by decide +kernel
theorem dX7_ending_0 : decode cX7_ending 0 = .ok (.iconst (-1), 1) := by decide +kernel
theorem dX7_ending_1 : decode cX7_ending 1 = .ok (.istore_n 2, 1) := by decide +kernel
theorem dX7_ending_2 : decode cX7_ending 2 = .ok (.iconst 0, 1) := by decide +kernel
theorem dX7_ending_3 : decode cX7_ending 3 = .ok (.istore_n 3, 1) := by decide +kernel
theorem dX7_ending_4 : decode cX7_ending 4 = .ok (.iload_n 3, 1) := by decide +kernel
theorem dX7_ending_5 : decode cX7_ending 5 = .ok (.aload_n 0, 1) := by decide +kernel
theorem dX7_ending_6 : decode cX7_ending 6 = .ok (.getfield 133, 3) := by decide +kernel
theorem dX7_ending_9 : decode cX7_ending 9 = .ok (.if_icmp .ge 81, 3) := by decide +kernel
theorem dX7_ending_12 : decode cX7_ending 12 = .ok (.aload_n 0, 1) := by decide +kernel
theorem dX7_ending_13 : decode cX7_ending 13 = .ok (.getfield 65, 3) := by decide +kernel
theorem dX7_ending_16 : decode cX7_ending 16 = .ok (.iload_n 3, 1) := by decide +kernel
theorem dX7_ending_17 : decode cX7_ending 17 = .ok (.iaload, 1) := by decide +kernel
theorem dX7_ending_18 : decode cX7_ending 18 = .ok (.iload_n 1, 1) := by decide +kernel
theorem dX7_ending_19 : decode cX7_ending 19 = .ok (.if_icmp .ne 65, 3) := by decide +kernel
theorem dX7_ending_22 : decode cX7_ending 22 = .ok (.aload_n 0, 1) := by decide +kernel
theorem dX7_ending_23 : decode cX7_ending 23 = .ok (.getfield 71, 3) := by decide +kernel
theorem dX7_ending_26 : decode cX7_ending 26 = .ok (.iload_n 3, 1) := by decide +kernel
theorem dX7_ending_27 : decode cX7_ending 27 = .ok (.iaload, 1) := by decide +kernel
theorem dX7_ending_28 : decode cX7_ending 28 = .ok (.aload_n 0, 1) := by decide +kernel
theorem dX7_ending_29 : decode cX7_ending 29 = .ok (.getfield 74, 3) := by decide +kernel
theorem dX7_ending_32 : decode cX7_ending 32 = .ok (.iload_n 3, 1) := by decide +kernel
theorem dX7_ending_33 : decode cX7_ending 33 = .ok (.iaload, 1) := by decide +kernel
theorem dX7_ending_34 : decode cX7_ending 34 = .ok (.iadd, 1) := by decide +kernel
theorem dX7_ending_35 : decode cX7_ending 35 = .ok (.aload_n 0, 1) := by decide +kernel
theorem dX7_ending_36 : decode cX7_ending 36 = .ok (.getfield 53, 3) := by decide +kernel
theorem dX7_ending_39 : decode cX7_ending 39 = .ok (.iload_n 1, 1) := by decide +kernel
theorem dX7_ending_40 : decode cX7_ending 40 = .ok (.iaload, 1) := by decide +kernel
theorem dX7_ending_41 : decode cX7_ending 41 = .ok (.if_icmp .ne 43, 3) := by decide +kernel
theorem dX7_ending_44 : decode cX7_ending 44 = .ok (.aload_n 0, 1) := by decide +kernel
theorem dX7_ending_45 : decode cX7_ending 45 = .ok (.getfield 62, 3) := by decide +kernel
theorem dX7_ending_48 : decode cX7_ending 48 = .ok (.aload_n 0, 1) := by decide +kernel
theorem dX7_ending_49 : decode cX7_ending 49 = .ok (.getfield 68, 3) := by decide +kernel
theorem dX7_ending_52 : decode cX7_ending 52 = .ok (.iload_n 3, 1) := by decide +kernel
theorem dX7_ending_53 : decode cX7_ending 53 = .ok (.iaload, 1) := by decide +kernel
theorem dX7_ending_54 : decode cX7_ending 54 = .ok (.iaload, 1) := by decide +kernel
theorem dX7_ending_55 : decode cX7_ending 55 = .ok (.iload_n 1, 1) := by decide +kernel
theorem dX7_ending_56 : decode cX7_ending 56 = .ok (.if_icmp .eq 6, 3) := by decide +kernel
theorem dX7_ending_59 : decode cX7_ending 59 = .ok (.goto 25, 3) := by decide +kernel
theorem dX7_ending_62 : decode cX7_ending 62 = .ok (.iload_n 2, 1) := by decide +kernel
theorem dX7_ending_63 : decode cX7_ending 63 = .ok (.iconst (-1), 1) := by decide +kernel
theorem dX7_ending_64 : decode cX7_ending 64 = .ok (.if_icmp .eq 18, 3) := by decide +kernel
theorem dX7_ending_67 : decode cX7_ending 67 = .ok (.aload_n 0, 1) := by decide +kernel
theorem dX7_ending_68 : decode cX7_ending 68 = .ok (.getfield 71, 3) := by decide +kernel
theorem dX7_ending_71 : decode cX7_ending 71 = .ok (.iload_n 3, 1) := by decide +kernel
theorem dX7_ending_72 : decode cX7_ending 72 = .ok (.iaload, 1) := by decide +kernel
theorem dX7_ending_73 : decode cX7_ending 73 = .ok (.aload_n 0, 1) := by decide +kernel
theorem dX7_ending_74 : decode cX7_ending 74 = .ok (.getfield 71, 3) := by decide +kernel
theorem dX7_ending_77 : decode cX7_ending 77 = .ok (.iload_n 2, 1) := by decide +kernel
theorem dX7_ending_78 : decode cX7_ending 78 = .ok (.iaload, 1) := by decide +kernel
theorem dX7_ending_79 : decode cX7_ending 79 = .ok (.if_icmp .lt 5, 3) := by decide +kernel
theorem dX7_ending_82 : decode cX7_ending 82 = .ok (.iload_n 3, 1) := by decide +kernel
theorem dX7_ending_83 : decode cX7_ending 83 = .ok (.istore_n 2, 1) := by decide +kernel
theorem dX7_ending_84 : decode cX7_ending 84 = .ok (.iinc 3 1, 3) := by decide +kernel
theorem dX7_ending_87 : decode cX7_ending 87 = .ok (.goto (-83), 3) := by decide +kernel
theorem dX7_ending_90 : decode cX7_ending 90 = .ok (.iload_n 2, 1) := by decide +kernel
theorem dX7_ending_91 : decode cX7_ending 91 = .ok (.ireturn, 1) := by decide +kernel
theorem dX7_works_0 : decode cX7_works 0 = .ok (.aload_n 0, 1) := by decide +kernel
theorem dX7_works_1 : decode cX7_works 1 = .ok (.getfield 53, 3) := by decide +kernel
theorem dX7_works_4 : decode cX7_works 4 = .ok (.iload_n 1, 1) := by decide +kernel
theorem dX7_works_5 : decode cX7_works 5 = .ok (.dup2, 1) := by decide +kernel
theorem dX7_works_6 : decode cX7_works 6 = .ok (.iaload, 1) := by decide +kernel
theorem dX7_works_7 : decode cX7_works 7 = .ok (.iconst 1, 1) := by decide +kernel
theorem dX7_works_8 : decode cX7_works 8 = .ok (.iadd, 1) := by decide +kernel
theorem dX7_works_9 : decode cX7_works 9 = .ok (.iastore, 1) := by decide +kernel
theorem dX7_works_10 : decode cX7_works 10 = .ok (.aload_n 0, 1) := by decide +kernel
theorem dX7_works_11 : decode cX7_works 11 = .ok (.iload_n 1, 1) := by decide +kernel
theorem dX7_works_12 : decode cX7_works 12 = .ok (.invokevirtual 149, 3) := by decide +kernel
theorem dX7_works_15 : decode cX7_works 15 = .ok (.istore_n 2, 1) := by decide +kernel
theorem dX7_works_16 : decode cX7_works 16 = .ok (.iload_n 2, 1) := by decide +kernel
theorem dX7_works_17 : decode cX7_works 17 = .ok (.iconst (-1), 1) := by decide +kernel
theorem dX7_works_18 : decode cX7_works 18 = .ok (.if_icmp .eq 22, 3) := by decide +kernel
theorem dX7_works_21 : decode cX7_works 21 = .ok (.aload_n 0, 1) := by decide +kernel
theorem dX7_works_22 : decode cX7_works 22 = .ok (.aload_n 0, 1) := by decide +kernel
theorem dX7_works_23 : decode cX7_works 23 = .ok (.getfield 68, 3) := by decide +kernel
theorem dX7_works_26 : decode cX7_works 26 = .ok (.iload_n 2, 1) := by decide +kernel
theorem dX7_works_27 : decode cX7_works 27 = .ok (.iaload, 1) := by decide +kernel
theorem dX7_works_28 : decode cX7_works 28 = .ok (.invokevirtual 123, 3) := by decide +kernel
theorem dX7_works_31 : decode cX7_works 31 = .ok (.aload_n 0, 1) := by decide +kernel
theorem dX7_works_32 : decode cX7_works 32 = .ok (.iload_n 1, 1) := by decide +kernel
theorem dX7_works_33 : decode cX7_works 33 = .ok (.invokevirtual 149, 3) := by decide +kernel
theorem dX7_works_36 : decode cX7_works 36 = .ok (.istore_n 2, 1) := by decide +kernel
theorem dX7_works_37 : decode cX7_works 37 = .ok (.goto (-21), 3) := by decide +kernel
theorem dX7_works_40 : decode cX7_works 40 = .ok (.aload_n 0, 1) := by decide +kernel
theorem dX7_works_41 : decode cX7_works 41 = .ok (.getfield 53, 3) := by decide +kernel
theorem dX7_works_44 : decode cX7_works 44 = .ok (.iload_n 1, 1) := by decide +kernel
theorem dX7_works_45 : decode cX7_works 45 = .ok (.iaload, 1) := by decide +kernel
theorem dX7_works_46 : decode cX7_works 46 = .ok (.aload_n 0, 1) := by decide +kernel
theorem dX7_works_47 : decode cX7_works 47 = .ok (.getfield 17, 3) := by decide +kernel
theorem dX7_works_50 : decode cX7_works 50 = .ok (.iload_n 1, 1) := by decide +kernel
theorem dX7_works_51 : decode cX7_works 51 = .ok (.iaload, 1) := by decide +kernel
theorem dX7_works_52 : decode cX7_works 52 = .ok (.if_icmp .ge 4, 3) := by decide +kernel
theorem dX7_works_55 : decode cX7_works 55 = .ok (.return_, 1) := by decide +kernel
theorem dX7_works_56 : decode cX7_works 56 = .ok (.aload_n 0, 1) := by decide +kernel
theorem dX7_works_57 : decode cX7_works 57 = .ok (.getfield 44, 3) := by decide +kernel
theorem dX7_works_60 : decode cX7_works 60 = .ok (.iload_n 1, 1) := by decide +kernel
theorem dX7_works_61 : decode cX7_works 61 = .ok (.iconst 0, 1) := by decide +kernel
theorem dX7_works_62 : decode cX7_works 62 = .ok (.bastore, 1) := by decide +kernel
theorem dX7_works_63 : decode cX7_works 63 = .ok (.aload_n 0, 1) := by decide +kernel
theorem dX7_works_64 : decode cX7_works 64 = .ok (.getfield 29, 3) := by decide +kernel
theorem dX7_works_67 : decode cX7_works 67 = .ok (.iload_n 1, 1) := by decide +kernel
theorem dX7_works_68 : decode cX7_works 68 = .ok (.dup2, 1) := by decide +kernel
theorem dX7_works_69 : decode cX7_works 69 = .ok (.iaload, 1) := by decide +kernel
theorem dX7_works_70 : decode cX7_works 70 = .ok (.iconst 1, 1) := by decide +kernel
theorem dX7_works_71 : decode cX7_works 71 = .ok (.iadd, 1) := by decide +kernel
theorem dX7_works_72 : decode cX7_works 72 = .ok (.iastore, 1) := by decide +kernel
theorem dX7_works_73 : decode cX7_works 73 = .ok (.aload_n 0, 1) := by decide +kernel
theorem dX7_works_74 : decode cX7_works 74 = .ok (.getfield 127, 3) := by decide +kernel
theorem dX7_works_77 : decode cX7_works 77 = .ok (.iconst 1, 1) := by decide +kernel
theorem dX7_works_78 : decode cX7_works 78 = .ok (.iadd, 1) := by decide +kernel
theorem dX7_works_79 : decode cX7_works 79 = .ok (.aload_n 0, 1) := by decide +kernel
theorem dX7_works_80 : decode cX7_works 80 = .ok (.getfield 47, 3) := by decide +kernel
theorem dX7_works_83 : decode cX7_works 83 = .ok (.iload_n 1, 1) := by decide +kernel
theorem dX7_works_84 : decode cX7_works 84 = .ok (.iaload, 1) := by decide +kernel
theorem dX7_works_85 : decode cX7_works 85 = .ok (.isub, 1) := by decide +kernel
theorem dX7_works_86 : decode cX7_works 86 = .ok (.istore_n 3, 1) := by decide +kernel
theorem dX7_works_87 : decode cX7_works 87 = .ok (.iload_n 3, 1) := by decide +kernel
theorem dX7_works_88 : decode cX7_works 88 = .ok (.aload_n 0, 1) := by decide +kernel
theorem dX7_works_89 : decode cX7_works 89 = .ok (.getfield 41, 3) := by decide +kernel
theorem dX7_works_92 : decode cX7_works 92 = .ok (.iload_n 1, 1) := by decide +kernel
theorem dX7_works_93 : decode cX7_works 93 = .ok (.iaload, 1) := by decide +kernel
theorem dX7_works_94 : decode cX7_works 94 = .ok (.if_icmp .le 10, 3) := by decide +kernel
theorem dX7_works_97 : decode cX7_works 97 = .ok (.aload_n 0, 1) := by decide +kernel
theorem dX7_works_98 : decode cX7_works 98 = .ok (.getfield 41, 3) := by decide +kernel
theorem dX7_works_101 : decode cX7_works 101 = .ok (.iload_n 1, 1) := by decide +kernel
theorem dX7_works_102 : decode cX7_works 102 = .ok (.iload_n 3, 1) := by decide +kernel
theorem dX7_works_103 : decode cX7_works 103 = .ok (.iastore, 1) := by decide +kernel
theorem dX7_works_104 : decode cX7_works 104 = .ok (.return_, 1) := by decide +kernel
theorem dX7_counts_0 : decode cX7_counts 0 = .ok (.iconst 0, 1) := by decide +kernel
theorem dX7_counts_1 : decode cX7_counts 1 = .ok (.istore_n 2, 1) := by decide +kernel
theorem dX7_counts_2 : decode cX7_counts 2 = .ok (.iload_n 2, 1) := by decide +kernel
theorem dX7_counts_3 : decode cX7_counts 3 = .ok (.aload_n 0, 1) := by decide +kernel
theorem dX7_counts_4 : decode cX7_counts 4 = .ok (.getfield 93, 3) := by decide +kernel
theorem dX7_counts_7 : decode cX7_counts 7 = .ok (.if_icmp .ge 102, 3) := by decide +kernel
theorem dX7_counts_10 : decode cX7_counts 10 = .ok (.aload_n 0, 1) := by decide +kernel
theorem dX7_counts_11 : decode cX7_counts 11 = .ok (.iload_n 2, 1) := by decide +kernel
theorem dX7_counts_12 : decode cX7_counts 12 = .ok (.invokevirtual 113, 3) := by decide +kernel
theorem dX7_counts_15 : decode cX7_counts 15 = .ok (.istore_n 3, 1) := by decide +kernel
theorem dX7_counts_16 : decode cX7_counts 16 = .ok (.iload_n 3, 1) := by decide +kernel
theorem dX7_counts_17 : decode cX7_counts 17 = .ok (.ifCond .eq 23, 3) := by decide +kernel
theorem dX7_counts_20 : decode cX7_counts 20 = .ok (.aload_n 0, 1) := by decide +kernel
theorem dX7_counts_21 : decode cX7_counts 21 = .ok (.getfield 56, 3) := by decide +kernel
theorem dX7_counts_24 : decode cX7_counts 24 = .ok (.iload_n 2, 1) := by decide +kernel
theorem dX7_counts_25 : decode cX7_counts 25 = .ok (.iaload, 1) := by decide +kernel
theorem dX7_counts_26 : decode cX7_counts 26 = .ok (.iconst (-1), 1) := by decide +kernel
theorem dX7_counts_27 : decode cX7_counts 27 = .ok (.if_icmp .eq 13, 3) := by decide +kernel
theorem dX7_counts_30 : decode cX7_counts 30 = .ok (.aload_n 0, 1) := by decide +kernel
theorem dX7_counts_31 : decode cX7_counts 31 = .ok (.getfield 35, 3) := by decide +kernel
theorem dX7_counts_34 : decode cX7_counts 34 = .ok (.iload_n 2, 1) := by decide +kernel
theorem dX7_counts_35 : decode cX7_counts 35 = .ok (.dup2, 1) := by decide +kernel
theorem dX7_counts_36 : decode cX7_counts 36 = .ok (.iaload, 1) := by decide +kernel
theorem dX7_counts_37 : decode cX7_counts 37 = .ok (.iconst 1, 1) := by decide +kernel
theorem dX7_counts_38 : decode cX7_counts 38 = .ok (.iadd, 1) := by decide +kernel
theorem dX7_counts_39 : decode cX7_counts 39 = .ok (.iastore, 1) := by decide +kernel
theorem dX7_counts_40 : decode cX7_counts 40 = .ok (.iload_n 3, 1) := by decide +kernel
theorem dX7_counts_41 : decode cX7_counts 41 = .ok (.ifCond .eq 42, 3) := by decide +kernel
theorem dX7_counts_44 : decode cX7_counts 44 = .ok (.aload_n 0, 1) := by decide +kernel
theorem dX7_counts_45 : decode cX7_counts 45 = .ok (.getfield 59, 3) := by decide +kernel
theorem dX7_counts_48 : decode cX7_counts 48 = .ok (.iload_n 2, 1) := by decide +kernel
theorem dX7_counts_49 : decode cX7_counts 49 = .ok (.baload, 1) := by decide +kernel
theorem dX7_counts_50 : decode cX7_counts 50 = .ok (.ifCond .eq 33, 3) := by decide +kernel
theorem dX7_counts_53 : decode cX7_counts 53 = .ok (.aload_n 0, 1) := by decide +kernel
theorem dX7_counts_54 : decode cX7_counts 54 = .ok (.getfield 56, 3) := by decide +kernel
theorem dX7_counts_57 : decode cX7_counts 57 = .ok (.iload_n 2, 1) := by decide +kernel
theorem dX7_counts_58 : decode cX7_counts 58 = .ok (.iaload, 1) := by decide +kernel
theorem dX7_counts_59 : decode cX7_counts 59 = .ok (.iconst (-1), 1) := by decide +kernel
theorem dX7_counts_60 : decode cX7_counts 60 = .ok (.if_icmp .ne 23, 3) := by decide +kernel
theorem dX7_counts_63 : decode cX7_counts 63 = .ok (.iload_n 1, 1) := by decide +kernel
theorem dX7_counts_64 : decode cX7_counts 64 = .ok (.iconst (-1), 1) := by decide +kernel
theorem dX7_counts_65 : decode cX7_counts 65 = .ok (.if_icmp .eq 18, 3) := by decide +kernel
theorem dX7_counts_68 : decode cX7_counts 68 = .ok (.iload_n 1, 1) := by decide +kernel
theorem dX7_counts_69 : decode cX7_counts 69 = .ok (.iload_n 2, 1) := by decide +kernel
theorem dX7_counts_70 : decode cX7_counts 70 = .ok (.if_icmp .eq 13, 3) := by decide +kernel
theorem dX7_counts_73 : decode cX7_counts 73 = .ok (.aload_n 0, 1) := by decide +kernel
theorem dX7_counts_74 : decode cX7_counts 74 = .ok (.getfield 38, 3) := by decide +kernel
theorem dX7_counts_77 : decode cX7_counts 77 = .ok (.iload_n 2, 1) := by decide +kernel
theorem dX7_counts_78 : decode cX7_counts 78 = .ok (.dup2, 1) := by decide +kernel
theorem dX7_counts_79 : decode cX7_counts 79 = .ok (.iaload, 1) := by decide +kernel
theorem dX7_counts_80 : decode cX7_counts 80 = .ok (.iconst 1, 1) := by decide +kernel
theorem dX7_counts_81 : decode cX7_counts 81 = .ok (.iadd, 1) := by decide +kernel
theorem dX7_counts_82 : decode cX7_counts 82 = .ok (.iastore, 1) := by decide +kernel
theorem dX7_counts_83 : decode cX7_counts 83 = .ok (.aload_n 0, 1) := by decide +kernel
theorem dX7_counts_84 : decode cX7_counts 84 = .ok (.getfield 59, 3) := by decide +kernel
theorem dX7_counts_87 : decode cX7_counts 87 = .ok (.iload_n 2, 1) := by decide +kernel
theorem dX7_counts_88 : decode cX7_counts 88 = .ok (.iload_n 3, 1) := by decide +kernel
theorem dX7_counts_89 : decode cX7_counts 89 = .ok (.ifCond .eq 12, 3) := by decide +kernel
theorem dX7_counts_92 : decode cX7_counts 92 = .ok (.iload_n 1, 1) := by decide +kernel
theorem dX7_counts_93 : decode cX7_counts 93 = .ok (.iload_n 2, 1) := by decide +kernel
theorem dX7_counts_94 : decode cX7_counts 94 = .ok (.if_icmp .ne 7, 3) := by decide +kernel
theorem dX7_counts_97 : decode cX7_counts 97 = .ok (.iconst 1, 1) := by decide +kernel
theorem dX7_counts_98 : decode cX7_counts 98 = .ok (.goto 4, 3) := by decide +kernel
theorem dX7_counts_101 : decode cX7_counts 101 = .ok (.iconst 0, 1) := by decide +kernel
theorem dX7_counts_102 : decode cX7_counts 102 = .ok (.bastore, 1) := by decide +kernel
theorem dX7_counts_103 : decode cX7_counts 103 = .ok (.iinc 2 1, 3) := by decide +kernel
theorem dX7_counts_106 : decode cX7_counts 106 = .ok (.goto (-104), 3) := by decide +kernel
theorem dX7_counts_109 : decode cX7_counts 109 = .ok (.return_, 1) := by decide +kernel
theorem dX7_turns_0 : decode cX7_turns 0 = .ok (.aload_n 0, 1) := by decide +kernel
theorem dX7_turns_1 : decode cX7_turns 1 = .ok (.invokevirtual 152, 3) := by decide +kernel
theorem dX7_turns_4 : decode cX7_turns 4 = .ok (.istore_n 1, 1) := by decide +kernel
theorem dX7_turns_5 : decode cX7_turns 5 = .ok (.aload_n 0, 1) := by decide +kernel
theorem dX7_turns_6 : decode cX7_turns 6 = .ok (.invokevirtual 155, 3) := by decide +kernel
theorem dX7_turns_9 : decode cX7_turns 9 = .ok (.aload_n 0, 1) := by decide +kernel
theorem dX7_turns_10 : decode cX7_turns 10 = .ok (.invokevirtual 158, 3) := by decide +kernel
theorem dX7_turns_13 : decode cX7_turns 13 = .ok (.istore_n 2, 1) := by decide +kernel
theorem dX7_turns_14 : decode cX7_turns 14 = .ok (.iload_n 2, 1) := by decide +kernel
theorem dX7_turns_15 : decode cX7_turns 15 = .ok (.iconst (-1), 1) := by decide +kernel
theorem dX7_turns_16 : decode cX7_turns 16 = .ok (.if_icmp .ne 16, 3) := by decide +kernel
theorem dX7_turns_19 : decode cX7_turns 19 = .ok (.aload_n 0, 1) := by decide +kernel
theorem dX7_turns_20 : decode cX7_turns 20 = .ok (.dup, 1) := by decide +kernel
theorem dX7_turns_21 : decode cX7_turns 21 = .ok (.getfield 162, 3) := by decide +kernel
theorem dX7_turns_24 : decode cX7_turns 24 = .ok (.iconst 1, 1) := by decide +kernel
theorem dX7_turns_25 : decode cX7_turns 25 = .ok (.iadd, 1) := by decide +kernel
theorem dX7_turns_26 : decode cX7_turns 26 = .ok (.putfield 162, 3) := by decide +kernel
theorem dX7_turns_29 : decode cX7_turns 29 = .ok (.goto 8, 3) := by decide +kernel
theorem dX7_turns_32 : decode cX7_turns 32 = .ok (.aload_n 0, 1) := by decide +kernel
theorem dX7_turns_33 : decode cX7_turns 33 = .ok (.iload_n 2, 1) := by decide +kernel
theorem dX7_turns_34 : decode cX7_turns 34 = .ok (.invokevirtual 165, 3) := by decide +kernel
theorem dX7_turns_37 : decode cX7_turns 37 = .ok (.aload_n 0, 1) := by decide +kernel
theorem dX7_turns_38 : decode cX7_turns 38 = .ok (.iload_n 2, 1) := by decide +kernel
theorem dX7_turns_39 : decode cX7_turns 39 = .ok (.invokevirtual 168, 3) := by decide +kernel
theorem dX7_turns_42 : decode cX7_turns 42 = .ok (.aload_n 0, 1) := by decide +kernel
theorem dX7_turns_43 : decode cX7_turns 43 = .ok (.getfield 86, 3) := by decide +kernel
theorem dX7_turns_46 : decode cX7_turns 46 = .ok (.aload_n 0, 1) := by decide +kernel
theorem dX7_turns_47 : decode cX7_turns 47 = .ok (.getfield 171, 3) := by decide +kernel
theorem dX7_turns_50 : decode cX7_turns 50 = .ok (.bipush 100, 2) := by decide +kernel
theorem dX7_turns_52 : decode cX7_turns 52 = .ok (.irem, 1) := by decide +kernel
theorem dX7_turns_53 : decode cX7_turns 53 = .ok (.iload_n 2, 1) := by decide +kernel
theorem dX7_turns_54 : decode cX7_turns 54 = .ok (.iastore, 1) := by decide +kernel
theorem dX7_turns_55 : decode cX7_turns 55 = .ok (.aload_n 0, 1) := by decide +kernel
theorem dX7_turns_56 : decode cX7_turns 56 = .ok (.dup, 1) := by decide +kernel
theorem dX7_turns_57 : decode cX7_turns 57 = .ok (.getfield 171, 3) := by decide +kernel
theorem dX7_turns_60 : decode cX7_turns 60 = .ok (.iconst 1, 1) := by decide +kernel
theorem dX7_turns_61 : decode cX7_turns 61 = .ok (.iadd, 1) := by decide +kernel
theorem dX7_turns_62 : decode cX7_turns 62 = .ok (.putfield 171, 3) := by decide +kernel
theorem dX7_turns_65 : decode cX7_turns 65 = .ok (.aload_n 0, 1) := by decide +kernel
theorem dX7_turns_66 : decode cX7_turns 66 = .ok (.dup, 1) := by decide +kernel
theorem dX7_turns_67 : decode cX7_turns 67 = .ok (.getfield 127, 3) := by decide +kernel
theorem dX7_turns_70 : decode cX7_turns 70 = .ok (.iconst 1, 1) := by decide +kernel
theorem dX7_turns_71 : decode cX7_turns 71 = .ok (.iadd, 1) := by decide +kernel
theorem dX7_turns_72 : decode cX7_turns 72 = .ok (.putfield 127, 3) := by decide +kernel
theorem dX7_turns_75 : decode cX7_turns 75 = .ok (.iload_n 1, 1) := by decide +kernel
theorem dX7_turns_76 : decode cX7_turns 76 = .ok (.ireturn, 1) := by decide +kernel
theorem dX7_tick_0 : decode cX7_tick 0 = .ok (.aload_n 0, 1) := by decide +kernel
theorem dX7_tick_1 : decode cX7_tick 1 = .ok (.getfield 127, 3) := by decide +kernel
theorem dX7_tick_4 : decode cX7_tick 4 = .ok (.aload_n 0, 1) := by decide +kernel
theorem dX7_tick_5 : decode cX7_tick 5 = .ok (.getfield 106, 3) := by decide +kernel
theorem dX7_tick_8 : decode cX7_tick 8 = .ok (.if_icmp .ne 6, 3) := by decide +kernel
theorem dX7_tick_11 : decode cX7_tick 11 = .ok (.bipush (-2), 2) := by decide +kernel
theorem dX7_tick_13 : decode cX7_tick 13 = .ok (.ireturn, 1) := by decide +kernel
theorem dX7_tick_14 : decode cX7_tick 14 = .ok (.aload_n 0, 1) := by decide +kernel
theorem dX7_tick_15 : decode cX7_tick 15 = .ok (.invokevirtual 174, 3) := by decide +kernel
theorem dX7_tick_18 : decode cX7_tick 18 = .ok (.pop, 1) := by decide +kernel
theorem dX7_tick_19 : decode cX7_tick 19 = .ok (.aload_n 0, 1) := by decide +kernel
theorem dX7_tick_20 : decode cX7_tick 20 = .ok (.getfield 86, 3) := by decide +kernel
theorem dX7_tick_23 : decode cX7_tick 23 = .ok (.aload_n 0, 1) := by decide +kernel
theorem dX7_tick_24 : decode cX7_tick 24 = .ok (.getfield 171, 3) := by decide +kernel
theorem dX7_tick_27 : decode cX7_tick 27 = .ok (.iconst 1, 1) := by decide +kernel
theorem dX7_tick_28 : decode cX7_tick 28 = .ok (.isub, 1) := by decide +kernel
theorem dX7_tick_29 : decode cX7_tick 29 = .ok (.bipush 100, 2) := by decide +kernel
theorem dX7_tick_31 : decode cX7_tick 31 = .ok (.irem, 1) := by decide +kernel
theorem dX7_tick_32 : decode cX7_tick 32 = .ok (.iaload, 1) := by decide +kernel
theorem dX7_tick_33 : decode cX7_tick 33 = .ok (.ireturn, 1) := by decide +kernel
theorem dX7_run_0 : decode cX7_run 0 = .ok (.iload_n 1, 1) := by decide +kernel
theorem dX7_run_1 : decode cX7_run 1 = .ok (.ifCond .lt 10, 3) := by decide +kernel
theorem dX7_run_4 : decode cX7_run 4 = .ok (.iload_n 1, 1) := by decide +kernel
theorem dX7_run_5 : decode cX7_run 5 = .ok (.sipush 2000, 3) := by decide +kernel
theorem dX7_run_8 : decode cX7_run 8 = .ok (.if_icmp .le 5, 3) := by decide +kernel
theorem dX7_run_11 : decode cX7_run 11 = .ok (.iconst (-1), 1) := by decide +kernel
theorem dX7_run_12 : decode cX7_run 12 = .ok (.ireturn, 1) := by decide +kernel
theorem dX7_run_13 : decode cX7_run 13 = .ok (.iconst 0, 1) := by decide +kernel
theorem dX7_run_14 : decode cX7_run 14 = .ok (.istore_n 2, 1) := by decide +kernel
theorem dX7_run_15 : decode cX7_run 15 = .ok (.iconst 0, 1) := by decide +kernel
theorem dX7_run_16 : decode cX7_run 16 = .ok (.istore_n 3, 1) := by decide +kernel
theorem dX7_run_17 : decode cX7_run 17 = .ok (.iload_n 2, 1) := by decide +kernel
theorem dX7_run_18 : decode cX7_run 18 = .ok (.iload_n 1, 1) := by decide +kernel
theorem dX7_run_19 : decode cX7_run 19 = .ok (.if_icmp .ge 29, 3) := by decide +kernel
theorem dX7_run_22 : decode cX7_run 22 = .ok (.aload_n 0, 1) := by decide +kernel
theorem dX7_run_23 : decode cX7_run 23 = .ok (.getfield 127, 3) := by decide +kernel
theorem dX7_run_26 : decode cX7_run 26 = .ok (.aload_n 0, 1) := by decide +kernel
theorem dX7_run_27 : decode cX7_run 27 = .ok (.getfield 106, 3) := by decide +kernel
theorem dX7_run_30 : decode cX7_run 30 = .ok (.if_icmp .ge 18, 3) := by decide +kernel
theorem dX7_run_33 : decode cX7_run 33 = .ok (.iload_n 3, 1) := by decide +kernel
theorem dX7_run_34 : decode cX7_run 34 = .ok (.ifCond .ne 14, 3) := by decide +kernel
theorem dX7_run_37 : decode cX7_run 37 = .ok (.aload_n 0, 1) := by decide +kernel
theorem dX7_run_38 : decode cX7_run 38 = .ok (.invokevirtual 174, 3) := by decide +kernel
theorem dX7_run_41 : decode cX7_run 41 = .ok (.istore_n 3, 1) := by decide +kernel
theorem dX7_run_42 : decode cX7_run 42 = .ok (.iinc 2 1, 3) := by decide +kernel
theorem dX7_run_45 : decode cX7_run 45 = .ok (.goto (-28), 3) := by decide +kernel
theorem dX7_run_48 : decode cX7_run 48 = .ok (.iload_n 2, 1) := by decide +kernel
theorem dX7_run_49 : decode cX7_run 49 = .ok (.ireturn, 1) := by decide +kernel
theorem dX7_ran_0 : decode cX7_ran 0 = .ok (.iload_n 1, 1) := by decide +kernel
theorem dX7_ran_1 : decode cX7_ran 1 = .ok (.ifCond .lt 36, 3) := by decide +kernel
theorem dX7_ran_4 : decode cX7_ran 4 = .ok (.iload_n 1, 1) := by decide +kernel
theorem dX7_ran_5 : decode cX7_ran 5 = .ok (.bipush 100, 2) := by decide +kernel
theorem dX7_ran_7 : decode cX7_ran 7 = .ok (.if_icmp .ge 30, 3) := by decide +kernel
theorem dX7_ran_10 : decode cX7_ran 10 = .ok (.iload_n 1, 1) := by decide +kernel
theorem dX7_ran_11 : decode cX7_ran 11 = .ok (.aload_n 0, 1) := by decide +kernel
theorem dX7_ran_12 : decode cX7_ran 12 = .ok (.getfield 171, 3) := by decide +kernel
theorem dX7_ran_15 : decode cX7_ran 15 = .ok (.if_icmp .ge 22, 3) := by decide +kernel
theorem dX7_ran_18 : decode cX7_ran 18 = .ok (.aload_n 0, 1) := by decide +kernel
theorem dX7_ran_19 : decode cX7_ran 19 = .ok (.getfield 86, 3) := by decide +kernel
theorem dX7_ran_22 : decode cX7_ran 22 = .ok (.aload_n 0, 1) := by decide +kernel
theorem dX7_ran_23 : decode cX7_ran 23 = .ok (.getfield 171, 3) := by decide +kernel
theorem dX7_ran_26 : decode cX7_ran 26 = .ok (.iconst 1, 1) := by decide +kernel
theorem dX7_ran_27 : decode cX7_ran 27 = .ok (.isub, 1) := by decide +kernel
theorem dX7_ran_28 : decode cX7_ran 28 = .ok (.iload_n 1, 1) := by decide +kernel
theorem dX7_ran_29 : decode cX7_ran 29 = .ok (.isub, 1) := by decide +kernel
theorem dX7_ran_30 : decode cX7_ran 30 = .ok (.bipush 100, 2) := by decide +kernel
theorem dX7_ran_32 : decode cX7_ran 32 = .ok (.irem, 1) := by decide +kernel
theorem dX7_ran_33 : decode cX7_ran 33 = .ok (.iaload, 1) := by decide +kernel
theorem dX7_ran_34 : decode cX7_ran 34 = .ok (.goto 5, 3) := by decide +kernel
theorem dX7_ran_37 : decode cX7_ran 37 = .ok (.bipush (-2), 2) := by decide +kernel
theorem dX7_ran_39 : decode cX7_ran 39 = .ok (.ireturn, 1) := by decide +kernel
theorem dX7_remaining_0 : decode cX7_remaining 0 = .ok (.aload_n 0, 1) := by decide +kernel
theorem dX7_remaining_1 : decode cX7_remaining 1 = .ok (.iload_n 1, 1) := by decide +kernel
theorem dX7_remaining_2 : decode cX7_remaining 2 = .ok (.invokevirtual 113, 3) := by decide +kernel
theorem dX7_remaining_5 : decode cX7_remaining 5 = .ok (.ifCond .eq 19, 3) := by decide +kernel
theorem dX7_remaining_8 : decode cX7_remaining 8 = .ok (.aload_n 0, 1) := by decide +kernel
theorem dX7_remaining_9 : decode cX7_remaining 9 = .ok (.getfield 17, 3) := by decide +kernel
theorem dX7_remaining_12 : decode cX7_remaining 12 = .ok (.iload_n 1, 1) := by decide +kernel
theorem dX7_remaining_13 : decode cX7_remaining 13 = .ok (.iaload, 1) := by decide +kernel
theorem dX7_remaining_14 : decode cX7_remaining 14 = .ok (.aload_n 0, 1) := by decide +kernel
theorem dX7_remaining_15 : decode cX7_remaining 15 = .ok (.getfield 53, 3) := by decide +kernel
theorem dX7_remaining_18 : decode cX7_remaining 18 = .ok (.iload_n 1, 1) := by decide +kernel
theorem dX7_remaining_19 : decode cX7_remaining 19 = .ok (.iaload, 1) := by decide +kernel
theorem dX7_remaining_20 : decode cX7_remaining 20 = .ok (.isub, 1) := by decide +kernel
theorem dX7_remaining_21 : decode cX7_remaining 21 = .ok (.goto 4, 3) := by decide +kernel
theorem dX7_remaining_24 : decode cX7_remaining 24 = .ok (.iconst 0, 1) := by decide +kernel
theorem dX7_remaining_25 : decode cX7_remaining 25 = .ok (.ireturn, 1) := by decide +kernel
theorem dX7_deadlineOf_0 : decode cX7_deadlineOf 0 = .ok (.aload_n 0, 1) := by decide +kernel
theorem dX7_deadlineOf_1 : decode cX7_deadlineOf 1 = .ok (.iload_n 1, 1) := by decide +kernel
theorem dX7_deadlineOf_2 : decode cX7_deadlineOf 2 = .ok (.invokevirtual 113, 3) := by decide +kernel
theorem dX7_deadlineOf_5 : decode cX7_deadlineOf 5 = .ok (.ifCond .eq 12, 3) := by decide +kernel
theorem dX7_deadlineOf_8 : decode cX7_deadlineOf 8 = .ok (.aload_n 0, 1) := by decide +kernel
theorem dX7_deadlineOf_9 : decode cX7_deadlineOf 9 = .ok (.getfield 50, 3) := by decide +kernel
theorem dX7_deadlineOf_12 : decode cX7_deadlineOf 12 = .ok (.iload_n 1, 1) := by decide +kernel
theorem dX7_deadlineOf_13 : decode cX7_deadlineOf 13 = .ok (.iaload, 1) := by decide +kernel
theorem dX7_deadlineOf_14 : decode cX7_deadlineOf 14 = .ok (.goto 4, 3) := by decide +kernel
theorem dX7_deadlineOf_17 : decode cX7_deadlineOf 17 = .ok (.iconst (-1), 1) := by decide +kernel
theorem dX7_deadlineOf_18 : decode cX7_deadlineOf 18 = .ok (.ireturn, 1) := by decide +kernel
theorem dX7_effective_0 : decode cX7_effective 0 = .ok (.aload_n 0, 1) := by decide +kernel
theorem dX7_effective_1 : decode cX7_effective 1 = .ok (.iload_n 1, 1) := by decide +kernel
theorem dX7_effective_2 : decode cX7_effective 2 = .ok (.invokevirtual 113, 3) := by decide +kernel
theorem dX7_effective_5 : decode cX7_effective 5 = .ok (.ifCond .ne 5, 3) := by decide +kernel
theorem dX7_effective_8 : decode cX7_effective 8 = .ok (.iconst (-1), 1) := by decide +kernel
theorem dX7_effective_9 : decode cX7_effective 9 = .ok (.ireturn, 1) := by decide +kernel
theorem dX7_effective_10 : decode cX7_effective 10 = .ok (.aload_n 0, 1) := by decide +kernel
theorem dX7_effective_11 : decode cX7_effective 11 = .ok (.invokevirtual 116, 3) := by decide +kernel
theorem dX7_effective_14 : decode cX7_effective 14 = .ok (.aload_n 0, 1) := by decide +kernel
theorem dX7_effective_15 : decode cX7_effective 15 = .ok (.getfield 77, 3) := by decide +kernel
theorem dX7_effective_18 : decode cX7_effective 18 = .ok (.iload_n 1, 1) := by decide +kernel
theorem dX7_effective_19 : decode cX7_effective 19 = .ok (.iaload, 1) := by decide +kernel
theorem dX7_effective_20 : decode cX7_effective 20 = .ok (.ireturn, 1) := by decide +kernel
theorem dX7_waitsFor_0 : decode cX7_waitsFor 0 = .ok (.aload_n 0, 1) := by decide +kernel
theorem dX7_waitsFor_1 : decode cX7_waitsFor 1 = .ok (.iload_n 1, 1) := by decide +kernel
theorem dX7_waitsFor_2 : decode cX7_waitsFor 2 = .ok (.invokevirtual 113, 3) := by decide +kernel
theorem dX7_waitsFor_5 : decode cX7_waitsFor 5 = .ok (.ifCond .eq 12, 3) := by decide +kernel
theorem dX7_waitsFor_8 : decode cX7_waitsFor 8 = .ok (.aload_n 0, 1) := by decide +kernel
theorem dX7_waitsFor_9 : decode cX7_waitsFor 9 = .ok (.getfield 56, 3) := by decide +kernel
theorem dX7_waitsFor_12 : decode cX7_waitsFor 12 = .ok (.iload_n 1, 1) := by decide +kernel
theorem dX7_waitsFor_13 : decode cX7_waitsFor 13 = .ok (.iaload, 1) := by decide +kernel
theorem dX7_waitsFor_14 : decode cX7_waitsFor 14 = .ok (.goto 4, 3) := by decide +kernel
theorem dX7_waitsFor_17 : decode cX7_waitsFor 17 = .ok (.iconst (-1), 1) := by decide +kernel
theorem dX7_waitsFor_18 : decode cX7_waitsFor 18 = .ok (.ireturn, 1) := by decide +kernel
theorem dX7_owner_0 : decode cX7_owner 0 = .ok (.aload_n 0, 1) := by decide +kernel
theorem dX7_owner_1 : decode cX7_owner 1 = .ok (.iload_n 1, 1) := by decide +kernel
theorem dX7_owner_2 : decode cX7_owner 2 = .ok (.invokevirtual 130, 3) := by decide +kernel
theorem dX7_owner_5 : decode cX7_owner 5 = .ok (.ifCond .eq 12, 3) := by decide +kernel
theorem dX7_owner_8 : decode cX7_owner 8 = .ok (.aload_n 0, 1) := by decide +kernel
theorem dX7_owner_9 : decode cX7_owner 9 = .ok (.getfield 62, 3) := by decide +kernel
theorem dX7_owner_12 : decode cX7_owner 12 = .ok (.iload_n 1, 1) := by decide +kernel
theorem dX7_owner_13 : decode cX7_owner 13 = .ok (.iaload, 1) := by decide +kernel
theorem dX7_owner_14 : decode cX7_owner 14 = .ok (.goto 4, 3) := by decide +kernel
theorem dX7_owner_17 : decode cX7_owner 17 = .ok (.iconst (-1), 1) := by decide +kernel
theorem dX7_owner_18 : decode cX7_owner 18 = .ok (.ireturn, 1) := by decide +kernel
theorem dX7_waiters_0 : decode cX7_waiters 0 = .ok (.iconst 0, 1) := by decide +kernel
theorem dX7_waiters_1 : decode cX7_waiters 1 = .ok (.istore_n 2, 1) := by decide +kernel
theorem dX7_waiters_2 : decode cX7_waiters 2 = .ok (.iconst 0, 1) := by decide +kernel
theorem dX7_waiters_3 : decode cX7_waiters 3 = .ok (.istore_n 3, 1) := by decide +kernel
theorem dX7_waiters_4 : decode cX7_waiters 4 = .ok (.iload_n 3, 1) := by decide +kernel
theorem dX7_waiters_5 : decode cX7_waiters 5 = .ok (.aload_n 0, 1) := by decide +kernel
theorem dX7_waiters_6 : decode cX7_waiters 6 = .ok (.getfield 93, 3) := by decide +kernel
theorem dX7_waiters_9 : decode cX7_waiters 9 = .ok (.if_icmp .ge 43, 3) := by decide +kernel
theorem dX7_waiters_12 : decode cX7_waiters 12 = .ok (.aload_n 0, 1) := by decide +kernel
theorem dX7_waiters_13 : decode cX7_waiters 13 = .ok (.iload_n 1, 1) := by decide +kernel
theorem dX7_waiters_14 : decode cX7_waiters 14 = .ok (.invokevirtual 130, 3) := by decide +kernel
theorem dX7_waiters_17 : decode cX7_waiters 17 = .ok (.ifCond .eq 35, 3) := by decide +kernel
theorem dX7_waiters_20 : decode cX7_waiters 20 = .ok (.iload_n 2, 1) := by decide +kernel
theorem dX7_waiters_21 : decode cX7_waiters 21 = .ok (.aload_n 0, 1) := by decide +kernel
theorem dX7_waiters_22 : decode cX7_waiters 22 = .ok (.iload_n 3, 1) := by decide +kernel
theorem dX7_waiters_23 : decode cX7_waiters 23 = .ok (.invokevirtual 113, 3) := by decide +kernel
theorem dX7_waiters_26 : decode cX7_waiters 26 = .ok (.ifCond .eq 17, 3) := by decide +kernel
theorem dX7_waiters_29 : decode cX7_waiters 29 = .ok (.aload_n 0, 1) := by decide +kernel
theorem dX7_waiters_30 : decode cX7_waiters 30 = .ok (.getfield 56, 3) := by decide +kernel
theorem dX7_waiters_33 : decode cX7_waiters 33 = .ok (.iload_n 3, 1) := by decide +kernel
theorem dX7_waiters_34 : decode cX7_waiters 34 = .ok (.iaload, 1) := by decide +kernel
theorem dX7_waiters_35 : decode cX7_waiters 35 = .ok (.iload_n 1, 1) := by decide +kernel
theorem dX7_waiters_36 : decode cX7_waiters 36 = .ok (.if_icmp .ne 7, 3) := by decide +kernel
theorem dX7_waiters_39 : decode cX7_waiters 39 = .ok (.iconst 1, 1) := by decide +kernel
theorem dX7_waiters_40 : decode cX7_waiters 40 = .ok (.goto 4, 3) := by decide +kernel
theorem dX7_waiters_43 : decode cX7_waiters 43 = .ok (.iconst 0, 1) := by decide +kernel
theorem dX7_waiters_44 : decode cX7_waiters 44 = .ok (.iadd, 1) := by decide +kernel
theorem dX7_waiters_45 : decode cX7_waiters 45 = .ok (.istore_n 2, 1) := by decide +kernel
theorem dX7_waiters_46 : decode cX7_waiters 46 = .ok (.iinc 3 1, 3) := by decide +kernel
theorem dX7_waiters_49 : decode cX7_waiters 49 = .ok (.goto (-45), 3) := by decide +kernel
theorem dX7_waiters_52 : decode cX7_waiters 52 = .ok (.iload_n 2, 1) := by decide +kernel
theorem dX7_waiters_53 : decode cX7_waiters 53 = .ok (.ireturn, 1) := by decide +kernel
theorem dX7_missCount_0 : decode cX7_missCount 0 = .ok (.aload_n 0, 1) := by decide +kernel
theorem dX7_missCount_1 : decode cX7_missCount 1 = .ok (.getfield 143, 3) := by decide +kernel
theorem dX7_missCount_4 : decode cX7_missCount 4 = .ok (.ireturn, 1) := by decide +kernel
theorem dX7_miss_0 : decode cX7_miss 0 = .ok (.iload_n 1, 1) := by decide +kernel
theorem dX7_miss_1 : decode cX7_miss 1 = .ok (.ifCond .lt 19, 3) := by decide +kernel
theorem dX7_miss_4 : decode cX7_miss 4 = .ok (.iload_n 1, 1) := by decide +kernel
theorem dX7_miss_5 : decode cX7_miss 5 = .ok (.aload_n 0, 1) := by decide +kernel
theorem dX7_miss_6 : decode cX7_miss 6 = .ok (.getfield 103, 3) := by decide +kernel
theorem dX7_miss_9 : decode cX7_miss 9 = .ok (.if_icmp .ge 11, 3) := by decide +kernel
theorem dX7_miss_12 : decode cX7_miss 12 = .ok (.iload_n 1, 1) := by decide +kernel
theorem dX7_miss_13 : decode cX7_miss 13 = .ok (.aload_n 0, 1) := by decide +kernel
theorem dX7_miss_14 : decode cX7_miss 14 = .ok (.getfield 143, 3) := by decide +kernel
theorem dX7_miss_17 : decode cX7_miss 17 = .ok (.if_icmp .lt 5, 3) := by decide +kernel
theorem dX7_miss_20 : decode cX7_miss 20 = .ok (.iconst (-1), 1) := by decide +kernel
theorem dX7_miss_21 : decode cX7_miss 21 = .ok (.ireturn, 1) := by decide +kernel
theorem dX7_miss_22 : decode cX7_miss 22 = .ok (.iload_n 2, 1) := by decide +kernel
theorem dX7_miss_23 : decode cX7_miss 23 = .ok (.ifCond .ne 12, 3) := by decide +kernel
theorem dX7_miss_26 : decode cX7_miss 26 = .ok (.aload_n 0, 1) := by decide +kernel
theorem dX7_miss_27 : decode cX7_miss 27 = .ok (.getfield 80, 3) := by decide +kernel
theorem dX7_miss_30 : decode cX7_miss 30 = .ok (.iload_n 1, 1) := by decide +kernel
theorem dX7_miss_31 : decode cX7_miss 31 = .ok (.iaload, 1) := by decide +kernel
theorem dX7_miss_32 : decode cX7_miss 32 = .ok (.goto 18, 3) := by decide +kernel
theorem dX7_miss_35 : decode cX7_miss 35 = .ok (.iload_n 2, 1) := by decide +kernel
theorem dX7_miss_36 : decode cX7_miss 36 = .ok (.iconst 1, 1) := by decide +kernel
theorem dX7_miss_37 : decode cX7_miss 37 = .ok (.if_icmp .ne 12, 3) := by decide +kernel
theorem dX7_miss_40 : decode cX7_miss 40 = .ok (.aload_n 0, 1) := by decide +kernel
theorem dX7_miss_41 : decode cX7_miss 41 = .ok (.getfield 83, 3) := by decide +kernel
theorem dX7_miss_44 : decode cX7_miss 44 = .ok (.iload_n 1, 1) := by decide +kernel
theorem dX7_miss_45 : decode cX7_miss 45 = .ok (.iaload, 1) := by decide +kernel
theorem dX7_miss_46 : decode cX7_miss 46 = .ok (.goto 4, 3) := by decide +kernel
theorem dX7_miss_49 : decode cX7_miss 49 = .ok (.iconst (-1), 1) := by decide +kernel
theorem dX7_miss_50 : decode cX7_miss 50 = .ok (.ireturn, 1) := by decide +kernel
theorem dX7_sectionsOf_0 : decode cX7_sectionsOf 0 = .ok (.iconst 0, 1) := by decide +kernel
theorem dX7_sectionsOf_1 : decode cX7_sectionsOf 1 = .ok (.istore_n 2, 1) := by decide +kernel
theorem dX7_sectionsOf_2 : decode cX7_sectionsOf 2 = .ok (.iconst 0, 1) := by decide +kernel
theorem dX7_sectionsOf_3 : decode cX7_sectionsOf 3 = .ok (.istore_n 3, 1) := by decide +kernel
theorem dX7_sectionsOf_4 : decode cX7_sectionsOf 4 = .ok (.iload_n 3, 1) := by decide +kernel
theorem dX7_sectionsOf_5 : decode cX7_sectionsOf 5 = .ok (.aload_n 0, 1) := by decide +kernel
theorem dX7_sectionsOf_6 : decode cX7_sectionsOf 6 = .ok (.getfield 133, 3) := by decide +kernel
theorem dX7_sectionsOf_9 : decode cX7_sectionsOf 9 = .ok (.if_icmp .ge 27, 3) := by decide +kernel
theorem dX7_sectionsOf_12 : decode cX7_sectionsOf 12 = .ok (.iload_n 2, 1) := by decide +kernel
theorem dX7_sectionsOf_13 : decode cX7_sectionsOf 13 = .ok (.aload_n 0, 1) := by decide +kernel
theorem dX7_sectionsOf_14 : decode cX7_sectionsOf 14 = .ok (.getfield 65, 3) := by decide +kernel
theorem dX7_sectionsOf_17 : decode cX7_sectionsOf 17 = .ok (.iload_n 3, 1) := by decide +kernel
theorem dX7_sectionsOf_18 : decode cX7_sectionsOf 18 = .ok (.iaload, 1) := by decide +kernel
theorem dX7_sectionsOf_19 : decode cX7_sectionsOf 19 = .ok (.iload_n 1, 1) := by decide +kernel
theorem dX7_sectionsOf_20 : decode cX7_sectionsOf 20 = .ok (.if_icmp .ne 7, 3) := by decide +kernel
theorem dX7_sectionsOf_23 : decode cX7_sectionsOf 23 = .ok (.iconst 1, 1) := by decide +kernel
theorem dX7_sectionsOf_24 : decode cX7_sectionsOf 24 = .ok (.goto 4, 3) := by decide +kernel
theorem dX7_sectionsOf_27 : decode cX7_sectionsOf 27 = .ok (.iconst 0, 1) := by decide +kernel
theorem dX7_sectionsOf_28 : decode cX7_sectionsOf 28 = .ok (.iadd, 1) := by decide +kernel
theorem dX7_sectionsOf_29 : decode cX7_sectionsOf 29 = .ok (.istore_n 2, 1) := by decide +kernel
theorem dX7_sectionsOf_30 : decode cX7_sectionsOf 30 = .ok (.iinc 3 1, 3) := by decide +kernel
theorem dX7_sectionsOf_33 : decode cX7_sectionsOf 33 = .ok (.goto (-29), 3) := by decide +kernel
theorem dX7_sectionsOf_36 : decode cX7_sectionsOf 36 = .ok (.iload_n 2, 1) := by decide +kernel
theorem dX7_sectionsOf_37 : decode cX7_sectionsOf 37 = .ok (.ireturn, 1) := by decide +kernel
theorem dX7_task_0 : decode cX7_task 0 = .ok (.aload_n 0, 1) := by decide +kernel
theorem dX7_task_1 : decode cX7_task 1 = .ok (.iload_n 1, 1) := by decide +kernel
theorem dX7_task_2 : decode cX7_task 2 = .ok (.invokevirtual 109, 3) := by decide +kernel
theorem dX7_task_5 : decode cX7_task 5 = .ok (.ifCond .ne 5, 3) := by decide +kernel
theorem dX7_task_8 : decode cX7_task 8 = .ok (.iconst (-1), 1) := by decide +kernel
theorem dX7_task_9 : decode cX7_task 9 = .ok (.ireturn, 1) := by decide +kernel
theorem dX7_task_10 : decode cX7_task 10 = .ok (.iload_n 2, 1) := by decide +kernel
theorem dX7_task_11 : decode cX7_task 11 = .ok (.tableswitch 133 0 10 #[57, 64, 71, 78, 85, 91, 98, 105, 112, 119, 126], 57) := by decide +kernel
theorem dX7_task_68 : decode cX7_task 68 = .ok (.aload_n 0, 1) := by decide +kernel
theorem dX7_task_69 : decode cX7_task 69 = .ok (.getfield 13, 3) := by decide +kernel
theorem dX7_task_72 : decode cX7_task 72 = .ok (.iload_n 1, 1) := by decide +kernel
theorem dX7_task_73 : decode cX7_task 73 = .ok (.iaload, 1) := by decide +kernel
theorem dX7_task_74 : decode cX7_task 74 = .ok (.ireturn, 1) := by decide +kernel
theorem dX7_task_75 : decode cX7_task 75 = .ok (.aload_n 0, 1) := by decide +kernel
theorem dX7_task_76 : decode cX7_task 76 = .ok (.getfield 17, 3) := by decide +kernel
theorem dX7_task_79 : decode cX7_task 79 = .ok (.iload_n 1, 1) := by decide +kernel
theorem dX7_task_80 : decode cX7_task 80 = .ok (.iaload, 1) := by decide +kernel
theorem dX7_task_81 : decode cX7_task 81 = .ok (.ireturn, 1) := by decide +kernel
theorem dX7_task_82 : decode cX7_task 82 = .ok (.aload_n 0, 1) := by decide +kernel
theorem dX7_task_83 : decode cX7_task 83 = .ok (.getfield 20, 3) := by decide +kernel
theorem dX7_task_86 : decode cX7_task 86 = .ok (.iload_n 1, 1) := by decide +kernel
theorem dX7_task_87 : decode cX7_task 87 = .ok (.iaload, 1) := by decide +kernel
theorem dX7_task_88 : decode cX7_task 88 = .ok (.ireturn, 1) := by decide +kernel
theorem dX7_task_89 : decode cX7_task 89 = .ok (.aload_n 0, 1) := by decide +kernel
theorem dX7_task_90 : decode cX7_task 90 = .ok (.getfield 23, 3) := by decide +kernel
theorem dX7_task_93 : decode cX7_task 93 = .ok (.iload_n 1, 1) := by decide +kernel
theorem dX7_task_94 : decode cX7_task 94 = .ok (.iaload, 1) := by decide +kernel
theorem dX7_task_95 : decode cX7_task 95 = .ok (.ireturn, 1) := by decide +kernel
theorem dX7_task_96 : decode cX7_task 96 = .ok (.aload_n 0, 1) := by decide +kernel
theorem dX7_task_97 : decode cX7_task 97 = .ok (.iload_n 1, 1) := by decide +kernel
theorem dX7_task_98 : decode cX7_task 98 = .ok (.invokevirtual 177, 3) := by decide +kernel
theorem dX7_task_101 : decode cX7_task 101 = .ok (.ireturn, 1) := by decide +kernel
theorem dX7_task_102 : decode cX7_task 102 = .ok (.aload_n 0, 1) := by decide +kernel
theorem dX7_task_103 : decode cX7_task 103 = .ok (.getfield 26, 3) := by decide +kernel
theorem dX7_task_106 : decode cX7_task 106 = .ok (.iload_n 1, 1) := by decide +kernel
theorem dX7_task_107 : decode cX7_task 107 = .ok (.iaload, 1) := by decide +kernel
theorem dX7_task_108 : decode cX7_task 108 = .ok (.ireturn, 1) := by decide +kernel
theorem dX7_task_109 : decode cX7_task 109 = .ok (.aload_n 0, 1) := by decide +kernel
theorem dX7_task_110 : decode cX7_task 110 = .ok (.getfield 29, 3) := by decide +kernel
theorem dX7_task_113 : decode cX7_task 113 = .ok (.iload_n 1, 1) := by decide +kernel
theorem dX7_task_114 : decode cX7_task 114 = .ok (.iaload, 1) := by decide +kernel
theorem dX7_task_115 : decode cX7_task 115 = .ok (.ireturn, 1) := by decide +kernel
theorem dX7_task_116 : decode cX7_task 116 = .ok (.aload_n 0, 1) := by decide +kernel
theorem dX7_task_117 : decode cX7_task 117 = .ok (.getfield 32, 3) := by decide +kernel
theorem dX7_task_120 : decode cX7_task 120 = .ok (.iload_n 1, 1) := by decide +kernel
theorem dX7_task_121 : decode cX7_task 121 = .ok (.iaload, 1) := by decide +kernel
theorem dX7_task_122 : decode cX7_task 122 = .ok (.ireturn, 1) := by decide +kernel
theorem dX7_task_123 : decode cX7_task 123 = .ok (.aload_n 0, 1) := by decide +kernel
theorem dX7_task_124 : decode cX7_task 124 = .ok (.getfield 35, 3) := by decide +kernel
theorem dX7_task_127 : decode cX7_task 127 = .ok (.iload_n 1, 1) := by decide +kernel
theorem dX7_task_128 : decode cX7_task 128 = .ok (.iaload, 1) := by decide +kernel
theorem dX7_task_129 : decode cX7_task 129 = .ok (.ireturn, 1) := by decide +kernel
theorem dX7_task_130 : decode cX7_task 130 = .ok (.aload_n 0, 1) := by decide +kernel
theorem dX7_task_131 : decode cX7_task 131 = .ok (.getfield 38, 3) := by decide +kernel
theorem dX7_task_134 : decode cX7_task 134 = .ok (.iload_n 1, 1) := by decide +kernel
theorem dX7_task_135 : decode cX7_task 135 = .ok (.iaload, 1) := by decide +kernel
theorem dX7_task_136 : decode cX7_task 136 = .ok (.ireturn, 1) := by decide +kernel
theorem dX7_task_137 : decode cX7_task 137 = .ok (.aload_n 0, 1) := by decide +kernel
theorem dX7_task_138 : decode cX7_task 138 = .ok (.getfield 41, 3) := by decide +kernel
theorem dX7_task_141 : decode cX7_task 141 = .ok (.iload_n 1, 1) := by decide +kernel
theorem dX7_task_142 : decode cX7_task 142 = .ok (.iaload, 1) := by decide +kernel
theorem dX7_task_143 : decode cX7_task 143 = .ok (.ireturn, 1) := by decide +kernel
theorem dX7_task_144 : decode cX7_task 144 = .ok (.iconst (-1), 1) := by decide +kernel
theorem dX7_task_145 : decode cX7_task 145 = .ok (.ireturn, 1) := by decide +kernel
theorem dX7_count_0 : decode cX7_count 0 = .ok (.iconst 0, 1) := by decide +kernel
theorem dX7_count_1 : decode cX7_count 1 = .ok (.istore_n 2, 1) := by decide +kernel
theorem dX7_count_2 : decode cX7_count 2 = .ok (.iload_n 1, 1) := by decide +kernel
theorem dX7_count_3 : decode cX7_count 3 = .ok (.tableswitch 166 0 6 #[41, 46, 81, 115, 120, 156, 161], 41) := by decide +kernel
theorem dX7_count_44 : decode cX7_count 44 = .ok (.aload_n 0, 1) := by decide +kernel
theorem dX7_count_45 : decode cX7_count 45 = .ok (.getfield 127, 3) := by decide +kernel
theorem dX7_count_48 : decode cX7_count 48 = .ok (.ireturn, 1) := by decide +kernel
theorem dX7_count_49 : decode cX7_count 49 = .ok (.iconst 0, 1) := by decide +kernel
theorem dX7_count_50 : decode cX7_count 50 = .ok (.istore_n 3, 1) := by decide +kernel
theorem dX7_count_51 : decode cX7_count 51 = .ok (.iload_n 3, 1) := by decide +kernel
theorem dX7_count_52 : decode cX7_count 52 = .ok (.aload_n 0, 1) := by decide +kernel
theorem dX7_count_53 : decode cX7_count 53 = .ok (.getfield 93, 3) := by decide +kernel
theorem dX7_count_56 : decode cX7_count 56 = .ok (.if_icmp .ge 26, 3) := by decide +kernel
theorem dX7_count_59 : decode cX7_count 59 = .ok (.iload_n 2, 1) := by decide +kernel
theorem dX7_count_60 : decode cX7_count 60 = .ok (.aload_n 0, 1) := by decide +kernel
theorem dX7_count_61 : decode cX7_count 61 = .ok (.getfield 9, 3) := by decide +kernel
theorem dX7_count_64 : decode cX7_count 64 = .ok (.iload_n 3, 1) := by decide +kernel
theorem dX7_count_65 : decode cX7_count 65 = .ok (.baload, 1) := by decide +kernel
theorem dX7_count_66 : decode cX7_count 66 = .ok (.ifCond .eq 7, 3) := by decide +kernel
theorem dX7_count_69 : decode cX7_count 69 = .ok (.iconst 1, 1) := by decide +kernel
theorem dX7_count_70 : decode cX7_count 70 = .ok (.goto 4, 3) := by decide +kernel
theorem dX7_count_73 : decode cX7_count 73 = .ok (.iconst 0, 1) := by decide +kernel
theorem dX7_count_74 : decode cX7_count 74 = .ok (.iadd, 1) := by decide +kernel
theorem dX7_count_75 : decode cX7_count 75 = .ok (.istore_n 2, 1) := by decide +kernel
theorem dX7_count_76 : decode cX7_count 76 = .ok (.iinc 3 1, 3) := by decide +kernel
theorem dX7_count_79 : decode cX7_count 79 = .ok (.goto (-28), 3) := by decide +kernel
theorem dX7_count_82 : decode cX7_count 82 = .ok (.iload_n 2, 1) := by decide +kernel
theorem dX7_count_83 : decode cX7_count 83 = .ok (.ireturn, 1) := by decide +kernel
theorem dX7_count_84 : decode cX7_count 84 = .ok (.iconst 0, 1) := by decide +kernel
theorem dX7_count_85 : decode cX7_count 85 = .ok (.istore_n 3, 1) := by decide +kernel
theorem dX7_count_86 : decode cX7_count 86 = .ok (.iload_n 3, 1) := by decide +kernel
theorem dX7_count_87 : decode cX7_count 87 = .ok (.aload_n 0, 1) := by decide +kernel
theorem dX7_count_88 : decode cX7_count 88 = .ok (.getfield 93, 3) := by decide +kernel
theorem dX7_count_91 : decode cX7_count 91 = .ok (.if_icmp .ge 25, 3) := by decide +kernel
theorem dX7_count_94 : decode cX7_count 94 = .ok (.iload_n 2, 1) := by decide +kernel
theorem dX7_count_95 : decode cX7_count 95 = .ok (.aload_n 0, 1) := by decide +kernel
theorem dX7_count_96 : decode cX7_count 96 = .ok (.iload_n 3, 1) := by decide +kernel
theorem dX7_count_97 : decode cX7_count 97 = .ok (.invokevirtual 113, 3) := by decide +kernel
theorem dX7_count_100 : decode cX7_count 100 = .ok (.ifCond .eq 7, 3) := by decide +kernel
theorem dX7_count_103 : decode cX7_count 103 = .ok (.iconst 1, 1) := by decide +kernel
theorem dX7_count_104 : decode cX7_count 104 = .ok (.goto 4, 3) := by decide +kernel
theorem dX7_count_107 : decode cX7_count 107 = .ok (.iconst 0, 1) := by decide +kernel
theorem dX7_count_108 : decode cX7_count 108 = .ok (.iadd, 1) := by decide +kernel
theorem dX7_count_109 : decode cX7_count 109 = .ok (.istore_n 2, 1) := by decide +kernel
theorem dX7_count_110 : decode cX7_count 110 = .ok (.iinc 3 1, 3) := by decide +kernel
theorem dX7_count_113 : decode cX7_count 113 = .ok (.goto (-27), 3) := by decide +kernel
theorem dX7_count_116 : decode cX7_count 116 = .ok (.iload_n 2, 1) := by decide +kernel
theorem dX7_count_117 : decode cX7_count 117 = .ok (.ireturn, 1) := by decide +kernel
theorem dX7_count_118 : decode cX7_count 118 = .ok (.aload_n 0, 1) := by decide +kernel
theorem dX7_count_119 : decode cX7_count 119 = .ok (.getfield 133, 3) := by decide +kernel
theorem dX7_count_122 : decode cX7_count 122 = .ok (.ireturn, 1) := by decide +kernel
theorem dX7_count_123 : decode cX7_count 123 = .ok (.iconst 0, 1) := by decide +kernel
theorem dX7_count_124 : decode cX7_count 124 = .ok (.istore_n 3, 1) := by decide +kernel
theorem dX7_count_125 : decode cX7_count 125 = .ok (.iload_n 3, 1) := by decide +kernel
theorem dX7_count_126 : decode cX7_count 126 = .ok (.aload_n 0, 1) := by decide +kernel
theorem dX7_count_127 : decode cX7_count 127 = .ok (.getfield 97, 3) := by decide +kernel
theorem dX7_count_130 : decode cX7_count 130 = .ok (.if_icmp .ge 27, 3) := by decide +kernel
theorem dX7_count_133 : decode cX7_count 133 = .ok (.iload_n 2, 1) := by decide +kernel
theorem dX7_count_134 : decode cX7_count 134 = .ok (.aload_n 0, 1) := by decide +kernel
theorem dX7_count_135 : decode cX7_count 135 = .ok (.getfield 62, 3) := by decide +kernel
theorem dX7_count_138 : decode cX7_count 138 = .ok (.iload_n 3, 1) := by decide +kernel
theorem dX7_count_139 : decode cX7_count 139 = .ok (.iaload, 1) := by decide +kernel
theorem dX7_count_140 : decode cX7_count 140 = .ok (.iconst (-1), 1) := by decide +kernel
theorem dX7_count_141 : decode cX7_count 141 = .ok (.if_icmp .eq 7, 3) := by decide +kernel
theorem dX7_count_144 : decode cX7_count 144 = .ok (.iconst 1, 1) := by decide +kernel
theorem dX7_count_145 : decode cX7_count 145 = .ok (.goto 4, 3) := by decide +kernel
theorem dX7_count_148 : decode cX7_count 148 = .ok (.iconst 0, 1) := by decide +kernel
theorem dX7_count_149 : decode cX7_count 149 = .ok (.iadd, 1) := by decide +kernel
theorem dX7_count_150 : decode cX7_count 150 = .ok (.istore_n 2, 1) := by decide +kernel
theorem dX7_count_151 : decode cX7_count 151 = .ok (.iinc 3 1, 3) := by decide +kernel
theorem dX7_count_154 : decode cX7_count 154 = .ok (.goto (-29), 3) := by decide +kernel
theorem dX7_count_157 : decode cX7_count 157 = .ok (.iload_n 2, 1) := by decide +kernel
theorem dX7_count_158 : decode cX7_count 158 = .ok (.ireturn, 1) := by decide +kernel
theorem dX7_count_159 : decode cX7_count 159 = .ok (.aload_n 0, 1) := by decide +kernel
theorem dX7_count_160 : decode cX7_count 160 = .ok (.getfield 162, 3) := by decide +kernel
theorem dX7_count_163 : decode cX7_count 163 = .ok (.ireturn, 1) := by decide +kernel
theorem dX7_count_164 : decode cX7_count 164 = .ok (.aload_n 0, 1) := by decide +kernel
theorem dX7_count_165 : decode cX7_count 165 = .ok (.getfield 106, 3) := by decide +kernel
theorem dX7_count_168 : decode cX7_count 168 = .ok (.ireturn, 1) := by decide +kernel
theorem dX7_count_169 : decode cX7_count 169 = .ok (.iconst (-1), 1) := by decide +kernel
theorem dX7_count_170 : decode cX7_count 170 = .ok (.ireturn, 1) := by decide +kernel
