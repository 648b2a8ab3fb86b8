theorem dX7_init_0 : decode cX7_init 0 = .ok (.aload_n 0, 1) := by decide +kernel
theorem dX7_init_1 : decode cX7_init 1 = .ok (.invokespecial 1, 3) := by decide +kernel
theorem dX7_init_4 : decode cX7_init 4 = .ok (.aload_n 0, 1) := by decide +kernel
theorem dX7_init_5 : decode cX7_init 5 = .ok (.sipush 1026, 3) := by decide +kernel
theorem dX7_init_8 : decode cX7_init 8 = .ok (.newarray .int, 2) := by decide +kernel
theorem dX7_init_10 : decode cX7_init 10 = .ok (.putfield 7, 3) := by decide +kernel
theorem dX7_init_13 : decode cX7_init 13 = .ok (.aload_n 0, 1) := by decide +kernel
theorem dX7_init_14 : decode cX7_init 14 = .ok (.sipush 150, 3) := by decide +kernel
theorem dX7_init_17 : decode cX7_init 17 = .ok (.newarray .int, 2) := by decide +kernel
theorem dX7_init_19 : decode cX7_init 19 = .ok (.putfield 13, 3) := by decide +kernel
theorem dX7_init_22 : decode cX7_init 22 = .ok (.aload_n 0, 1) := by decide +kernel
theorem dX7_init_23 : decode cX7_init 23 = .ok (.bipush 24, 2) := by decide +kernel
theorem dX7_init_25 : decode cX7_init 25 = .ok (.newarray .int, 2) := by decide +kernel
theorem dX7_init_27 : decode cX7_init 27 = .ok (.putfield 16, 3) := by decide +kernel
theorem dX7_init_30 : decode cX7_init 30 = .ok (.aload_n 0, 1) := by decide +kernel
theorem dX7_init_31 : decode cX7_init 31 = .ok (.bipush 24, 2) := by decide +kernel
theorem dX7_init_33 : decode cX7_init 33 = .ok (.newarray .int, 2) := by decide +kernel
theorem dX7_init_35 : decode cX7_init 35 = .ok (.putfield 19, 3) := by decide +kernel
theorem dX7_init_38 : decode cX7_init 38 = .ok (.aload_n 0, 1) := by decide +kernel
theorem dX7_init_39 : decode cX7_init 39 = .ok (.bipush 24, 2) := by decide +kernel
theorem dX7_init_41 : decode cX7_init 41 = .ok (.newarray .int, 2) := by decide +kernel
theorem dX7_init_43 : decode cX7_init 43 = .ok (.putfield 22, 3) := by decide +kernel
theorem dX7_init_46 : decode cX7_init 46 = .ok (.aload_n 0, 1) := by decide +kernel
theorem dX7_init_47 : decode cX7_init 47 = .ok (.bipush 24, 2) := by decide +kernel
theorem dX7_init_49 : decode cX7_init 49 = .ok (.newarray .int, 2) := by decide +kernel
theorem dX7_init_51 : decode cX7_init 51 = .ok (.putfield 25, 3) := by decide +kernel
theorem dX7_init_54 : decode cX7_init 54 = .ok (.aload_n 0, 1) := by decide +kernel
theorem dX7_init_55 : decode cX7_init 55 = .ok (.bipush 24, 2) := by decide +kernel
theorem dX7_init_57 : decode cX7_init 57 = .ok (.newarray .int, 2) := by decide +kernel
theorem dX7_init_59 : decode cX7_init 59 = .ok (.putfield 28, 3) := by decide +kernel
theorem dX7_init_62 : decode cX7_init 62 = .ok (.aload_n 0, 1) := by decide +kernel
theorem dX7_init_63 : decode cX7_init 63 = .ok (.bipush 24, 2) := by decide +kernel
theorem dX7_init_65 : decode cX7_init 65 = .ok (.newarray .boolean, 2) := by decide +kernel
theorem dX7_init_67 : decode cX7_init 67 = .ok (.putfield 31, 3) := by decide +kernel
theorem dX7_init_70 : decode cX7_init 70 = .ok (.aload_n 0, 1) := by decide +kernel
theorem dX7_init_71 : decode cX7_init 71 = .ok (.iconst 3, 1) := by decide +kernel
theorem dX7_init_72 : decode cX7_init 72 = .ok (.newarray .int, 2) := by decide +kernel
theorem dX7_init_74 : decode cX7_init 74 = .ok (.putfield 35, 3) := by decide +kernel
theorem dX7_init_77 : decode cX7_init 77 = .ok (.aload_n 0, 1) := by decide +kernel
theorem dX7_init_78 : decode cX7_init 78 = .ok (.bipush 24, 2) := by decide +kernel
theorem dX7_init_80 : decode cX7_init 80 = .ok (.newarray .int, 2) := by decide +kernel
theorem dX7_init_82 : decode cX7_init 82 = .ok (.putfield 38, 3) := by decide +kernel
theorem dX7_init_85 : decode cX7_init 85 = .ok (.aload_n 0, 1) := by decide +kernel
theorem dX7_init_86 : decode cX7_init 86 = .ok (.getfield 7, 3) := by decide +kernel
theorem dX7_init_89 : decode cX7_init 89 = .ok (.iconst 0, 1) := by decide +kernel
theorem dX7_init_90 : decode cX7_init 90 = .ok (.iconst 1, 1) := by decide +kernel
theorem dX7_init_91 : decode cX7_init 91 = .ok (.iastore, 1) := by decide +kernel
theorem dX7_init_92 : decode cX7_init 92 = .ok (.aload_n 0, 1) := by decide +kernel
theorem dX7_init_93 : decode cX7_init 93 = .ok (.getfield 7, 3) := by decide +kernel
theorem dX7_init_96 : decode cX7_init 96 = .ok (.iconst 1, 1) := by decide +kernel
theorem dX7_init_97 : decode cX7_init 97 = .ok (.iconst 1, 1) := by decide +kernel
theorem dX7_init_98 : decode cX7_init 98 = .ok (.iastore, 1) := by decide +kernel
theorem dX7_init_99 : decode cX7_init 99 = .ok (.aload_n 0, 1) := by decide +kernel
theorem dX7_init_100 : decode cX7_init 100 = .ok (.getfield 7, 3) := by decide +kernel
theorem dX7_init_103 : decode cX7_init 103 = .ok (.iconst 2, 1) := by decide +kernel
theorem dX7_init_104 : decode cX7_init 104 = .ok (.bipush 99, 2) := by decide +kernel
theorem dX7_init_106 : decode cX7_init 106 = .ok (.iastore, 1) := by decide +kernel
theorem dX7_init_107 : decode cX7_init 107 = .ok (.aload_n 0, 1) := by decide +kernel
theorem dX7_init_108 : decode cX7_init 108 = .ok (.getfield 7, 3) := by decide +kernel
theorem dX7_init_111 : decode cX7_init 111 = .ok (.iconst 5, 1) := by decide +kernel
theorem dX7_init_112 : decode cX7_init 112 = .ok (.iconst (-1), 1) := by decide +kernel
theorem dX7_init_113 : decode cX7_init 113 = .ok (.iastore, 1) := by decide +kernel
theorem dX7_init_114 : decode cX7_init 114 = .ok (.aload_n 0, 1) := by decide +kernel
theorem dX7_init_115 : decode cX7_init 115 = .ok (.getfield 7, 3) := by decide +kernel
theorem dX7_init_118 : decode cX7_init 118 = .ok (.bipush 6, 2) := by decide +kernel
theorem dX7_init_120 : decode cX7_init 120 = .ok (.iconst (-1), 1) := by decide +kernel
theorem dX7_init_121 : decode cX7_init 121 = .ok (.iastore, 1) := by decide +kernel
theorem dX7_init_122 : decode cX7_init 122 = .ok (.aload_n 0, 1) := by decide +kernel
theorem dX7_init_123 : decode cX7_init 123 = .ok (.getfield 7, 3) := by decide +kernel
theorem dX7_init_126 : decode cX7_init 126 = .ok (.bipush 7, 2) := by decide +kernel
theorem dX7_init_128 : decode cX7_init 128 = .ok (.iconst (-1), 1) := by decide +kernel
theorem dX7_init_129 : decode cX7_init 129 = .ok (.iastore, 1) := by decide +kernel
theorem dX7_init_130 : decode cX7_init 130 = .ok (.return_, 1) := by decide +kernel
theorem dX7_in_0 : decode cX7_in 0 = .ok (.iload_n 0, 1) := by decide +kernel
theorem dX7_in_1 : decode cX7_in 1 = .ok (.iload_n 1, 1) := by decide +kernel
theorem dX7_in_2 : decode cX7_in 2 = .ok (.if_icmp .lt 12, 3) := by decide +kernel
theorem dX7_in_5 : decode cX7_in 5 = .ok (.iload_n 0, 1) := by decide +kernel
theorem dX7_in_6 : decode cX7_in 6 = .ok (.iload_n 2, 1) := by decide +kernel
theorem dX7_in_7 : decode cX7_in 7 = .ok (.if_icmp .gt 7, 3) := by decide +kernel
theorem dX7_in_10 : decode cX7_in 10 = .ok (.iconst 1, 1) := by decide +kernel
theorem dX7_in_11 : decode cX7_in 11 = .ok (.goto 4, 3) := by decide +kernel
theorem dX7_in_14 : decode cX7_in 14 = .ok (.iconst 0, 1) := by decide +kernel
theorem dX7_in_15 : decode cX7_in 15 = .ok (.ireturn, 1) := by decide +kernel
theorem dX7_copies_0 : decode cX7_copies 0 = .ok (.iconst 0, 1) := by decide +kernel
theorem dX7_copies_1 : decode cX7_copies 1 = .ok (.istore_n 3, 1) := by decide +kernel
theorem dX7_copies_2 : decode cX7_copies 2 = .ok (.iload_n 3, 1) := by decide +kernel
theorem dX7_copies_3 : decode cX7_copies 3 = .ok (.sipush 171, 3) := by decide +kernel
theorem dX7_copies_6 : decode cX7_copies 6 = .ok (.if_icmp .ge 25, 3) := by decide +kernel
theorem dX7_copies_9 : decode cX7_copies 9 = .ok (.aload_n 0, 1) := by decide +kernel
theorem dX7_copies_10 : decode cX7_copies 10 = .ok (.getfield 7, 3) := by decide +kernel
theorem dX7_copies_13 : decode cX7_copies 13 = .ok (.iload_n 2, 1) := by decide +kernel
theorem dX7_copies_14 : decode cX7_copies 14 = .ok (.iload_n 3, 1) := by decide +kernel
theorem dX7_copies_15 : decode cX7_copies 15 = .ok (.iadd, 1) := by decide +kernel
theorem dX7_copies_16 : decode cX7_copies 16 = .ok (.aload_n 0, 1) := by decide +kernel
theorem dX7_copies_17 : decode cX7_copies 17 = .ok (.getfield 7, 3) := by decide +kernel
theorem dX7_copies_20 : decode cX7_copies 20 = .ok (.iload_n 1, 1) := by decide +kernel
theorem dX7_copies_21 : decode cX7_copies 21 = .ok (.iload_n 3, 1) := by decide +kernel
theorem dX7_copies_22 : decode cX7_copies 22 = .ok (.iadd, 1) := by decide +kernel
theorem dX7_copies_23 : decode cX7_copies 23 = .ok (.iaload, 1) := by decide +kernel
theorem dX7_copies_24 : decode cX7_copies 24 = .ok (.iastore, 1) := by decide +kernel
theorem dX7_copies_25 : decode cX7_copies 25 = .ok (.iinc 3 1, 3) := by decide +kernel
theorem dX7_copies_28 : decode cX7_copies 28 = .ok (.goto (-26), 3) := by decide +kernel
theorem dX7_copies_31 : decode cX7_copies 31 = .ok (.return_, 1) := by decide +kernel
theorem dX7_saves_0 : decode cX7_saves 0 = .ok (.aload_n 0, 1) := by decide +kernel
theorem dX7_saves_1 : decode cX7_saves 1 = .ok (.getfield 41, 3) := by decide +kernel
theorem dX7_saves_4 : decode cX7_saves 4 = .ok (.iconst 4, 1) := by decide +kernel
theorem dX7_saves_5 : decode cX7_saves 5 = .ok (.if_icmp .ne 42, 3) := by decide +kernel
theorem dX7_saves_8 : decode cX7_saves 8 = .ok (.iconst 1, 1) := by decide +kernel
theorem dX7_saves_9 : decode cX7_saves 9 = .ok (.istore_n 1, 1) := by decide +kernel
theorem dX7_saves_10 : decode cX7_saves 10 = .ok (.iload_n 1, 1) := by decide +kernel
theorem dX7_saves_11 : decode cX7_saves 11 = .ok (.iconst 4, 1) := by decide +kernel
theorem dX7_saves_12 : decode cX7_saves 12 = .ok (.if_icmp .ge 25, 3) := by decide +kernel
theorem dX7_saves_15 : decode cX7_saves 15 = .ok (.aload_n 0, 1) := by decide +kernel
theorem dX7_saves_16 : decode cX7_saves 16 = .ok (.sipush 171, 3) := by decide +kernel
theorem dX7_saves_19 : decode cX7_saves 19 = .ok (.iload_n 1, 1) := by decide +kernel
theorem dX7_saves_20 : decode cX7_saves 20 = .ok (.iconst 1, 1) := by decide +kernel
theorem dX7_saves_21 : decode cX7_saves 21 = .ok (.iadd, 1) := by decide +kernel
theorem dX7_saves_22 : decode cX7_saves 22 = .ok (.imul, 1) := by decide +kernel
theorem dX7_saves_23 : decode cX7_saves 23 = .ok (.sipush 171, 3) := by decide +kernel
theorem dX7_saves_26 : decode cX7_saves 26 = .ok (.iload_n 1, 1) := by decide +kernel
theorem dX7_saves_27 : decode cX7_saves 27 = .ok (.imul, 1) := by decide +kernel
theorem dX7_saves_28 : decode cX7_saves 28 = .ok (.invokevirtual 45, 3) := by decide +kernel
theorem dX7_saves_31 : decode cX7_saves 31 = .ok (.iinc 1 1, 3) := by decide +kernel
theorem dX7_saves_34 : decode cX7_saves 34 = .ok (.goto (-24), 3) := by decide +kernel
theorem dX7_saves_37 : decode cX7_saves 37 = .ok (.aload_n 0, 1) := by decide +kernel
theorem dX7_saves_38 : decode cX7_saves 38 = .ok (.dup, 1) := by decide +kernel
theorem dX7_saves_39 : decode cX7_saves 39 = .ok (.getfield 41, 3) := by decide +kernel
theorem dX7_saves_42 : decode cX7_saves 42 = .ok (.iconst 1, 1) := by decide +kernel
theorem dX7_saves_43 : decode cX7_saves 43 = .ok (.isub, 1) := by decide +kernel
theorem dX7_saves_44 : decode cX7_saves 44 = .ok (.putfield 41, 3) := by decide +kernel
theorem dX7_saves_47 : decode cX7_saves 47 = .ok (.aload_n 0, 1) := by decide +kernel
theorem dX7_saves_48 : decode cX7_saves 48 = .ok (.dup, 1) := by decide +kernel
theorem dX7_saves_49 : decode cX7_saves 49 = .ok (.getfield 41, 3) := by decide +kernel
theorem dX7_saves_52 : decode cX7_saves 52 = .ok (.iconst 1, 1) := by decide +kernel
theorem dX7_saves_53 : decode cX7_saves 53 = .ok (.iadd, 1) := by decide +kernel
theorem dX7_saves_54 : decode cX7_saves 54 = .ok (.putfield 41, 3) := by decide +kernel
theorem dX7_saves_57 : decode cX7_saves 57 = .ok (.aload_n 0, 1) := by decide +kernel
theorem dX7_saves_58 : decode cX7_saves 58 = .ok (.iconst 0, 1) := by decide +kernel
theorem dX7_saves_59 : decode cX7_saves 59 = .ok (.sipush 171, 3) := by decide +kernel
theorem dX7_saves_62 : decode cX7_saves 62 = .ok (.aload_n 0, 1) := by decide +kernel
theorem dX7_saves_63 : decode cX7_saves 63 = .ok (.getfield 41, 3) := by decide +kernel
theorem dX7_saves_66 : decode cX7_saves 66 = .ok (.imul, 1) := by decide +kernel
theorem dX7_saves_67 : decode cX7_saves 67 = .ok (.invokevirtual 45, 3) := by decide +kernel
theorem dX7_saves_70 : decode cX7_saves 70 = .ok (.return_, 1) := by decide +kernel
theorem dX7_of_0 : decode cX7_of 0 = .ok (.aload_n 0, 1) := by decide +kernel
theorem dX7_of_1 : decode cX7_of 1 = .ok (.getfield 7, 3) := by decide +kernel
theorem dX7_of_4 : decode cX7_of 4 = .ok (.iconst 3, 1) := by decide +kernel
theorem dX7_of_5 : decode cX7_of 5 = .ok (.bipush 7, 2) := by decide +kernel
theorem dX7_of_7 : decode cX7_of 7 = .ok (.iload_n 1, 1) := by decide +kernel
theorem dX7_of_8 : decode cX7_of 8 = .ok (.imul, 1) := by decide +kernel
theorem dX7_of_9 : decode cX7_of 9 = .ok (.iadd, 1) := by decide +kernel
theorem dX7_of_10 : decode cX7_of 10 = .ok (.iload_n 2, 1) := by decide +kernel
theorem dX7_of_11 : decode cX7_of 11 = .ok (.iadd, 1) := by decide +kernel
theorem dX7_of_12 : decode cX7_of 12 = .ok (.iaload, 1) := by decide +kernel
theorem dX7_of_13 : decode cX7_of 13 = .ok (.ireturn, 1) := by decide +kernel
theorem dX7_set_0 : decode cX7_set 0 = .ok (.aload_n 0, 1) := by decide +kernel
theorem dX7_set_1 : decode cX7_set 1 = .ok (.getfield 7, 3) := by decide +kernel
theorem dX7_set_4 : decode cX7_set 4 = .ok (.iconst 3, 1) := by decide +kernel
theorem dX7_set_5 : decode cX7_set 5 = .ok (.bipush 7, 2) := by decide +kernel
theorem dX7_set_7 : decode cX7_set 7 = .ok (.iload_n 1, 1) := by decide +kernel
theorem dX7_set_8 : decode cX7_set 8 = .ok (.imul, 1) := by decide +kernel
theorem dX7_set_9 : decode cX7_set 9 = .ok (.iadd, 1) := by decide +kernel
theorem dX7_set_10 : decode cX7_set 10 = .ok (.iload_n 2, 1) := by decide +kernel
theorem dX7_set_11 : decode cX7_set 11 = .ok (.iadd, 1) := by decide +kernel
theorem dX7_set_12 : decode cX7_set 12 = .ok (.iload_n 3, 1) := by decide +kernel
theorem dX7_set_13 : decode cX7_set 13 = .ok (.iastore, 1) := by decide +kernel
theorem dX7_set_14 : decode cX7_set 14 = .ok (.return_, 1) := by decide +kernel
theorem dX7_find_0 : decode cX7_find 0 = .ok (.iconst 0, 1) := by decide +kernel
theorem dX7_find_1 : decode cX7_find 1 = .ok (.istore_n 2, 1) := by decide +kernel
theorem dX7_find_2 : decode cX7_find 2 = .ok (.iload_n 2, 1) := by decide +kernel
theorem dX7_find_3 : decode cX7_find 3 = .ok (.aload_n 0, 1) := by decide +kernel
theorem dX7_find_4 : decode cX7_find 4 = .ok (.getfield 7, 3) := by decide +kernel
theorem dX7_find_7 : decode cX7_find 7 = .ok (.iconst 0, 1) := by decide +kernel
theorem dX7_find_8 : decode cX7_find 8 = .ok (.iaload, 1) := by decide +kernel
theorem dX7_find_9 : decode cX7_find 9 = .ok (.if_icmp .ge 21, 3) := by decide +kernel
theorem dX7_find_12 : decode cX7_find 12 = .ok (.aload_n 0, 1) := by decide +kernel
theorem dX7_find_13 : decode cX7_find 13 = .ok (.iload_n 2, 1) := by decide +kernel
theorem dX7_find_14 : decode cX7_find 14 = .ok (.iconst 0, 1) := by decide +kernel
theorem dX7_find_15 : decode cX7_find 15 = .ok (.invokevirtual 49, 3) := by decide +kernel
theorem dX7_find_18 : decode cX7_find 18 = .ok (.iload_n 1, 1) := by decide +kernel
theorem dX7_find_19 : decode cX7_find 19 = .ok (.if_icmp .ne 5, 3) := by decide +kernel
theorem dX7_find_22 : decode cX7_find 22 = .ok (.iload_n 2, 1) := by decide +kernel
theorem dX7_find_23 : decode cX7_find 23 = .ok (.ireturn, 1) := by decide +kernel
theorem dX7_find_24 : decode cX7_find 24 = .ok (.iinc 2 1, 3) := by decide +kernel
theorem dX7_find_27 : decode cX7_find 27 = .ok (.goto (-25), 3) := by decide +kernel
theorem dX7_find_30 : decode cX7_find 30 = .ok (.iconst (-1), 1) := by decide +kernel
theorem dX7_find_31 : decode cX7_find 31 = .ok (.ireturn, 1) := by decide +kernel
theorem dX7_isTask_0 : decode cX7_isTask 0 = .ok (.aload_n 0, 1) := by decide +kernel
theorem dX7_isTask_1 : decode cX7_isTask 1 = .ok (.aload_n 0, 1) := by decide +kernel
theorem dX7_isTask_2 : decode cX7_isTask 2 = .ok (.iload_n 1, 1) := by decide +kernel
theorem dX7_isTask_3 : decode cX7_isTask 3 = .ok (.invokevirtual 53, 3) := by decide +kernel
theorem dX7_isTask_6 : decode cX7_isTask 6 = .ok (.iconst 1, 1) := by decide +kernel
theorem dX7_isTask_7 : decode cX7_isTask 7 = .ok (.invokevirtual 49, 3) := by decide +kernel
theorem dX7_isTask_10 : decode cX7_isTask 10 = .ok (.iconst 1, 1) := by decide +kernel
theorem dX7_isTask_11 : decode cX7_isTask 11 = .ok (.if_icmp .ne 7, 3) := by decide +kernel
theorem dX7_isTask_14 : decode cX7_isTask 14 = .ok (.iconst 1, 1) := by decide +kernel
theorem dX7_isTask_15 : decode cX7_isTask 15 = .ok (.goto 4, 3) := by decide +kernel
theorem dX7_isTask_18 : decode cX7_isTask 18 = .ok (.iconst 0, 1) := by decide +kernel
theorem dX7_isTask_19 : decode cX7_isTask 19 = .ok (.ireturn, 1) := by decide +kernel
theorem dX7_thrown_0 : decode cX7_thrown 0 = .ok (.aload_n 0, 1) := by decide +kernel
theorem dX7_thrown_1 : decode cX7_thrown 1 = .ok (.getfield 57, 3) := by decide +kernel
theorem dX7_thrown_4 : decode cX7_thrown 4 = .ok (.ireturn, 1) := by decide +kernel
theorem dX7_isRefused_0 : decode cX7_isRefused 0 = .ok (.aload_n 0, 1) := by decide +kernel
theorem dX7_isRefused_1 : decode cX7_isRefused 1 = .ok (.iload_n 1, 1) := by decide +kernel
theorem dX7_isRefused_2 : decode cX7_isRefused 2 = .ok (.putfield 57, 3) := by decide +kernel
theorem dX7_isRefused_5 : decode cX7_isRefused 5 = .ok (.iload_n 1, 1) := by decide +kernel
theorem dX7_isRefused_6 : decode cX7_isRefused 6 = .ok (.ifCond .eq 7, 3) := by decide +kernel
theorem dX7_isRefused_9 : decode cX7_isRefused 9 = .ok (.iconst 1, 1) := by decide +kernel
theorem dX7_isRefused_10 : decode cX7_isRefused 10 = .ok (.goto 4, 3) := by decide +kernel
theorem dX7_isRefused_13 : decode cX7_isRefused 13 = .ok (.iconst 0, 1) := by decide +kernel
theorem dX7_isRefused_14 : decode cX7_isRefused 14 = .ok (.ireturn, 1) := by decide +kernel
theorem dX7_isBarred_0 : decode cX7_isBarred 0 = .ok (.aload_n 0, 1) := by decide +kernel
theorem dX7_isBarred_1 : decode cX7_isBarred 1 = .ok (.iload_n 1, 1) := by decide +kernel
theorem dX7_isBarred_2 : decode cX7_isBarred 2 = .ok (.iconst 3, 1) := by decide +kernel
theorem dX7_isBarred_3 : decode cX7_isBarred 3 = .ok (.if_icmp .ne 7, 3) := by decide +kernel
theorem dX7_isBarred_6 : decode cX7_isBarred 6 = .ok (.iconst 2, 1) := by decide +kernel
theorem dX7_isBarred_7 : decode cX7_isBarred 7 = .ok (.goto 4, 3) := by decide +kernel
theorem dX7_isBarred_10 : decode cX7_isBarred 10 = .ok (.iload_n 1, 1) := by decide +kernel
theorem dX7_isBarred_11 : decode cX7_isBarred 11 = .ok (.invokevirtual 60, 3) := by decide +kernel
theorem dX7_isBarred_14 : decode cX7_isBarred 14 = .ok (.ireturn, 1) := by decide +kernel
theorem dX7_isIn_0 : decode cX7_isIn 0 = .ok (.aload_n 0, 1) := by decide +kernel
theorem dX7_isIn_1 : decode cX7_isIn 1 = .ok (.iload_n 1, 1) := by decide +kernel
theorem dX7_isIn_2 : decode cX7_isIn 2 = .ok (.iconst 2, 1) := by decide +kernel
theorem dX7_isIn_3 : decode cX7_isIn 3 = .ok (.invokevirtual 49, 3) := by decide +kernel
theorem dX7_isIn_6 : decode cX7_isIn 6 = .ok (.iload_n 2, 1) := by decide +kernel
theorem dX7_isIn_7 : decode cX7_isIn 7 = .ok (.if_icmp .ne 17, 3) := by decide +kernel
theorem dX7_isIn_10 : decode cX7_isIn 10 = .ok (.aload_n 0, 1) := by decide +kernel
theorem dX7_isIn_11 : decode cX7_isIn 11 = .ok (.iload_n 1, 1) := by decide +kernel
theorem dX7_isIn_12 : decode cX7_isIn 12 = .ok (.iconst 3, 1) := by decide +kernel
theorem dX7_isIn_13 : decode cX7_isIn 13 = .ok (.invokevirtual 49, 3) := by decide +kernel
theorem dX7_isIn_16 : decode cX7_isIn 16 = .ok (.iload_n 3, 1) := by decide +kernel
theorem dX7_isIn_17 : decode cX7_isIn 17 = .ok (.if_icmp .ne 7, 3) := by decide +kernel
theorem dX7_isIn_20 : decode cX7_isIn 20 = .ok (.iconst 1, 1) := by decide +kernel
theorem dX7_isIn_21 : decode cX7_isIn 21 = .ok (.goto 4, 3) := by decide +kernel
theorem dX7_isIn_24 : decode cX7_isIn 24 = .ok (.iconst 0, 1) := by decide +kernel
theorem dX7_isIn_25 : decode cX7_isIn 25 = .ok (.ireturn, 1) := by decide +kernel
theorem dX7_rowLength_0 : decode cX7_rowLength 0 = .ok (.iconst 0, 1) := by decide +kernel
theorem dX7_rowLength_1 : decode cX7_rowLength 1 = .ok (.istore_n 3, 1) := by decide +kernel
theorem dX7_rowLength_2 : decode cX7_rowLength 2 = .ok (.iconst 0, 1) := by decide +kernel
theorem dX7_rowLength_3 : decode cX7_rowLength 3 = .ok (.istore 4, 2) := by decide +kernel
theorem dX7_rowLength_5 : decode cX7_rowLength 5 = .ok (.iload 4, 2) := by decide +kernel
theorem dX7_rowLength_7 : decode cX7_rowLength 7 = .ok (.aload_n 0, 1) := by decide +kernel
theorem dX7_rowLength_8 : decode cX7_rowLength 8 = .ok (.getfield 7, 3) := by decide +kernel
theorem dX7_rowLength_11 : decode cX7_rowLength 11 = .ok (.iconst 0, 1) := by decide +kernel
theorem dX7_rowLength_12 : decode cX7_rowLength 12 = .ok (.iaload, 1) := by decide +kernel
theorem dX7_rowLength_13 : decode cX7_rowLength 13 = .ok (.if_icmp .ge 34, 3) := by decide +kernel
theorem dX7_rowLength_16 : decode cX7_rowLength 16 = .ok (.iload_n 3, 1) := by decide +kernel
theorem dX7_rowLength_17 : decode cX7_rowLength 17 = .ok (.aload_n 0, 1) := by decide +kernel
theorem dX7_rowLength_18 : decode cX7_rowLength 18 = .ok (.iload 4, 2) := by decide +kernel
theorem dX7_rowLength_20 : decode cX7_rowLength 20 = .ok (.iload_n 1, 1) := by decide +kernel
theorem dX7_rowLength_21 : decode cX7_rowLength 21 = .ok (.iload_n 2, 1) := by decide +kernel
theorem dX7_rowLength_22 : decode cX7_rowLength 22 = .ok (.invokevirtual 64, 3) := by decide +kernel
theorem dX7_rowLength_25 : decode cX7_rowLength 25 = .ok (.ifCond .eq 13, 3) := by decide +kernel
theorem dX7_rowLength_28 : decode cX7_rowLength 28 = .ok (.aload_n 0, 1) := by decide +kernel
theorem dX7_rowLength_29 : decode cX7_rowLength 29 = .ok (.getfield 16, 3) := by decide +kernel
theorem dX7_rowLength_32 : decode cX7_rowLength 32 = .ok (.iload 4, 2) := by decide +kernel
theorem dX7_rowLength_34 : decode cX7_rowLength 34 = .ok (.iaload, 1) := by decide +kernel
theorem dX7_rowLength_35 : decode cX7_rowLength 35 = .ok (.goto 4, 3) := by decide +kernel
theorem dX7_rowLength_38 : decode cX7_rowLength 38 = .ok (.iconst 0, 1) := by decide +kernel
theorem dX7_rowLength_39 : decode cX7_rowLength 39 = .ok (.iadd, 1) := by decide +kernel
theorem dX7_rowLength_40 : decode cX7_rowLength 40 = .ok (.istore_n 3, 1) := by decide +kernel
theorem dX7_rowLength_41 : decode cX7_rowLength 41 = .ok (.iinc 4 1, 3) := by decide +kernel
theorem dX7_rowLength_44 : decode cX7_rowLength 44 = .ok (.goto (-39), 3) := by decide +kernel
theorem dX7_rowLength_47 : decode cX7_rowLength 47 = .ok (.iload_n 3, 1) := by decide +kernel
theorem dX7_rowLength_48 : decode cX7_rowLength 48 = .ok (.ireturn, 1) := by decide +kernel
theorem dX7_layOrder_0 : decode cX7_layOrder 0 = .ok (.iconst 1, 1) := by decide +kernel
theorem dX7_layOrder_1 : decode cX7_layOrder 1 = .ok (.istore_n 1, 1) := by decide +kernel
theorem dX7_layOrder_2 : decode cX7_layOrder 2 = .ok (.aload_n 0, 1) := by decide +kernel
theorem dX7_layOrder_3 : decode cX7_layOrder 3 = .ok (.getfield 28, 3) := by decide +kernel
theorem dX7_layOrder_6 : decode cX7_layOrder 6 = .ok (.iconst 0, 1) := by decide +kernel
theorem dX7_layOrder_7 : decode cX7_layOrder 7 = .ok (.iconst 0, 1) := by decide +kernel
theorem dX7_layOrder_8 : decode cX7_layOrder 8 = .ok (.iastore, 1) := by decide +kernel
theorem dX7_layOrder_9 : decode cX7_layOrder 9 = .ok (.iconst 0, 1) := by decide +kernel
theorem dX7_layOrder_10 : decode cX7_layOrder 10 = .ok (.istore_n 2, 1) := by decide +kernel
theorem dX7_layOrder_11 : decode cX7_layOrder 11 = .ok (.iload_n 2, 1) := by decide +kernel
theorem dX7_layOrder_12 : decode cX7_layOrder 12 = .ok (.iload_n 1, 1) := by decide +kernel
theorem dX7_layOrder_13 : decode cX7_layOrder 13 = .ok (.if_icmp .ge 63, 3) := by decide +kernel
theorem dX7_layOrder_16 : decode cX7_layOrder 16 = .ok (.aload_n 0, 1) := by decide +kernel
theorem dX7_layOrder_17 : decode cX7_layOrder 17 = .ok (.aload_n 0, 1) := by decide +kernel
theorem dX7_layOrder_18 : decode cX7_layOrder 18 = .ok (.getfield 28, 3) := by decide +kernel
theorem dX7_layOrder_21 : decode cX7_layOrder 21 = .ok (.iload_n 2, 1) := by decide +kernel
theorem dX7_layOrder_22 : decode cX7_layOrder 22 = .ok (.iaload, 1) := by decide +kernel
theorem dX7_layOrder_23 : decode cX7_layOrder 23 = .ok (.iconst 0, 1) := by decide +kernel
theorem dX7_layOrder_24 : decode cX7_layOrder 24 = .ok (.invokevirtual 49, 3) := by decide +kernel
theorem dX7_layOrder_27 : decode cX7_layOrder 27 = .ok (.istore_n 3, 1) := by decide +kernel
theorem dX7_layOrder_28 : decode cX7_layOrder 28 = .ok (.iconst 0, 1) := by decide +kernel
theorem dX7_layOrder_29 : decode cX7_layOrder 29 = .ok (.istore 4, 2) := by decide +kernel
theorem dX7_layOrder_31 : decode cX7_layOrder 31 = .ok (.iload 4, 2) := by decide +kernel
theorem dX7_layOrder_33 : decode cX7_layOrder 33 = .ok (.aload_n 0, 1) := by decide +kernel
theorem dX7_layOrder_34 : decode cX7_layOrder 34 = .ok (.getfield 7, 3) := by decide +kernel
theorem dX7_layOrder_37 : decode cX7_layOrder 37 = .ok (.iconst 0, 1) := by decide +kernel
theorem dX7_layOrder_38 : decode cX7_layOrder 38 = .ok (.iaload, 1) := by decide +kernel
theorem dX7_layOrder_39 : decode cX7_layOrder 39 = .ok (.if_icmp .ge 31, 3) := by decide +kernel
theorem dX7_layOrder_42 : decode cX7_layOrder 42 = .ok (.aload_n 0, 1) := by decide +kernel
theorem dX7_layOrder_43 : decode cX7_layOrder 43 = .ok (.iload 4, 2) := by decide +kernel
theorem dX7_layOrder_45 : decode cX7_layOrder 45 = .ok (.iconst 2, 1) := by decide +kernel
theorem dX7_layOrder_46 : decode cX7_layOrder 46 = .ok (.invokevirtual 49, 3) := by decide +kernel
theorem dX7_layOrder_49 : decode cX7_layOrder 49 = .ok (.iload_n 3, 1) := by decide +kernel
theorem dX7_layOrder_50 : decode cX7_layOrder 50 = .ok (.if_icmp .ne 14, 3) := by decide +kernel
theorem dX7_layOrder_53 : decode cX7_layOrder 53 = .ok (.aload_n 0, 1) := by decide +kernel
theorem dX7_layOrder_54 : decode cX7_layOrder 54 = .ok (.getfield 28, 3) := by decide +kernel
theorem dX7_layOrder_57 : decode cX7_layOrder 57 = .ok (.iload_n 1, 1) := by decide +kernel
theorem dX7_layOrder_58 : decode cX7_layOrder 58 = .ok (.iload 4, 2) := by decide +kernel
theorem dX7_layOrder_60 : decode cX7_layOrder 60 = .ok (.iastore, 1) := by decide +kernel
theorem dX7_layOrder_61 : decode cX7_layOrder 61 = .ok (.iinc 1 1, 3) := by decide +kernel
theorem dX7_layOrder_64 : decode cX7_layOrder 64 = .ok (.iinc 4 1, 3) := by decide +kernel
theorem dX7_layOrder_67 : decode cX7_layOrder 67 = .ok (.goto (-36), 3) := by decide +kernel
theorem dX7_layOrder_70 : decode cX7_layOrder 70 = .ok (.iinc 2 1, 3) := by decide +kernel
theorem dX7_layOrder_73 : decode cX7_layOrder 73 = .ok (.goto (-62), 3) := by decide +kernel
theorem dX7_layOrder_76 : decode cX7_layOrder 76 = .ok (.return_, 1) := by decide +kernel
theorem dX7_lengthOf_0 : decode cX7_lengthOf 0 = .ok (.aload_n 0, 1) := by decide +kernel
theorem dX7_lengthOf_1 : decode cX7_lengthOf 1 = .ok (.iload_n 1, 1) := by decide +kernel
theorem dX7_lengthOf_2 : decode cX7_lengthOf 2 = .ok (.iconst 1, 1) := by decide +kernel
theorem dX7_lengthOf_3 : decode cX7_lengthOf 3 = .ok (.invokevirtual 49, 3) := by decide +kernel
theorem dX7_lengthOf_6 : decode cX7_lengthOf 6 = .ok (.iconst 1, 1) := by decide +kernel
theorem dX7_lengthOf_7 : decode cX7_lengthOf 7 = .ok (.if_icmp .ne 18, 3) := by decide +kernel
theorem dX7_lengthOf_10 : decode cX7_lengthOf 10 = .ok (.aload_n 0, 1) := by decide +kernel
theorem dX7_lengthOf_11 : decode cX7_lengthOf 11 = .ok (.iload_n 1, 1) := by decide +kernel
theorem dX7_lengthOf_12 : decode cX7_lengthOf 12 = .ok (.iconst 5, 1) := by decide +kernel
theorem dX7_lengthOf_13 : decode cX7_lengthOf 13 = .ok (.invokevirtual 49, 3) := by decide +kernel
theorem dX7_lengthOf_16 : decode cX7_lengthOf 16 = .ok (.aload_n 0, 1) := by decide +kernel
theorem dX7_lengthOf_17 : decode cX7_lengthOf 17 = .ok (.iload_n 1, 1) := by decide +kernel
theorem dX7_lengthOf_18 : decode cX7_lengthOf 18 = .ok (.bipush 6, 2) := by decide +kernel
theorem dX7_lengthOf_20 : decode cX7_lengthOf 20 = .ok (.invokevirtual 49, 3) := by decide +kernel
theorem dX7_lengthOf_23 : decode cX7_lengthOf 23 = .ok (.iadd, 1) := by decide +kernel
theorem dX7_lengthOf_24 : decode cX7_lengthOf 24 = .ok (.ireturn, 1) := by decide +kernel
theorem dX7_lengthOf_25 : decode cX7_lengthOf 25 = .ok (.iconst 0, 1) := by decide +kernel
theorem dX7_lengthOf_26 : decode cX7_lengthOf 26 = .ok (.istore_n 2, 1) := by decide +kernel
theorem dX7_lengthOf_27 : decode cX7_lengthOf 27 = .ok (.iconst 0, 1) := by decide +kernel
theorem dX7_lengthOf_28 : decode cX7_lengthOf 28 = .ok (.istore_n 3, 1) := by decide +kernel
theorem dX7_lengthOf_29 : decode cX7_lengthOf 29 = .ok (.iload_n 3, 1) := by decide +kernel
theorem dX7_lengthOf_30 : decode cX7_lengthOf 30 = .ok (.iconst 4, 1) := by decide +kernel
theorem dX7_lengthOf_31 : decode cX7_lengthOf 31 = .ok (.if_icmp .ge 35, 3) := by decide +kernel
theorem dX7_lengthOf_34 : decode cX7_lengthOf 34 = .ok (.aload_n 0, 1) := by decide +kernel
theorem dX7_lengthOf_35 : decode cX7_lengthOf 35 = .ok (.aload_n 0, 1) := by decide +kernel
theorem dX7_lengthOf_36 : decode cX7_lengthOf 36 = .ok (.iload_n 1, 1) := by decide +kernel
theorem dX7_lengthOf_37 : decode cX7_lengthOf 37 = .ok (.iconst 0, 1) := by decide +kernel
theorem dX7_lengthOf_38 : decode cX7_lengthOf 38 = .ok (.invokevirtual 49, 3) := by decide +kernel
theorem dX7_lengthOf_41 : decode cX7_lengthOf 41 = .ok (.iload_n 3, 1) := by decide +kernel
theorem dX7_lengthOf_42 : decode cX7_lengthOf 42 = .ok (.invokevirtual 68, 3) := by decide +kernel
theorem dX7_lengthOf_45 : decode cX7_lengthOf 45 = .ok (.istore 4, 2) := by decide +kernel
theorem dX7_lengthOf_47 : decode cX7_lengthOf 47 = .ok (.iload 4, 2) := by decide +kernel
theorem dX7_lengthOf_49 : decode cX7_lengthOf 49 = .ok (.iload_n 2, 1) := by decide +kernel
theorem dX7_lengthOf_50 : decode cX7_lengthOf 50 = .ok (.if_icmp .le 8, 3) := by decide +kernel
theorem dX7_lengthOf_53 : decode cX7_lengthOf 53 = .ok (.iload 4, 2) := by decide +kernel
theorem dX7_lengthOf_55 : decode cX7_lengthOf 55 = .ok (.goto 4, 3) := by decide +kernel
theorem dX7_lengthOf_58 : decode cX7_lengthOf 58 = .ok (.iload_n 2, 1) := by decide +kernel
theorem dX7_lengthOf_59 : decode cX7_lengthOf 59 = .ok (.istore_n 2, 1) := by decide +kernel
theorem dX7_lengthOf_60 : decode cX7_lengthOf 60 = .ok (.iinc 3 1, 3) := by decide +kernel
theorem dX7_lengthOf_63 : decode cX7_lengthOf 63 = .ok (.goto (-34), 3) := by decide +kernel
theorem dX7_lengthOf_66 : decode cX7_lengthOf 66 = .ok (.iload_n 2, 1) := by decide +kernel
theorem dX7_lengthOf_67 : decode cX7_lengthOf 67 = .ok (.ireturn, 1) := by decide +kernel
theorem dX7_rowSlack_0 : decode cX7_rowSlack 0 = .ok (.aload_n 0, 1) := by decide +kernel
theorem dX7_rowSlack_1 : decode cX7_rowSlack 1 = .ok (.getfield 16, 3) := by decide +kernel
theorem dX7_rowSlack_4 : decode cX7_rowSlack 4 = .ok (.aload_n 0, 1) := by decide +kernel
theorem dX7_rowSlack_5 : decode cX7_rowSlack 5 = .ok (.iload_n 1, 1) := by decide +kernel
theorem dX7_rowSlack_6 : decode cX7_rowSlack 6 = .ok (.invokevirtual 53, 3) := by decide +kernel
theorem dX7_rowSlack_9 : decode cX7_rowSlack 9 = .ok (.iaload, 1) := by decide +kernel
theorem dX7_rowSlack_10 : decode cX7_rowSlack 10 = .ok (.aload_n 0, 1) := by decide +kernel
theorem dX7_rowSlack_11 : decode cX7_rowSlack 11 = .ok (.iload_n 1, 1) := by decide +kernel
theorem dX7_rowSlack_12 : decode cX7_rowSlack 12 = .ok (.iload_n 2, 1) := by decide +kernel
theorem dX7_rowSlack_13 : decode cX7_rowSlack 13 = .ok (.invokevirtual 68, 3) := by decide +kernel
theorem dX7_rowSlack_16 : decode cX7_rowSlack 16 = .ok (.isub, 1) := by decide +kernel
theorem dX7_rowSlack_17 : decode cX7_rowSlack 17 = .ok (.ireturn, 1) := by decide +kernel
theorem dX7_layTimes_0 : decode cX7_layTimes 0 = .ok (.aload_n 0, 1) := by decide +kernel
theorem dX7_layTimes_1 : decode cX7_layTimes 1 = .ok (.iload_n 1, 1) := by decide +kernel
theorem dX7_layTimes_2 : decode cX7_layTimes 2 = .ok (.iconst 2, 1) := by decide +kernel
theorem dX7_layTimes_3 : decode cX7_layTimes 3 = .ok (.invokevirtual 49, 3) := by decide +kernel
theorem dX7_layTimes_6 : decode cX7_layTimes 6 = .ok (.istore_n 2, 1) := by decide +kernel
theorem dX7_layTimes_7 : decode cX7_layTimes 7 = .ok (.aload_n 0, 1) := by decide +kernel
theorem dX7_layTimes_8 : decode cX7_layTimes 8 = .ok (.iload_n 2, 1) := by decide +kernel
theorem dX7_layTimes_9 : decode cX7_layTimes 9 = .ok (.invokevirtual 53, 3) := by decide +kernel
theorem dX7_layTimes_12 : decode cX7_layTimes 12 = .ok (.istore_n 3, 1) := by decide +kernel
theorem dX7_layTimes_13 : decode cX7_layTimes 13 = .ok (.iconst 0, 1) := by decide +kernel
theorem dX7_layTimes_14 : decode cX7_layTimes 14 = .ok (.istore 4, 2) := by decide +kernel
theorem dX7_layTimes_16 : decode cX7_layTimes 16 = .ok (.iconst 0, 1) := by decide +kernel
theorem dX7_layTimes_17 : decode cX7_layTimes 17 = .ok (.istore 5, 2) := by decide +kernel
theorem dX7_layTimes_19 : decode cX7_layTimes 19 = .ok (.iload 5, 2) := by decide +kernel
theorem dX7_layTimes_21 : decode cX7_layTimes 21 = .ok (.aload_n 0, 1) := by decide +kernel
theorem dX7_layTimes_22 : decode cX7_layTimes 22 = .ok (.getfield 7, 3) := by decide +kernel
theorem dX7_layTimes_25 : decode cX7_layTimes 25 = .ok (.iconst 0, 1) := by decide +kernel
theorem dX7_layTimes_26 : decode cX7_layTimes 26 = .ok (.iaload, 1) := by decide +kernel
theorem dX7_layTimes_27 : decode cX7_layTimes 27 = .ok (.if_icmp .ge 57, 3) := by decide +kernel
theorem dX7_layTimes_30 : decode cX7_layTimes 30 = .ok (.iload 4, 2) := by decide +kernel
theorem dX7_layTimes_32 : decode cX7_layTimes 32 = .ok (.aload_n 0, 1) := by decide +kernel
theorem dX7_layTimes_33 : decode cX7_layTimes 33 = .ok (.iload 5, 2) := by decide +kernel
theorem dX7_layTimes_35 : decode cX7_layTimes 35 = .ok (.iload_n 2, 1) := by decide +kernel
theorem dX7_layTimes_36 : decode cX7_layTimes 36 = .ok (.aload_n 0, 1) := by decide +kernel
theorem dX7_layTimes_37 : decode cX7_layTimes 37 = .ok (.iload_n 1, 1) := by decide +kernel
theorem dX7_layTimes_38 : decode cX7_layTimes 38 = .ok (.iconst 3, 1) := by decide +kernel
theorem dX7_layTimes_39 : decode cX7_layTimes 39 = .ok (.invokevirtual 49, 3) := by decide +kernel
theorem dX7_layTimes_42 : decode cX7_layTimes 42 = .ok (.invokevirtual 64, 3) := by decide +kernel
theorem dX7_layTimes_45 : decode cX7_layTimes 45 = .ok (.ifCond .eq 29, 3) := by decide +kernel
theorem dX7_layTimes_48 : decode cX7_layTimes 48 = .ok (.aload_n 0, 1) := by decide +kernel
theorem dX7_layTimes_49 : decode cX7_layTimes 49 = .ok (.iload 5, 2) := by decide +kernel
theorem dX7_layTimes_51 : decode cX7_layTimes 51 = .ok (.iconst 4, 1) := by decide +kernel
theorem dX7_layTimes_52 : decode cX7_layTimes 52 = .ok (.invokevirtual 49, 3) := by decide +kernel
theorem dX7_layTimes_55 : decode cX7_layTimes 55 = .ok (.aload_n 0, 1) := by decide +kernel
theorem dX7_layTimes_56 : decode cX7_layTimes 56 = .ok (.iload_n 1, 1) := by decide +kernel
theorem dX7_layTimes_57 : decode cX7_layTimes 57 = .ok (.iconst 4, 1) := by decide +kernel
theorem dX7_layTimes_58 : decode cX7_layTimes 58 = .ok (.invokevirtual 49, 3) := by decide +kernel
theorem dX7_layTimes_61 : decode cX7_layTimes 61 = .ok (.if_icmp .ge 13, 3) := by decide +kernel
theorem dX7_layTimes_64 : decode cX7_layTimes 64 = .ok (.aload_n 0, 1) := by decide +kernel
theorem dX7_layTimes_65 : decode cX7_layTimes 65 = .ok (.getfield 16, 3) := by decide +kernel
theorem dX7_layTimes_68 : decode cX7_layTimes 68 = .ok (.iload 5, 2) := by decide +kernel
theorem dX7_layTimes_70 : decode cX7_layTimes 70 = .ok (.iaload, 1) := by decide +kernel
theorem dX7_layTimes_71 : decode cX7_layTimes 71 = .ok (.goto 4, 3) := by decide +kernel
theorem dX7_layTimes_74 : decode cX7_layTimes 74 = .ok (.iconst 0, 1) := by decide +kernel
theorem dX7_layTimes_75 : decode cX7_layTimes 75 = .ok (.iadd, 1) := by decide +kernel
theorem dX7_layTimes_76 : decode cX7_layTimes 76 = .ok (.istore 4, 2) := by decide +kernel
theorem dX7_layTimes_78 : decode cX7_layTimes 78 = .ok (.iinc 5 1, 3) := by decide +kernel
theorem dX7_layTimes_81 : decode cX7_layTimes 81 = .ok (.goto (-62), 3) := by decide +kernel
theorem dX7_layTimes_84 : decode cX7_layTimes 84 = .ok (.aload_n 0, 1) := by decide +kernel
theorem dX7_layTimes_85 : decode cX7_layTimes 85 = .ok (.getfield 19, 3) := by decide +kernel
theorem dX7_layTimes_88 : decode cX7_layTimes 88 = .ok (.iload_n 1, 1) := by decide +kernel
theorem dX7_layTimes_89 : decode cX7_layTimes 89 = .ok (.aload_n 0, 1) := by decide +kernel
theorem dX7_layTimes_90 : decode cX7_layTimes 90 = .ok (.getfield 19, 3) := by decide +kernel
theorem dX7_layTimes_93 : decode cX7_layTimes 93 = .ok (.iload_n 3, 1) := by decide +kernel
theorem dX7_layTimes_94 : decode cX7_layTimes 94 = .ok (.iaload, 1) := by decide +kernel
theorem dX7_layTimes_95 : decode cX7_layTimes 95 = .ok (.iload 4, 2) := by decide +kernel
theorem dX7_layTimes_97 : decode cX7_layTimes 97 = .ok (.iadd, 1) := by decide +kernel
theorem dX7_layTimes_98 : decode cX7_layTimes 98 = .ok (.iastore, 1) := by decide +kernel
theorem dX7_layTimes_99 : decode cX7_layTimes 99 = .ok (.aload_n 0, 1) := by decide +kernel
theorem dX7_layTimes_100 : decode cX7_layTimes 100 = .ok (.getfield 22, 3) := by decide +kernel
theorem dX7_layTimes_103 : decode cX7_layTimes 103 = .ok (.iload_n 1, 1) := by decide +kernel
theorem dX7_layTimes_104 : decode cX7_layTimes 104 = .ok (.aload_n 0, 1) := by decide +kernel
theorem dX7_layTimes_105 : decode cX7_layTimes 105 = .ok (.getfield 22, 3) := by decide +kernel
theorem dX7_layTimes_108 : decode cX7_layTimes 108 = .ok (.iload_n 3, 1) := by decide +kernel
theorem dX7_layTimes_109 : decode cX7_layTimes 109 = .ok (.iaload, 1) := by decide +kernel
theorem dX7_layTimes_110 : decode cX7_layTimes 110 = .ok (.aload_n 0, 1) := by decide +kernel
theorem dX7_layTimes_111 : decode cX7_layTimes 111 = .ok (.iload_n 2, 1) := by decide +kernel
theorem dX7_layTimes_112 : decode cX7_layTimes 112 = .ok (.aload_n 0, 1) := by decide +kernel
theorem dX7_layTimes_113 : decode cX7_layTimes 113 = .ok (.iload_n 1, 1) := by decide +kernel
theorem dX7_layTimes_114 : decode cX7_layTimes 114 = .ok (.iconst 3, 1) := by decide +kernel
theorem dX7_layTimes_115 : decode cX7_layTimes 115 = .ok (.invokevirtual 49, 3) := by decide +kernel
theorem dX7_layTimes_118 : decode cX7_layTimes 118 = .ok (.invokevirtual 71, 3) := by decide +kernel
theorem dX7_layTimes_121 : decode cX7_layTimes 121 = .ok (.iadd, 1) := by decide +kernel
theorem dX7_layTimes_122 : decode cX7_layTimes 122 = .ok (.iastore, 1) := by decide +kernel
theorem dX7_layTimes_123 : decode cX7_layTimes 123 = .ok (.aload_n 0, 1) := by decide +kernel
theorem dX7_layTimes_124 : decode cX7_layTimes 124 = .ok (.getfield 25, 3) := by decide +kernel
theorem dX7_layTimes_127 : decode cX7_layTimes 127 = .ok (.iload_n 1, 1) := by decide +kernel
theorem dX7_layTimes_128 : decode cX7_layTimes 128 = .ok (.aload_n 0, 1) := by decide +kernel
theorem dX7_layTimes_129 : decode cX7_layTimes 129 = .ok (.getfield 25, 3) := by decide +kernel
theorem dX7_layTimes_132 : decode cX7_layTimes 132 = .ok (.iload_n 3, 1) := by decide +kernel
theorem dX7_layTimes_133 : decode cX7_layTimes 133 = .ok (.iaload, 1) := by decide +kernel
theorem dX7_layTimes_134 : decode cX7_layTimes 134 = .ok (.iconst 1, 1) := by decide +kernel
theorem dX7_layTimes_135 : decode cX7_layTimes 135 = .ok (.iadd, 1) := by decide +kernel
theorem dX7_layTimes_136 : decode cX7_layTimes 136 = .ok (.iastore, 1) := by decide +kernel
theorem dX7_layTimes_137 : decode cX7_layTimes 137 = .ok (.return_, 1) := by decide +kernel
theorem dX7_lay_0 : decode cX7_lay 0 = .ok (.aload_n 0, 1) := by decide +kernel
theorem dX7_lay_1 : decode cX7_lay 1 = .ok (.invokevirtual 74, 3) := by decide +kernel
theorem dX7_lay_4 : decode cX7_lay 4 = .ok (.aload_n 0, 1) := by decide +kernel
theorem dX7_lay_5 : decode cX7_lay 5 = .ok (.getfield 7, 3) := by decide +kernel
theorem dX7_lay_8 : decode cX7_lay 8 = .ok (.iconst 0, 1) := by decide +kernel
theorem dX7_lay_9 : decode cX7_lay 9 = .ok (.iaload, 1) := by decide +kernel
theorem dX7_lay_10 : decode cX7_lay 10 = .ok (.iconst 1, 1) := by decide +kernel
theorem dX7_lay_11 : decode cX7_lay 11 = .ok (.isub, 1) := by decide +kernel
theorem dX7_lay_12 : decode cX7_lay 12 = .ok (.istore_n 1, 1) := by decide +kernel
theorem dX7_lay_13 : decode cX7_lay 13 = .ok (.iload_n 1, 1) := by decide +kernel
theorem dX7_lay_14 : decode cX7_lay 14 = .ok (.ifCond .lt 30, 3) := by decide +kernel
theorem dX7_lay_17 : decode cX7_lay 17 = .ok (.aload_n 0, 1) := by decide +kernel
theorem dX7_lay_18 : decode cX7_lay 18 = .ok (.getfield 16, 3) := by decide +kernel
theorem dX7_lay_21 : decode cX7_lay 21 = .ok (.aload_n 0, 1) := by decide +kernel
theorem dX7_lay_22 : decode cX7_lay 22 = .ok (.getfield 28, 3) := by decide +kernel
theorem dX7_lay_25 : decode cX7_lay 25 = .ok (.iload_n 1, 1) := by decide +kernel
theorem dX7_lay_26 : decode cX7_lay 26 = .ok (.iaload, 1) := by decide +kernel
theorem dX7_lay_27 : decode cX7_lay 27 = .ok (.aload_n 0, 1) := by decide +kernel
theorem dX7_lay_28 : decode cX7_lay 28 = .ok (.aload_n 0, 1) := by decide +kernel
theorem dX7_lay_29 : decode cX7_lay 29 = .ok (.getfield 28, 3) := by decide +kernel
theorem dX7_lay_32 : decode cX7_lay 32 = .ok (.iload_n 1, 1) := by decide +kernel
theorem dX7_lay_33 : decode cX7_lay 33 = .ok (.iaload, 1) := by decide +kernel
theorem dX7_lay_34 : decode cX7_lay 34 = .ok (.invokevirtual 77, 3) := by decide +kernel
theorem dX7_lay_37 : decode cX7_lay 37 = .ok (.iastore, 1) := by decide +kernel
theorem dX7_lay_38 : decode cX7_lay 38 = .ok (.iinc 1 (-1), 3) := by decide +kernel
theorem dX7_lay_41 : decode cX7_lay 41 = .ok (.goto (-28), 3) := by decide +kernel
theorem dX7_lay_44 : decode cX7_lay 44 = .ok (.aload_n 0, 1) := by decide +kernel
theorem dX7_lay_45 : decode cX7_lay 45 = .ok (.getfield 19, 3) := by decide +kernel
theorem dX7_lay_48 : decode cX7_lay 48 = .ok (.iconst 0, 1) := by decide +kernel
theorem dX7_lay_49 : decode cX7_lay 49 = .ok (.iconst 0, 1) := by decide +kernel
theorem dX7_lay_50 : decode cX7_lay 50 = .ok (.iastore, 1) := by decide +kernel
theorem dX7_lay_51 : decode cX7_lay 51 = .ok (.aload_n 0, 1) := by decide +kernel
theorem dX7_lay_52 : decode cX7_lay 52 = .ok (.getfield 22, 3) := by decide +kernel
theorem dX7_lay_55 : decode cX7_lay 55 = .ok (.iconst 0, 1) := by decide +kernel
theorem dX7_lay_56 : decode cX7_lay 56 = .ok (.iconst 0, 1) := by decide +kernel
theorem dX7_lay_57 : decode cX7_lay 57 = .ok (.iastore, 1) := by decide +kernel
theorem dX7_lay_58 : decode cX7_lay 58 = .ok (.aload_n 0, 1) := by decide +kernel
theorem dX7_lay_59 : decode cX7_lay 59 = .ok (.getfield 25, 3) := by decide +kernel
theorem dX7_lay_62 : decode cX7_lay 62 = .ok (.iconst 0, 1) := by decide +kernel
theorem dX7_lay_63 : decode cX7_lay 63 = .ok (.iconst 0, 1) := by decide +kernel
theorem dX7_lay_64 : decode cX7_lay 64 = .ok (.iastore, 1) := by decide +kernel
theorem dX7_lay_65 : decode cX7_lay 65 = .ok (.iconst 1, 1) := by decide +kernel
theorem dX7_lay_66 : decode cX7_lay 66 = .ok (.istore_n 1, 1) := by decide +kernel
theorem dX7_lay_67 : decode cX7_lay 67 = .ok (.iload_n 1, 1) := by decide +kernel
theorem dX7_lay_68 : decode cX7_lay 68 = .ok (.aload_n 0, 1) := by decide +kernel
theorem dX7_lay_69 : decode cX7_lay 69 = .ok (.getfield 7, 3) := by decide +kernel
theorem dX7_lay_72 : decode cX7_lay 72 = .ok (.iconst 0, 1) := by decide +kernel
theorem dX7_lay_73 : decode cX7_lay 73 = .ok (.iaload, 1) := by decide +kernel
theorem dX7_lay_74 : decode cX7_lay 74 = .ok (.if_icmp .ge 19, 3) := by decide +kernel
theorem dX7_lay_77 : decode cX7_lay 77 = .ok (.aload_n 0, 1) := by decide +kernel
theorem dX7_lay_78 : decode cX7_lay 78 = .ok (.aload_n 0, 1) := by decide +kernel
theorem dX7_lay_79 : decode cX7_lay 79 = .ok (.getfield 28, 3) := by decide +kernel
theorem dX7_lay_82 : decode cX7_lay 82 = .ok (.iload_n 1, 1) := by decide +kernel
theorem dX7_lay_83 : decode cX7_lay 83 = .ok (.iaload, 1) := by decide +kernel
theorem dX7_lay_84 : decode cX7_lay 84 = .ok (.invokevirtual 80, 3) := by decide +kernel
theorem dX7_lay_87 : decode cX7_lay 87 = .ok (.iinc 1 1, 3) := by decide +kernel
theorem dX7_lay_90 : decode cX7_lay 90 = .ok (.goto (-23), 3) := by decide +kernel
theorem dX7_lay_93 : decode cX7_lay 93 = .ok (.return_, 1) := by decide +kernel
theorem dX7_end_0 : decode cX7_end 0 = .ok (.aload_n 0, 1) := by decide +kernel
theorem dX7_end_1 : decode cX7_end 1 = .ok (.invokevirtual 84, 3) := by decide +kernel
theorem dX7_end_4 : decode cX7_end 4 = .ok (.aload_n 0, 1) := by decide +kernel
theorem dX7_end_5 : decode cX7_end 5 = .ok (.getfield 16, 3) := by decide +kernel
theorem dX7_end_8 : decode cX7_end 8 = .ok (.iconst 0, 1) := by decide +kernel
theorem dX7_end_9 : decode cX7_end 9 = .ok (.iaload, 1) := by decide +kernel
theorem dX7_end_10 : decode cX7_end 10 = .ok (.ireturn, 1) := by decide +kernel
theorem dX7_lateness_0 : decode cX7_lateness 0 = .ok (.aload_n 0, 1) := by decide +kernel
theorem dX7_lateness_1 : decode cX7_lateness 1 = .ok (.invokevirtual 87, 3) := by decide +kernel
theorem dX7_lateness_4 : decode cX7_lateness 4 = .ok (.aload_n 0, 1) := by decide +kernel
theorem dX7_lateness_5 : decode cX7_lateness 5 = .ok (.getfield 7, 3) := by decide +kernel
theorem dX7_lateness_8 : decode cX7_lateness 8 = .ok (.iconst 2, 1) := by decide +kernel
theorem dX7_lateness_9 : decode cX7_lateness 9 = .ok (.iaload, 1) := by decide +kernel
theorem dX7_lateness_10 : decode cX7_lateness 10 = .ok (.isub, 1) := by decide +kernel
theorem dX7_lateness_11 : decode cX7_lateness 11 = .ok (.istore_n 1, 1) := by decide +kernel
theorem dX7_lateness_12 : decode cX7_lateness 12 = .ok (.iload_n 1, 1) := by decide +kernel
theorem dX7_lateness_13 : decode cX7_lateness 13 = .ok (.ifCond .le 7, 3) := by decide +kernel
theorem dX7_lateness_16 : decode cX7_lateness 16 = .ok (.iload_n 1, 1) := by decide +kernel
theorem dX7_lateness_17 : decode cX7_lateness 17 = .ok (.goto 4, 3) := by decide +kernel
theorem dX7_lateness_20 : decode cX7_lateness 20 = .ok (.iconst 0, 1) := by decide +kernel
theorem dX7_lateness_21 : decode cX7_lateness 21 = .ok (.ireturn, 1) := by decide +kernel
theorem dX7_childrenOf_0 : decode cX7_childrenOf 0 = .ok (.iconst 0, 1) := by decide +kernel
theorem dX7_childrenOf_1 : decode cX7_childrenOf 1 = .ok (.istore_n 3, 1) := by decide +kernel
theorem dX7_childrenOf_2 : decode cX7_childrenOf 2 = .ok (.iconst 0, 1) := by decide +kernel
theorem dX7_childrenOf_3 : decode cX7_childrenOf 3 = .ok (.istore 4, 2) := by decide +kernel
theorem dX7_childrenOf_5 : decode cX7_childrenOf 5 = .ok (.iload 4, 2) := by decide +kernel
theorem dX7_childrenOf_7 : decode cX7_childrenOf 7 = .ok (.aload_n 0, 1) := by decide +kernel
theorem dX7_childrenOf_8 : decode cX7_childrenOf 8 = .ok (.getfield 7, 3) := by decide +kernel
theorem dX7_childrenOf_11 : decode cX7_childrenOf 11 = .ok (.iconst 0, 1) := by decide +kernel
theorem dX7_childrenOf_12 : decode cX7_childrenOf 12 = .ok (.iaload, 1) := by decide +kernel
theorem dX7_childrenOf_13 : decode cX7_childrenOf 13 = .ok (.if_icmp .ge 28, 3) := by decide +kernel
theorem dX7_childrenOf_16 : decode cX7_childrenOf 16 = .ok (.iload_n 3, 1) := by decide +kernel
theorem dX7_childrenOf_17 : decode cX7_childrenOf 17 = .ok (.aload_n 0, 1) := by decide +kernel
theorem dX7_childrenOf_18 : decode cX7_childrenOf 18 = .ok (.iload 4, 2) := by decide +kernel
theorem dX7_childrenOf_20 : decode cX7_childrenOf 20 = .ok (.iload_n 1, 1) := by decide +kernel
theorem dX7_childrenOf_21 : decode cX7_childrenOf 21 = .ok (.iload_n 2, 1) := by decide +kernel
theorem dX7_childrenOf_22 : decode cX7_childrenOf 22 = .ok (.invokevirtual 64, 3) := by decide +kernel
theorem dX7_childrenOf_25 : decode cX7_childrenOf 25 = .ok (.ifCond .eq 7, 3) := by decide +kernel
theorem dX7_childrenOf_28 : decode cX7_childrenOf 28 = .ok (.iconst 1, 1) := by decide +kernel
theorem dX7_childrenOf_29 : decode cX7_childrenOf 29 = .ok (.goto 4, 3) := by decide +kernel
theorem dX7_childrenOf_32 : decode cX7_childrenOf 32 = .ok (.iconst 0, 1) := by decide +kernel
theorem dX7_childrenOf_33 : decode cX7_childrenOf 33 = .ok (.iadd, 1) := by decide +kernel
theorem dX7_childrenOf_34 : decode cX7_childrenOf 34 = .ok (.istore_n 3, 1) := by decide +kernel
theorem dX7_childrenOf_35 : decode cX7_childrenOf 35 = .ok (.iinc 4 1, 3) := by decide +kernel
theorem dX7_childrenOf_38 : decode cX7_childrenOf 38 = .ok (.goto (-33), 3) := by decide +kernel
theorem dX7_childrenOf_41 : decode cX7_childrenOf 41 = .ok (.iload_n 3, 1) := by decide +kernel
theorem dX7_childrenOf_42 : decode cX7_childrenOf 42 = .ok (.ireturn, 1) := by decide +kernel
theorem dX7_whyNotAdd_0 : decode cX7_whyNotAdd 0 = .ok (.aload_n 0, 1) := by decide +kernel
theorem dX7_whyNotAdd_1 : decode cX7_whyNotAdd 1 = .ok (.iload_n 1, 1) := by decide +kernel
theorem dX7_whyNotAdd_2 : decode cX7_whyNotAdd 2 = .ok (.invokevirtual 53, 3) := by decide +kernel
theorem dX7_whyNotAdd_5 : decode cX7_whyNotAdd 5 = .ok (.iconst (-1), 1) := by decide +kernel
theorem dX7_whyNotAdd_6 : decode cX7_whyNotAdd 6 = .ok (.if_icmp .ne 5, 3) := by decide +kernel
theorem dX7_whyNotAdd_9 : decode cX7_whyNotAdd 9 = .ok (.iconst 1, 1) := by decide +kernel
theorem dX7_whyNotAdd_10 : decode cX7_whyNotAdd 10 = .ok (.ireturn, 1) := by decide +kernel
theorem dX7_whyNotAdd_11 : decode cX7_whyNotAdd 11 = .ok (.iload_n 2, 1) := by decide +kernel
theorem dX7_whyNotAdd_12 : decode cX7_whyNotAdd 12 = .ok (.iconst 0, 1) := by decide +kernel
theorem dX7_whyNotAdd_13 : decode cX7_whyNotAdd 13 = .ok (.iconst 3, 1) := by decide +kernel
theorem dX7_whyNotAdd_14 : decode cX7_whyNotAdd 14 = .ok (.invokestatic 91, 3) := by decide +kernel
theorem dX7_whyNotAdd_17 : decode cX7_whyNotAdd 17 = .ok (.ifCond .eq 13, 3) := by decide +kernel
theorem dX7_whyNotAdd_20 : decode cX7_whyNotAdd 20 = .ok (.iload_n 3, 1) := by decide +kernel
theorem dX7_whyNotAdd_21 : decode cX7_whyNotAdd 21 = .ok (.iconst 0, 1) := by decide +kernel
theorem dX7_whyNotAdd_22 : decode cX7_whyNotAdd 22 = .ok (.bipush 60, 2) := by decide +kernel
theorem dX7_whyNotAdd_24 : decode cX7_whyNotAdd 24 = .ok (.invokestatic 91, 3) := by decide +kernel
theorem dX7_whyNotAdd_27 : decode cX7_whyNotAdd 27 = .ok (.ifCond .ne 5, 3) := by decide +kernel
theorem dX7_whyNotAdd_30 : decode cX7_whyNotAdd 30 = .ok (.iconst 2, 1) := by decide +kernel
theorem dX7_whyNotAdd_31 : decode cX7_whyNotAdd 31 = .ok (.ireturn, 1) := by decide +kernel
theorem dX7_whyNotAdd_32 : decode cX7_whyNotAdd 32 = .ok (.aload_n 0, 1) := by decide +kernel
theorem dX7_whyNotAdd_33 : decode cX7_whyNotAdd 33 = .ok (.iload_n 1, 1) := by decide +kernel
theorem dX7_whyNotAdd_34 : decode cX7_whyNotAdd 34 = .ok (.invokevirtual 94, 3) := by decide +kernel
theorem dX7_whyNotAdd_37 : decode cX7_whyNotAdd 37 = .ok (.ifCond .ne 14, 3) := by decide +kernel
theorem dX7_whyNotAdd_40 : decode cX7_whyNotAdd 40 = .ok (.aload_n 0, 1) := by decide +kernel
theorem dX7_whyNotAdd_41 : decode cX7_whyNotAdd 41 = .ok (.getfield 7, 3) := by decide +kernel
theorem dX7_whyNotAdd_44 : decode cX7_whyNotAdd 44 = .ok (.iconst 0, 1) := by decide +kernel
theorem dX7_whyNotAdd_45 : decode cX7_whyNotAdd 45 = .ok (.iaload, 1) := by decide +kernel
theorem dX7_whyNotAdd_46 : decode cX7_whyNotAdd 46 = .ok (.bipush 24, 2) := by decide +kernel
theorem dX7_whyNotAdd_48 : decode cX7_whyNotAdd 48 = .ok (.if_icmp .ne 7, 3) := by decide +kernel
theorem dX7_whyNotAdd_51 : decode cX7_whyNotAdd 51 = .ok (.iconst 3, 1) := by decide +kernel
theorem dX7_whyNotAdd_52 : decode cX7_whyNotAdd 52 = .ok (.goto 4, 3) := by decide +kernel
theorem dX7_whyNotAdd_55 : decode cX7_whyNotAdd 55 = .ok (.iconst 0, 1) := by decide +kernel
theorem dX7_whyNotAdd_56 : decode cX7_whyNotAdd 56 = .ok (.ireturn, 1) := by decide +kernel
theorem dX7_adds_0 : decode cX7_adds 0 = .ok (.aload_n 0, 1) := by decide +kernel
theorem dX7_adds_1 : decode cX7_adds 1 = .ok (.getfield 7, 3) := by decide +kernel
theorem dX7_adds_4 : decode cX7_adds 4 = .ok (.iconst 0, 1) := by decide +kernel
theorem dX7_adds_5 : decode cX7_adds 5 = .ok (.iaload, 1) := by decide +kernel
theorem dX7_adds_6 : decode cX7_adds 6 = .ok (.istore 5, 2) := by decide +kernel
theorem dX7_adds_8 : decode cX7_adds 8 = .ok (.aload_n 0, 1) := by decide +kernel
theorem dX7_adds_9 : decode cX7_adds 9 = .ok (.iload_n 1, 1) := by decide +kernel
theorem dX7_adds_10 : decode cX7_adds 10 = .ok (.iload_n 2, 1) := by decide +kernel
theorem dX7_adds_11 : decode cX7_adds 11 = .ok (.invokevirtual 97, 3) := by decide +kernel
theorem dX7_adds_14 : decode cX7_adds 14 = .ok (.istore 6, 2) := by decide +kernel
theorem dX7_adds_16 : decode cX7_adds 16 = .ok (.aload_n 0, 1) := by decide +kernel
theorem dX7_adds_17 : decode cX7_adds 17 = .ok (.getfield 7, 3) := by decide +kernel
theorem dX7_adds_20 : decode cX7_adds 20 = .ok (.iconst 0, 1) := by decide +kernel
theorem dX7_adds_21 : decode cX7_adds 21 = .ok (.dup2, 1) := by decide +kernel
theorem dX7_adds_22 : decode cX7_adds 22 = .ok (.iaload, 1) := by decide +kernel
theorem dX7_adds_23 : decode cX7_adds 23 = .ok (.iconst 1, 1) := by decide +kernel
theorem dX7_adds_24 : decode cX7_adds 24 = .ok (.iadd, 1) := by decide +kernel
theorem dX7_adds_25 : decode cX7_adds 25 = .ok (.iastore, 1) := by decide +kernel
theorem dX7_adds_26 : decode cX7_adds 26 = .ok (.aload_n 0, 1) := by decide +kernel
theorem dX7_adds_27 : decode cX7_adds 27 = .ok (.iload 5, 2) := by decide +kernel
theorem dX7_adds_29 : decode cX7_adds 29 = .ok (.iconst 0, 1) := by decide +kernel
theorem dX7_adds_30 : decode cX7_adds 30 = .ok (.aload_n 0, 1) := by decide +kernel
theorem dX7_adds_31 : decode cX7_adds 31 = .ok (.getfield 7, 3) := by decide +kernel
theorem dX7_adds_34 : decode cX7_adds 34 = .ok (.iconst 1, 1) := by decide +kernel
theorem dX7_adds_35 : decode cX7_adds 35 = .ok (.iaload, 1) := by decide +kernel
theorem dX7_adds_36 : decode cX7_adds 36 = .ok (.invokevirtual 100, 3) := by decide +kernel
theorem dX7_adds_39 : decode cX7_adds 39 = .ok (.aload_n 0, 1) := by decide +kernel
theorem dX7_adds_40 : decode cX7_adds 40 = .ok (.iload 5, 2) := by decide +kernel
theorem dX7_adds_42 : decode cX7_adds 42 = .ok (.iconst 1, 1) := by decide +kernel
theorem dX7_adds_43 : decode cX7_adds 43 = .ok (.iload_n 3, 1) := by decide +kernel
theorem dX7_adds_44 : decode cX7_adds 44 = .ok (.invokevirtual 100, 3) := by decide +kernel
theorem dX7_adds_47 : decode cX7_adds 47 = .ok (.aload_n 0, 1) := by decide +kernel
theorem dX7_adds_48 : decode cX7_adds 48 = .ok (.iload 5, 2) := by decide +kernel
theorem dX7_adds_50 : decode cX7_adds 50 = .ok (.iconst 2, 1) := by decide +kernel
theorem dX7_adds_51 : decode cX7_adds 51 = .ok (.iload_n 1, 1) := by decide +kernel
theorem dX7_adds_52 : decode cX7_adds 52 = .ok (.invokevirtual 100, 3) := by decide +kernel
theorem dX7_adds_55 : decode cX7_adds 55 = .ok (.aload_n 0, 1) := by decide +kernel
theorem dX7_adds_56 : decode cX7_adds 56 = .ok (.iload 5, 2) := by decide +kernel
theorem dX7_adds_58 : decode cX7_adds 58 = .ok (.iconst 3, 1) := by decide +kernel
theorem dX7_adds_59 : decode cX7_adds 59 = .ok (.iload_n 2, 1) := by decide +kernel
theorem dX7_adds_60 : decode cX7_adds 60 = .ok (.invokevirtual 100, 3) := by decide +kernel
theorem dX7_adds_63 : decode cX7_adds 63 = .ok (.aload_n 0, 1) := by decide +kernel
theorem dX7_adds_64 : decode cX7_adds 64 = .ok (.iload 5, 2) := by decide +kernel
theorem dX7_adds_66 : decode cX7_adds 66 = .ok (.iconst 4, 1) := by decide +kernel
theorem dX7_adds_67 : decode cX7_adds 67 = .ok (.iload 6, 2) := by decide +kernel
theorem dX7_adds_69 : decode cX7_adds 69 = .ok (.invokevirtual 100, 3) := by decide +kernel
theorem dX7_adds_72 : decode cX7_adds 72 = .ok (.aload_n 0, 1) := by decide +kernel
theorem dX7_adds_73 : decode cX7_adds 73 = .ok (.iload 5, 2) := by decide +kernel
theorem dX7_adds_75 : decode cX7_adds 75 = .ok (.iconst 5, 1) := by decide +kernel
theorem dX7_adds_76 : decode cX7_adds 76 = .ok (.iload 4, 2) := by decide +kernel
theorem dX7_adds_78 : decode cX7_adds 78 = .ok (.invokevirtual 100, 3) := by decide +kernel
theorem dX7_adds_81 : decode cX7_adds 81 = .ok (.aload_n 0, 1) := by decide +kernel
theorem dX7_adds_82 : decode cX7_adds 82 = .ok (.iload 5, 2) := by decide +kernel
theorem dX7_adds_84 : decode cX7_adds 84 = .ok (.bipush 6, 2) := by decide +kernel
theorem dX7_adds_86 : decode cX7_adds 86 = .ok (.iconst 0, 1) := by decide +kernel
theorem dX7_adds_87 : decode cX7_adds 87 = .ok (.invokevirtual 100, 3) := by decide +kernel
theorem dX7_adds_90 : decode cX7_adds 90 = .ok (.aload_n 0, 1) := by decide +kernel
theorem dX7_adds_91 : decode cX7_adds 91 = .ok (.getfield 7, 3) := by decide +kernel
theorem dX7_adds_94 : decode cX7_adds 94 = .ok (.iconst 1, 1) := by decide +kernel
theorem dX7_adds_95 : decode cX7_adds 95 = .ok (.dup2, 1) := by decide +kernel
theorem dX7_adds_96 : decode cX7_adds 96 = .ok (.iaload, 1) := by decide +kernel
theorem dX7_adds_97 : decode cX7_adds 97 = .ok (.iconst 1, 1) := by decide +kernel
theorem dX7_adds_98 : decode cX7_adds 98 = .ok (.iadd, 1) := by decide +kernel
theorem dX7_adds_99 : decode cX7_adds 99 = .ok (.iastore, 1) := by decide +kernel
theorem dX7_adds_100 : decode cX7_adds 100 = .ok (.aload_n 0, 1) := by decide +kernel
theorem dX7_adds_101 : decode cX7_adds 101 = .ok (.getfield 7, 3) := by decide +kernel
theorem dX7_adds_104 : decode cX7_adds 104 = .ok (.iconst 1, 1) := by decide +kernel
theorem dX7_adds_105 : decode cX7_adds 105 = .ok (.iaload, 1) := by decide +kernel
theorem dX7_adds_106 : decode cX7_adds 106 = .ok (.iconst 1, 1) := by decide +kernel
theorem dX7_adds_107 : decode cX7_adds 107 = .ok (.isub, 1) := by decide +kernel
theorem dX7_adds_108 : decode cX7_adds 108 = .ok (.ireturn, 1) := by decide +kernel
theorem dX7_addGroup_0 : decode cX7_addGroup 0 = .ok (.aload_n 0, 1) := by decide +kernel
theorem dX7_addGroup_1 : decode cX7_addGroup 1 = .ok (.aload_n 0, 1) := by decide +kernel
theorem dX7_addGroup_2 : decode cX7_addGroup 2 = .ok (.iload_n 1, 1) := by decide +kernel
theorem dX7_addGroup_3 : decode cX7_addGroup 3 = .ok (.iload_n 2, 1) := by decide +kernel
theorem dX7_addGroup_4 : decode cX7_addGroup 4 = .ok (.iconst 0, 1) := by decide +kernel
theorem dX7_addGroup_5 : decode cX7_addGroup 5 = .ok (.invokevirtual 104, 3) := by decide +kernel
theorem dX7_addGroup_8 : decode cX7_addGroup 8 = .ok (.invokevirtual 60, 3) := by decide +kernel
theorem dX7_addGroup_11 : decode cX7_addGroup 11 = .ok (.ifCond .eq 5, 3) := by decide +kernel
theorem dX7_addGroup_14 : decode cX7_addGroup 14 = .ok (.iconst 0, 1) := by decide +kernel
theorem dX7_addGroup_15 : decode cX7_addGroup 15 = .ok (.ireturn, 1) := by decide +kernel
theorem dX7_addGroup_16 : decode cX7_addGroup 16 = .ok (.aload_n 0, 1) := by decide +kernel
theorem dX7_addGroup_17 : decode cX7_addGroup 17 = .ok (.invokevirtual 108, 3) := by decide +kernel
theorem dX7_addGroup_20 : decode cX7_addGroup 20 = .ok (.aload_n 0, 1) := by decide +kernel
theorem dX7_addGroup_21 : decode cX7_addGroup 21 = .ok (.iload_n 1, 1) := by decide +kernel
theorem dX7_addGroup_22 : decode cX7_addGroup 22 = .ok (.iload_n 2, 1) := by decide +kernel
theorem dX7_addGroup_23 : decode cX7_addGroup 23 = .ok (.iconst 0, 1) := by decide +kernel
theorem dX7_addGroup_24 : decode cX7_addGroup 24 = .ok (.iconst 0, 1) := by decide +kernel
theorem dX7_addGroup_25 : decode cX7_addGroup 25 = .ok (.invokevirtual 111, 3) := by decide +kernel
theorem dX7_addGroup_28 : decode cX7_addGroup 28 = .ok (.ireturn, 1) := by decide +kernel
theorem dX7_addTask_0 : decode cX7_addTask 0 = .ok (.aload_n 0, 1) := by decide +kernel
theorem dX7_addTask_1 : decode cX7_addTask 1 = .ok (.aload_n 0, 1) := by decide +kernel
theorem dX7_addTask_2 : decode cX7_addTask 2 = .ok (.iload_n 1, 1) := by decide +kernel
theorem dX7_addTask_3 : decode cX7_addTask 3 = .ok (.iload_n 2, 1) := by decide +kernel
theorem dX7_addTask_4 : decode cX7_addTask 4 = .ok (.iload_n 3, 1) := by decide +kernel
theorem dX7_addTask_5 : decode cX7_addTask 5 = .ok (.invokevirtual 104, 3) := by decide +kernel
theorem dX7_addTask_8 : decode cX7_addTask 8 = .ok (.invokevirtual 60, 3) := by decide +kernel
theorem dX7_addTask_11 : decode cX7_addTask 11 = .ok (.ifCond .eq 5, 3) := by decide +kernel
theorem dX7_addTask_14 : decode cX7_addTask 14 = .ok (.iconst 0, 1) := by decide +kernel
theorem dX7_addTask_15 : decode cX7_addTask 15 = .ok (.ireturn, 1) := by decide +kernel
theorem dX7_addTask_16 : decode cX7_addTask 16 = .ok (.aload_n 0, 1) := by decide +kernel
theorem dX7_addTask_17 : decode cX7_addTask 17 = .ok (.invokevirtual 108, 3) := by decide +kernel
theorem dX7_addTask_20 : decode cX7_addTask 20 = .ok (.aload_n 0, 1) := by decide +kernel
theorem dX7_addTask_21 : decode cX7_addTask 21 = .ok (.iload_n 1, 1) := by decide +kernel
theorem dX7_addTask_22 : decode cX7_addTask 22 = .ok (.iload_n 2, 1) := by decide +kernel
theorem dX7_addTask_23 : decode cX7_addTask 23 = .ok (.iconst 1, 1) := by decide +kernel
theorem dX7_addTask_24 : decode cX7_addTask 24 = .ok (.iload_n 3, 1) := by decide +kernel
theorem dX7_addTask_25 : decode cX7_addTask 25 = .ok (.invokevirtual 111, 3) := by decide +kernel
theorem dX7_addTask_28 : decode cX7_addTask 28 = .ok (.ireturn, 1) := by decide +kernel
theorem dX7_isBelow_0 : decode cX7_isBelow 0 = .ok (.iload_n 1, 1) := by decide +kernel
theorem dX7_isBelow_1 : decode cX7_isBelow 1 = .ok (.istore_n 3, 1) := by decide +kernel
theorem dX7_isBelow_2 : decode cX7_isBelow 2 = .ok (.iload_n 3, 1) := by decide +kernel
theorem dX7_isBelow_3 : decode cX7_isBelow 3 = .ok (.iconst (-1), 1) := by decide +kernel
theorem dX7_isBelow_4 : decode cX7_isBelow 4 = .ok (.if_icmp .eq 22, 3) := by decide +kernel
theorem dX7_isBelow_7 : decode cX7_isBelow 7 = .ok (.iload_n 3, 1) := by decide +kernel
theorem dX7_isBelow_8 : decode cX7_isBelow 8 = .ok (.iload_n 2, 1) := by decide +kernel
theorem dX7_isBelow_9 : decode cX7_isBelow 9 = .ok (.if_icmp .eq 17, 3) := by decide +kernel
theorem dX7_isBelow_12 : decode cX7_isBelow 12 = .ok (.aload_n 0, 1) := by decide +kernel
theorem dX7_isBelow_13 : decode cX7_isBelow 13 = .ok (.aload_n 0, 1) := by decide +kernel
theorem dX7_isBelow_14 : decode cX7_isBelow 14 = .ok (.iload_n 3, 1) := by decide +kernel
theorem dX7_isBelow_15 : decode cX7_isBelow 15 = .ok (.invokevirtual 53, 3) := by decide +kernel
theorem dX7_isBelow_18 : decode cX7_isBelow 18 = .ok (.iconst 2, 1) := by decide +kernel
theorem dX7_isBelow_19 : decode cX7_isBelow 19 = .ok (.invokevirtual 49, 3) := by decide +kernel
theorem dX7_isBelow_22 : decode cX7_isBelow 22 = .ok (.istore_n 3, 1) := by decide +kernel
theorem dX7_isBelow_23 : decode cX7_isBelow 23 = .ok (.goto (-21), 3) := by decide +kernel
theorem dX7_isBelow_26 : decode cX7_isBelow 26 = .ok (.iload_n 3, 1) := by decide +kernel
theorem dX7_isBelow_27 : decode cX7_isBelow 27 = .ok (.iload_n 2, 1) := by decide +kernel
theorem dX7_isBelow_28 : decode cX7_isBelow 28 = .ok (.if_icmp .ne 7, 3) := by decide +kernel
theorem dX7_isBelow_31 : decode cX7_isBelow 31 = .ok (.iconst 1, 1) := by decide +kernel
theorem dX7_isBelow_32 : decode cX7_isBelow 32 = .ok (.goto 4, 3) := by decide +kernel
theorem dX7_isBelow_35 : decode cX7_isBelow 35 = .ok (.iconst 0, 1) := by decide +kernel
theorem dX7_isBelow_36 : decode cX7_isBelow 36 = .ok (.ireturn, 1) := by decide +kernel
theorem dX7_reasonOf_0 : decode cX7_reasonOf 0 = .ok (.iload_n 1, 1) := by decide +kernel
theorem dX7_reasonOf_1 : decode cX7_reasonOf 1 = .ok (.ifCond .ne 7, 3) := by decide +kernel
theorem dX7_reasonOf_4 : decode cX7_reasonOf 4 = .ok (.iconst 1, 1) := by decide +kernel
theorem dX7_reasonOf_5 : decode cX7_reasonOf 5 = .ok (.goto 29, 3) := by decide +kernel
theorem dX7_reasonOf_8 : decode cX7_reasonOf 8 = .ok (.aload_n 0, 1) := by decide +kernel
theorem dX7_reasonOf_9 : decode cX7_reasonOf 9 = .ok (.iload_n 2, 1) := by decide +kernel
theorem dX7_reasonOf_10 : decode cX7_reasonOf 10 = .ok (.invokevirtual 94, 3) := by decide +kernel
theorem dX7_reasonOf_13 : decode cX7_reasonOf 13 = .ok (.ifCond .eq 7, 3) := by decide +kernel
theorem dX7_reasonOf_16 : decode cX7_reasonOf 16 = .ok (.iconst 2, 1) := by decide +kernel
theorem dX7_reasonOf_17 : decode cX7_reasonOf 17 = .ok (.goto 17, 3) := by decide +kernel
theorem dX7_reasonOf_20 : decode cX7_reasonOf 20 = .ok (.aload_n 0, 1) := by decide +kernel
theorem dX7_reasonOf_21 : decode cX7_reasonOf 21 = .ok (.iload_n 2, 1) := by decide +kernel
theorem dX7_reasonOf_22 : decode cX7_reasonOf 22 = .ok (.iload_n 1, 1) := by decide +kernel
theorem dX7_reasonOf_23 : decode cX7_reasonOf 23 = .ok (.invokevirtual 115, 3) := by decide +kernel
theorem dX7_reasonOf_26 : decode cX7_reasonOf 26 = .ok (.ifCond .eq 7, 3) := by decide +kernel
theorem dX7_reasonOf_29 : decode cX7_reasonOf 29 = .ok (.iconst 3, 1) := by decide +kernel
theorem dX7_reasonOf_30 : decode cX7_reasonOf 30 = .ok (.goto 4, 3) := by decide +kernel
theorem dX7_reasonOf_33 : decode cX7_reasonOf 33 = .ok (.iconst 0, 1) := by decide +kernel
theorem dX7_reasonOf_34 : decode cX7_reasonOf 34 = .ok (.ireturn, 1) := by decide +kernel
theorem dX7_whyNotMove_0 : decode cX7_whyNotMove 0 = .ok (.aload_n 0, 1) := by decide +kernel
theorem dX7_whyNotMove_1 : decode cX7_whyNotMove 1 = .ok (.iload_n 1, 1) := by decide +kernel
theorem dX7_whyNotMove_2 : decode cX7_whyNotMove 2 = .ok (.invokevirtual 53, 3) := by decide +kernel
theorem dX7_whyNotMove_5 : decode cX7_whyNotMove 5 = .ok (.iconst (-1), 1) := by decide +kernel
theorem dX7_whyNotMove_6 : decode cX7_whyNotMove 6 = .ok (.if_icmp .eq 12, 3) := by decide +kernel
theorem dX7_whyNotMove_9 : decode cX7_whyNotMove 9 = .ok (.aload_n 0, 1) := by decide +kernel
theorem dX7_whyNotMove_10 : decode cX7_whyNotMove 10 = .ok (.iload_n 2, 1) := by decide +kernel
theorem dX7_whyNotMove_11 : decode cX7_whyNotMove 11 = .ok (.invokevirtual 53, 3) := by decide +kernel
theorem dX7_whyNotMove_14 : decode cX7_whyNotMove 14 = .ok (.iconst (-1), 1) := by decide +kernel
theorem dX7_whyNotMove_15 : decode cX7_whyNotMove 15 = .ok (.if_icmp .ne 5, 3) := by decide +kernel
theorem dX7_whyNotMove_18 : decode cX7_whyNotMove 18 = .ok (.iconst 1, 1) := by decide +kernel
theorem dX7_whyNotMove_19 : decode cX7_whyNotMove 19 = .ok (.ireturn, 1) := by decide +kernel
theorem dX7_whyNotMove_20 : decode cX7_whyNotMove 20 = .ok (.iload_n 3, 1) := by decide +kernel
theorem dX7_whyNotMove_21 : decode cX7_whyNotMove 21 = .ok (.iconst 0, 1) := by decide +kernel
theorem dX7_whyNotMove_22 : decode cX7_whyNotMove 22 = .ok (.iconst 3, 1) := by decide +kernel
theorem dX7_whyNotMove_23 : decode cX7_whyNotMove 23 = .ok (.invokestatic 91, 3) := by decide +kernel
theorem dX7_whyNotMove_26 : decode cX7_whyNotMove 26 = .ok (.ifCond .ne 7, 3) := by decide +kernel
theorem dX7_whyNotMove_29 : decode cX7_whyNotMove 29 = .ok (.iconst 2, 1) := by decide +kernel
theorem dX7_whyNotMove_30 : decode cX7_whyNotMove 30 = .ok (.goto 17, 3) := by decide +kernel
theorem dX7_whyNotMove_33 : decode cX7_whyNotMove 33 = .ok (.aload_n 0, 1) := by decide +kernel
theorem dX7_whyNotMove_34 : decode cX7_whyNotMove 34 = .ok (.iload_n 1, 1) := by decide +kernel
theorem dX7_whyNotMove_35 : decode cX7_whyNotMove 35 = .ok (.iload_n 2, 1) := by decide +kernel
theorem dX7_whyNotMove_36 : decode cX7_whyNotMove 36 = .ok (.invokevirtual 119, 3) := by decide +kernel
theorem dX7_whyNotMove_39 : decode cX7_whyNotMove 39 = .ok (.ifCond .le 7, 3) := by decide +kernel
theorem dX7_whyNotMove_42 : decode cX7_whyNotMove 42 = .ok (.iconst 3, 1) := by decide +kernel
theorem dX7_whyNotMove_43 : decode cX7_whyNotMove 43 = .ok (.goto 4, 3) := by decide +kernel
theorem dX7_whyNotMove_46 : decode cX7_whyNotMove 46 = .ok (.iconst 0, 1) := by decide +kernel
theorem dX7_whyNotMove_47 : decode cX7_whyNotMove 47 = .ok (.ireturn, 1) := by decide +kernel
theorem dX7_leaves_0 : decode cX7_leaves 0 = .ok (.aload_n 0, 1) := by decide +kernel
theorem dX7_leaves_1 : decode cX7_leaves 1 = .ok (.iload_n 1, 1) := by decide +kernel
theorem dX7_leaves_2 : decode cX7_leaves 2 = .ok (.iconst 2, 1) := by decide +kernel
theorem dX7_leaves_3 : decode cX7_leaves 3 = .ok (.invokevirtual 49, 3) := by decide +kernel
theorem dX7_leaves_6 : decode cX7_leaves 6 = .ok (.istore_n 2, 1) := by decide +kernel
theorem dX7_leaves_7 : decode cX7_leaves 7 = .ok (.aload_n 0, 1) := by decide +kernel
theorem dX7_leaves_8 : decode cX7_leaves 8 = .ok (.iload_n 1, 1) := by decide +kernel
theorem dX7_leaves_9 : decode cX7_leaves 9 = .ok (.iconst 3, 1) := by decide +kernel
theorem dX7_leaves_10 : decode cX7_leaves 10 = .ok (.invokevirtual 49, 3) := by decide +kernel
theorem dX7_leaves_13 : decode cX7_leaves 13 = .ok (.istore_n 3, 1) := by decide +kernel
theorem dX7_leaves_14 : decode cX7_leaves 14 = .ok (.iconst 0, 1) := by decide +kernel
theorem dX7_leaves_15 : decode cX7_leaves 15 = .ok (.istore 4, 2) := by decide +kernel
theorem dX7_leaves_17 : decode cX7_leaves 17 = .ok (.iload 4, 2) := by decide +kernel
theorem dX7_leaves_19 : decode cX7_leaves 19 = .ok (.aload_n 0, 1) := by decide +kernel
theorem dX7_leaves_20 : decode cX7_leaves 20 = .ok (.getfield 7, 3) := by decide +kernel
theorem dX7_leaves_23 : decode cX7_leaves 23 = .ok (.iconst 0, 1) := by decide +kernel
theorem dX7_leaves_24 : decode cX7_leaves 24 = .ok (.iaload, 1) := by decide +kernel
theorem dX7_leaves_25 : decode cX7_leaves 25 = .ok (.if_icmp .ge 52, 3) := by decide +kernel
theorem dX7_leaves_28 : decode cX7_leaves 28 = .ok (.aload_n 0, 1) := by decide +kernel
theorem dX7_leaves_29 : decode cX7_leaves 29 = .ok (.iload 4, 2) := by decide +kernel
theorem dX7_leaves_31 : decode cX7_leaves 31 = .ok (.iload_n 2, 1) := by decide +kernel
theorem dX7_leaves_32 : decode cX7_leaves 32 = .ok (.iload_n 3, 1) := by decide +kernel
theorem dX7_leaves_33 : decode cX7_leaves 33 = .ok (.invokevirtual 64, 3) := by decide +kernel
theorem dX7_leaves_36 : decode cX7_leaves 36 = .ok (.ifCond .eq 35, 3) := by decide +kernel
theorem dX7_leaves_39 : decode cX7_leaves 39 = .ok (.aload_n 0, 1) := by decide +kernel
theorem dX7_leaves_40 : decode cX7_leaves 40 = .ok (.iload 4, 2) := by decide +kernel
theorem dX7_leaves_42 : decode cX7_leaves 42 = .ok (.iconst 4, 1) := by decide +kernel
theorem dX7_leaves_43 : decode cX7_leaves 43 = .ok (.invokevirtual 49, 3) := by decide +kernel
theorem dX7_leaves_46 : decode cX7_leaves 46 = .ok (.aload_n 0, 1) := by decide +kernel
theorem dX7_leaves_47 : decode cX7_leaves 47 = .ok (.iload_n 1, 1) := by decide +kernel
theorem dX7_leaves_48 : decode cX7_leaves 48 = .ok (.iconst 4, 1) := by decide +kernel
theorem dX7_leaves_49 : decode cX7_leaves 49 = .ok (.invokevirtual 49, 3) := by decide +kernel
theorem dX7_leaves_52 : decode cX7_leaves 52 = .ok (.if_icmp .le 19, 3) := by decide +kernel
theorem dX7_leaves_55 : decode cX7_leaves 55 = .ok (.aload_n 0, 1) := by decide +kernel
theorem dX7_leaves_56 : decode cX7_leaves 56 = .ok (.iload 4, 2) := by decide +kernel
theorem dX7_leaves_58 : decode cX7_leaves 58 = .ok (.iconst 4, 1) := by decide +kernel
theorem dX7_leaves_59 : decode cX7_leaves 59 = .ok (.aload_n 0, 1) := by decide +kernel
theorem dX7_leaves_60 : decode cX7_leaves 60 = .ok (.iload 4, 2) := by decide +kernel
theorem dX7_leaves_62 : decode cX7_leaves 62 = .ok (.iconst 4, 1) := by decide +kernel
theorem dX7_leaves_63 : decode cX7_leaves 63 = .ok (.invokevirtual 49, 3) := by decide +kernel
theorem dX7_leaves_66 : decode cX7_leaves 66 = .ok (.iconst 1, 1) := by decide +kernel
theorem dX7_leaves_67 : decode cX7_leaves 67 = .ok (.isub, 1) := by decide +kernel
theorem dX7_leaves_68 : decode cX7_leaves 68 = .ok (.invokevirtual 100, 3) := by decide +kernel
theorem dX7_leaves_71 : decode cX7_leaves 71 = .ok (.iinc 4 1, 3) := by decide +kernel
theorem dX7_leaves_74 : decode cX7_leaves 74 = .ok (.goto (-57), 3) := by decide +kernel
theorem dX7_leaves_77 : decode cX7_leaves 77 = .ok (.aload_n 0, 1) := by decide +kernel
theorem dX7_leaves_78 : decode cX7_leaves 78 = .ok (.iload_n 1, 1) := by decide +kernel
theorem dX7_leaves_79 : decode cX7_leaves 79 = .ok (.iconst 2, 1) := by decide +kernel
theorem dX7_leaves_80 : decode cX7_leaves 80 = .ok (.iconst (-1), 1) := by decide +kernel
theorem dX7_leaves_81 : decode cX7_leaves 81 = .ok (.invokevirtual 100, 3) := by decide +kernel
theorem dX7_leaves_84 : decode cX7_leaves 84 = .ok (.return_, 1) := by decide +kernel
theorem dX7_moves_0 : decode cX7_moves 0 = .ok (.aload_n 0, 1) := by decide +kernel
theorem dX7_moves_1 : decode cX7_moves 1 = .ok (.iload_n 1, 1) := by decide +kernel
theorem dX7_moves_2 : decode cX7_moves 2 = .ok (.invokevirtual 53, 3) := by decide +kernel
theorem dX7_moves_5 : decode cX7_moves 5 = .ok (.istore 4, 2) := by decide +kernel
theorem dX7_moves_7 : decode cX7_moves 7 = .ok (.aload_n 0, 1) := by decide +kernel
theorem dX7_moves_8 : decode cX7_moves 8 = .ok (.iload 4, 2) := by decide +kernel
theorem dX7_moves_10 : decode cX7_moves 10 = .ok (.invokevirtual 122, 3) := by decide +kernel
theorem dX7_moves_13 : decode cX7_moves 13 = .ok (.aload_n 0, 1) := by decide +kernel
theorem dX7_moves_14 : decode cX7_moves 14 = .ok (.iload_n 2, 1) := by decide +kernel
theorem dX7_moves_15 : decode cX7_moves 15 = .ok (.iload_n 3, 1) := by decide +kernel
theorem dX7_moves_16 : decode cX7_moves 16 = .ok (.invokevirtual 97, 3) := by decide +kernel
theorem dX7_moves_19 : decode cX7_moves 19 = .ok (.istore 5, 2) := by decide +kernel
theorem dX7_moves_21 : decode cX7_moves 21 = .ok (.aload_n 0, 1) := by decide +kernel
theorem dX7_moves_22 : decode cX7_moves 22 = .ok (.iload 4, 2) := by decide +kernel
theorem dX7_moves_24 : decode cX7_moves 24 = .ok (.iconst 2, 1) := by decide +kernel
theorem dX7_moves_25 : decode cX7_moves 25 = .ok (.iload_n 2, 1) := by decide +kernel
theorem dX7_moves_26 : decode cX7_moves 26 = .ok (.invokevirtual 100, 3) := by decide +kernel
theorem dX7_moves_29 : decode cX7_moves 29 = .ok (.aload_n 0, 1) := by decide +kernel
theorem dX7_moves_30 : decode cX7_moves 30 = .ok (.iload 4, 2) := by decide +kernel
theorem dX7_moves_32 : decode cX7_moves 32 = .ok (.iconst 3, 1) := by decide +kernel
theorem dX7_moves_33 : decode cX7_moves 33 = .ok (.iload_n 3, 1) := by decide +kernel
theorem dX7_moves_34 : decode cX7_moves 34 = .ok (.invokevirtual 100, 3) := by decide +kernel
theorem dX7_moves_37 : decode cX7_moves 37 = .ok (.aload_n 0, 1) := by decide +kernel
theorem dX7_moves_38 : decode cX7_moves 38 = .ok (.iload 4, 2) := by decide +kernel
theorem dX7_moves_40 : decode cX7_moves 40 = .ok (.iconst 4, 1) := by decide +kernel
theorem dX7_moves_41 : decode cX7_moves 41 = .ok (.iload 5, 2) := by decide +kernel
theorem dX7_moves_43 : decode cX7_moves 43 = .ok (.invokevirtual 100, 3) := by decide +kernel
theorem dX7_moves_46 : decode cX7_moves 46 = .ok (.iload 5, 2) := by decide +kernel
theorem dX7_moves_48 : decode cX7_moves 48 = .ok (.ireturn, 1) := by decide +kernel
theorem dX7_move_0 : decode cX7_move 0 = .ok (.aload_n 0, 1) := by decide +kernel
theorem dX7_move_1 : decode cX7_move 1 = .ok (.aload_n 0, 1) := by decide +kernel
theorem dX7_move_2 : decode cX7_move 2 = .ok (.iload_n 1, 1) := by decide +kernel
theorem dX7_move_3 : decode cX7_move 3 = .ok (.iload_n 2, 1) := by decide +kernel
theorem dX7_move_4 : decode cX7_move 4 = .ok (.iload_n 3, 1) := by decide +kernel
theorem dX7_move_5 : decode cX7_move 5 = .ok (.invokevirtual 125, 3) := by decide +kernel
theorem dX7_move_8 : decode cX7_move 8 = .ok (.invokevirtual 60, 3) := by decide +kernel
theorem dX7_move_11 : decode cX7_move 11 = .ok (.ifCond .eq 5, 3) := by decide +kernel
theorem dX7_move_14 : decode cX7_move 14 = .ok (.iconst 0, 1) := by decide +kernel
theorem dX7_move_15 : decode cX7_move 15 = .ok (.ireturn, 1) := by decide +kernel
theorem dX7_move_16 : decode cX7_move 16 = .ok (.aload_n 0, 1) := by decide +kernel
theorem dX7_move_17 : decode cX7_move 17 = .ok (.invokevirtual 108, 3) := by decide +kernel
theorem dX7_move_20 : decode cX7_move 20 = .ok (.aload_n 0, 1) := by decide +kernel
theorem dX7_move_21 : decode cX7_move 21 = .ok (.iload_n 1, 1) := by decide +kernel
theorem dX7_move_22 : decode cX7_move 22 = .ok (.iload_n 2, 1) := by decide +kernel
theorem dX7_move_23 : decode cX7_move 23 = .ok (.iload_n 3, 1) := by decide +kernel
theorem dX7_move_24 : decode cX7_move 24 = .ok (.invokevirtual 128, 3) := by decide +kernel
theorem dX7_move_27 : decode cX7_move 27 = .ok (.ireturn, 1) := by decide +kernel
theorem dX7_whyNotRemove_0 : decode cX7_whyNotRemove 0 = .ok (.aload_n 0, 1) := by decide +kernel
theorem dX7_whyNotRemove_1 : decode cX7_whyNotRemove 1 = .ok (.iload_n 1, 1) := by decide +kernel
theorem dX7_whyNotRemove_2 : decode cX7_whyNotRemove 2 = .ok (.invokevirtual 53, 3) := by decide +kernel
theorem dX7_whyNotRemove_5 : decode cX7_whyNotRemove 5 = .ok (.iconst (-1), 1) := by decide +kernel
theorem dX7_whyNotRemove_6 : decode cX7_whyNotRemove 6 = .ok (.if_icmp .ne 7, 3) := by decide +kernel
theorem dX7_whyNotRemove_9 : decode cX7_whyNotRemove 9 = .ok (.iconst 1, 1) := by decide +kernel
theorem dX7_whyNotRemove_10 : decode cX7_whyNotRemove 10 = .ok (.goto 12, 3) := by decide +kernel
theorem dX7_whyNotRemove_13 : decode cX7_whyNotRemove 13 = .ok (.iload_n 1, 1) := by decide +kernel
theorem dX7_whyNotRemove_14 : decode cX7_whyNotRemove 14 = .ok (.ifCond .ne 7, 3) := by decide +kernel
theorem dX7_whyNotRemove_17 : decode cX7_whyNotRemove 17 = .ok (.iconst 3, 1) := by decide +kernel
theorem dX7_whyNotRemove_18 : decode cX7_whyNotRemove 18 = .ok (.goto 4, 3) := by decide +kernel
theorem dX7_whyNotRemove_21 : decode cX7_whyNotRemove 21 = .ok (.iconst 0, 1) := by decide +kernel
theorem dX7_whyNotRemove_22 : decode cX7_whyNotRemove 22 = .ok (.ireturn, 1) := by decide +kernel
theorem dX7_removes_0 : decode cX7_removes 0 = .ok (.aload_n 0, 1) := by decide +kernel
theorem dX7_removes_1 : decode cX7_removes 1 = .ok (.aload_n 0, 1) := by decide +kernel
theorem dX7_removes_2 : decode cX7_removes 2 = .ok (.iload_n 1, 1) := by decide +kernel
theorem dX7_removes_3 : decode cX7_removes 3 = .ok (.invokevirtual 53, 3) := by decide +kernel
theorem dX7_removes_6 : decode cX7_removes 6 = .ok (.invokevirtual 122, 3) := by decide +kernel
theorem dX7_removes_9 : decode cX7_removes 9 = .ok (.iconst 0, 1) := by decide +kernel
theorem dX7_removes_10 : decode cX7_removes 10 = .ok (.istore_n 2, 1) := by decide +kernel
theorem dX7_removes_11 : decode cX7_removes 11 = .ok (.iconst 0, 1) := by decide +kernel
theorem dX7_removes_12 : decode cX7_removes 12 = .ok (.istore_n 3, 1) := by decide +kernel
theorem dX7_removes_13 : decode cX7_removes 13 = .ok (.iload_n 3, 1) := by decide +kernel
theorem dX7_removes_14 : decode cX7_removes 14 = .ok (.aload_n 0, 1) := by decide +kernel
theorem dX7_removes_15 : decode cX7_removes 15 = .ok (.getfield 7, 3) := by decide +kernel
theorem dX7_removes_18 : decode cX7_removes 18 = .ok (.iconst 0, 1) := by decide +kernel
theorem dX7_removes_19 : decode cX7_removes 19 = .ok (.iaload, 1) := by decide +kernel
theorem dX7_removes_20 : decode cX7_removes 20 = .ok (.if_icmp .ge 26, 3) := by decide +kernel
theorem dX7_removes_23 : decode cX7_removes 23 = .ok (.aload_n 0, 1) := by decide +kernel
theorem dX7_removes_24 : decode cX7_removes 24 = .ok (.getfield 31, 3) := by decide +kernel
theorem dX7_removes_27 : decode cX7_removes 27 = .ok (.iload_n 3, 1) := by decide +kernel
theorem dX7_removes_28 : decode cX7_removes 28 = .ok (.aload_n 0, 1) := by decide +kernel
theorem dX7_removes_29 : decode cX7_removes 29 = .ok (.aload_n 0, 1) := by decide +kernel
theorem dX7_removes_30 : decode cX7_removes 30 = .ok (.iload_n 3, 1) := by decide +kernel
theorem dX7_removes_31 : decode cX7_removes 31 = .ok (.iconst 0, 1) := by decide +kernel
theorem dX7_removes_32 : decode cX7_removes 32 = .ok (.invokevirtual 49, 3) := by decide +kernel
theorem dX7_removes_35 : decode cX7_removes 35 = .ok (.iload_n 1, 1) := by decide +kernel
theorem dX7_removes_36 : decode cX7_removes 36 = .ok (.invokevirtual 115, 3) := by decide +kernel
theorem dX7_removes_39 : decode cX7_removes 39 = .ok (.bastore, 1) := by decide +kernel
theorem dX7_removes_40 : decode cX7_removes 40 = .ok (.iinc 3 1, 3) := by decide +kernel
theorem dX7_removes_43 : decode cX7_removes 43 = .ok (.goto (-30), 3) := by decide +kernel
theorem dX7_removes_46 : decode cX7_removes 46 = .ok (.aload_n 0, 1) := by decide +kernel
theorem dX7_removes_47 : decode cX7_removes 47 = .ok (.getfield 7, 3) := by decide +kernel
theorem dX7_removes_50 : decode cX7_removes 50 = .ok (.iconst 0, 1) := by decide +kernel
theorem dX7_removes_51 : decode cX7_removes 51 = .ok (.iaload, 1) := by decide +kernel
theorem dX7_removes_52 : decode cX7_removes 52 = .ok (.istore_n 3, 1) := by decide +kernel
theorem dX7_removes_53 : decode cX7_removes 53 = .ok (.iconst 0, 1) := by decide +kernel
theorem dX7_removes_54 : decode cX7_removes 54 = .ok (.istore 4, 2) := by decide +kernel
theorem dX7_removes_56 : decode cX7_removes 56 = .ok (.iload 4, 2) := by decide +kernel
theorem dX7_removes_58 : decode cX7_removes 58 = .ok (.iload_n 3, 1) := by decide +kernel
theorem dX7_removes_59 : decode cX7_removes 59 = .ok (.if_icmp .ge 59, 3) := by decide +kernel
theorem dX7_removes_62 : decode cX7_removes 62 = .ok (.aload_n 0, 1) := by decide +kernel
theorem dX7_removes_63 : decode cX7_removes 63 = .ok (.getfield 31, 3) := by decide +kernel
theorem dX7_removes_66 : decode cX7_removes 66 = .ok (.iload 4, 2) := by decide +kernel
theorem dX7_removes_68 : decode cX7_removes 68 = .ok (.baload, 1) := by decide +kernel
theorem dX7_removes_69 : decode cX7_removes 69 = .ok (.ifCond .eq 9, 3) := by decide +kernel
theorem dX7_removes_72 : decode cX7_removes 72 = .ok (.iinc 2 1, 3) := by decide +kernel
theorem dX7_removes_75 : decode cX7_removes 75 = .ok (.goto 37, 3) := by decide +kernel
theorem dX7_removes_78 : decode cX7_removes 78 = .ok (.iconst 0, 1) := by decide +kernel
theorem dX7_removes_79 : decode cX7_removes 79 = .ok (.istore 5, 2) := by decide +kernel
theorem dX7_removes_81 : decode cX7_removes 81 = .ok (.iload 5, 2) := by decide +kernel
theorem dX7_removes_83 : decode cX7_removes 83 = .ok (.bipush 7, 2) := by decide +kernel
theorem dX7_removes_85 : decode cX7_removes 85 = .ok (.if_icmp .ge 27, 3) := by decide +kernel
theorem dX7_removes_88 : decode cX7_removes 88 = .ok (.aload_n 0, 1) := by decide +kernel
theorem dX7_removes_89 : decode cX7_removes 89 = .ok (.iload 4, 2) := by decide +kernel
theorem dX7_removes_91 : decode cX7_removes 91 = .ok (.iload_n 2, 1) := by decide +kernel
theorem dX7_removes_92 : decode cX7_removes 92 = .ok (.isub, 1) := by decide +kernel
theorem dX7_removes_93 : decode cX7_removes 93 = .ok (.iload 5, 2) := by decide +kernel
theorem dX7_removes_95 : decode cX7_removes 95 = .ok (.aload_n 0, 1) := by decide +kernel
theorem dX7_removes_96 : decode cX7_removes 96 = .ok (.iload 4, 2) := by decide +kernel
theorem dX7_removes_98 : decode cX7_removes 98 = .ok (.iload 5, 2) := by decide +kernel
theorem dX7_removes_100 : decode cX7_removes 100 = .ok (.invokevirtual 49, 3) := by decide +kernel
theorem dX7_removes_103 : decode cX7_removes 103 = .ok (.invokevirtual 100, 3) := by decide +kernel
theorem dX7_removes_106 : decode cX7_removes 106 = .ok (.iinc 5 1, 3) := by decide +kernel
theorem dX7_removes_109 : decode cX7_removes 109 = .ok (.goto (-28), 3) := by decide +kernel
theorem dX7_removes_112 : decode cX7_removes 112 = .ok (.iinc 4 1, 3) := by decide +kernel
theorem dX7_removes_115 : decode cX7_removes 115 = .ok (.goto (-59), 3) := by decide +kernel
theorem dX7_removes_118 : decode cX7_removes 118 = .ok (.aload_n 0, 1) := by decide +kernel
theorem dX7_removes_119 : decode cX7_removes 119 = .ok (.getfield 7, 3) := by decide +kernel
theorem dX7_removes_122 : decode cX7_removes 122 = .ok (.iconst 0, 1) := by decide +kernel
theorem dX7_removes_123 : decode cX7_removes 123 = .ok (.iload_n 3, 1) := by decide +kernel
theorem dX7_removes_124 : decode cX7_removes 124 = .ok (.iload_n 2, 1) := by decide +kernel
theorem dX7_removes_125 : decode cX7_removes 125 = .ok (.isub, 1) := by decide +kernel
theorem dX7_removes_126 : decode cX7_removes 126 = .ok (.iastore, 1) := by decide +kernel
theorem dX7_removes_127 : decode cX7_removes 127 = .ok (.iload_n 2, 1) := by decide +kernel
theorem dX7_removes_128 : decode cX7_removes 128 = .ok (.ireturn, 1) := by decide +kernel
theorem dX7_remove_0 : decode cX7_remove 0 = .ok (.aload_n 0, 1) := by decide +kernel
theorem dX7_remove_1 : decode cX7_remove 1 = .ok (.aload_n 0, 1) := by decide +kernel
theorem dX7_remove_2 : decode cX7_remove 2 = .ok (.iload_n 1, 1) := by decide +kernel
theorem dX7_remove_3 : decode cX7_remove 3 = .ok (.invokevirtual 131, 3) := by decide +kernel
theorem dX7_remove_6 : decode cX7_remove 6 = .ok (.invokevirtual 134, 3) := by decide +kernel
theorem dX7_remove_9 : decode cX7_remove 9 = .ok (.ifCond .eq 5, 3) := by decide +kernel
theorem dX7_remove_12 : decode cX7_remove 12 = .ok (.iconst 0, 1) := by decide +kernel
theorem dX7_remove_13 : decode cX7_remove 13 = .ok (.ireturn, 1) := by decide +kernel
theorem dX7_remove_14 : decode cX7_remove 14 = .ok (.aload_n 0, 1) := by decide +kernel
theorem dX7_remove_15 : decode cX7_remove 15 = .ok (.invokevirtual 108, 3) := by decide +kernel
theorem dX7_remove_18 : decode cX7_remove 18 = .ok (.aload_n 0, 1) := by decide +kernel
theorem dX7_remove_19 : decode cX7_remove 19 = .ok (.iload_n 1, 1) := by decide +kernel
theorem dX7_remove_20 : decode cX7_remove 20 = .ok (.invokevirtual 137, 3) := by decide +kernel
theorem dX7_remove_23 : decode cX7_remove 23 = .ok (.ireturn, 1) := by decide +kernel
theorem dX7_whyNotTask_0 : decode cX7_whyNotTask 0 = .ok (.aload_n 0, 1) := by decide +kernel
theorem dX7_whyNotTask_1 : decode cX7_whyNotTask 1 = .ok (.iload_n 1, 1) := by decide +kernel
theorem dX7_whyNotTask_2 : decode cX7_whyNotTask 2 = .ok (.invokevirtual 53, 3) := by decide +kernel
theorem dX7_whyNotTask_5 : decode cX7_whyNotTask 5 = .ok (.iconst (-1), 1) := by decide +kernel
theorem dX7_whyNotTask_6 : decode cX7_whyNotTask 6 = .ok (.if_icmp .ne 7, 3) := by decide +kernel
theorem dX7_whyNotTask_9 : decode cX7_whyNotTask 9 = .ok (.iconst 1, 1) := by decide +kernel
theorem dX7_whyNotTask_10 : decode cX7_whyNotTask 10 = .ok (.goto 24, 3) := by decide +kernel
theorem dX7_whyNotTask_13 : decode cX7_whyNotTask 13 = .ok (.iload_n 2, 1) := by decide +kernel
theorem dX7_whyNotTask_14 : decode cX7_whyNotTask 14 = .ok (.ifCond .ne 7, 3) := by decide +kernel
theorem dX7_whyNotTask_17 : decode cX7_whyNotTask 17 = .ok (.iconst 2, 1) := by decide +kernel
theorem dX7_whyNotTask_18 : decode cX7_whyNotTask 18 = .ok (.goto 16, 3) := by decide +kernel
theorem dX7_whyNotTask_21 : decode cX7_whyNotTask 21 = .ok (.aload_n 0, 1) := by decide +kernel
theorem dX7_whyNotTask_22 : decode cX7_whyNotTask 22 = .ok (.iload_n 1, 1) := by decide +kernel
theorem dX7_whyNotTask_23 : decode cX7_whyNotTask 23 = .ok (.invokevirtual 94, 3) := by decide +kernel
theorem dX7_whyNotTask_26 : decode cX7_whyNotTask 26 = .ok (.ifCond .eq 7, 3) := by decide +kernel
theorem dX7_whyNotTask_29 : decode cX7_whyNotTask 29 = .ok (.iconst 0, 1) := by decide +kernel
theorem dX7_whyNotTask_30 : decode cX7_whyNotTask 30 = .ok (.goto 4, 3) := by decide +kernel
theorem dX7_whyNotTask_33 : decode cX7_whyNotTask 33 = .ok (.iconst 3, 1) := by decide +kernel
theorem dX7_whyNotTask_34 : decode cX7_whyNotTask 34 = .ok (.ireturn, 1) := by decide +kernel
theorem dX7_lasts_0 : decode cX7_lasts 0 = .ok (.aload_n 0, 1) := by decide +kernel
theorem dX7_lasts_1 : decode cX7_lasts 1 = .ok (.iload_n 1, 1) := by decide +kernel
theorem dX7_lasts_2 : decode cX7_lasts 2 = .ok (.invokevirtual 53, 3) := by decide +kernel
theorem dX7_lasts_5 : decode cX7_lasts 5 = .ok (.istore_n 3, 1) := by decide +kernel
theorem dX7_lasts_6 : decode cX7_lasts 6 = .ok (.iload_n 2, 1) := by decide +kernel
theorem dX7_lasts_7 : decode cX7_lasts 7 = .ok (.aload_n 0, 1) := by decide +kernel
theorem dX7_lasts_8 : decode cX7_lasts 8 = .ok (.iload_n 3, 1) := by decide +kernel
theorem dX7_lasts_9 : decode cX7_lasts 9 = .ok (.iconst 5, 1) := by decide +kernel
theorem dX7_lasts_10 : decode cX7_lasts 10 = .ok (.invokevirtual 49, 3) := by decide +kernel
theorem dX7_lasts_13 : decode cX7_lasts 13 = .ok (.isub, 1) := by decide +kernel
theorem dX7_lasts_14 : decode cX7_lasts 14 = .ok (.istore 4, 2) := by decide +kernel
theorem dX7_lasts_16 : decode cX7_lasts 16 = .ok (.aload_n 0, 1) := by decide +kernel
theorem dX7_lasts_17 : decode cX7_lasts 17 = .ok (.iload_n 3, 1) := by decide +kernel
theorem dX7_lasts_18 : decode cX7_lasts 18 = .ok (.bipush 6, 2) := by decide +kernel
theorem dX7_lasts_20 : decode cX7_lasts 20 = .ok (.invokevirtual 49, 3) := by decide +kernel
theorem dX7_lasts_23 : decode cX7_lasts 23 = .ok (.iload 4, 2) := by decide +kernel
theorem dX7_lasts_25 : decode cX7_lasts 25 = .ok (.ifCond .le 8, 3) := by decide +kernel
theorem dX7_lasts_28 : decode cX7_lasts 28 = .ok (.iload 4, 2) := by decide +kernel
theorem dX7_lasts_30 : decode cX7_lasts 30 = .ok (.goto 4, 3) := by decide +kernel
theorem dX7_lasts_33 : decode cX7_lasts 33 = .ok (.iconst 0, 1) := by decide +kernel
theorem dX7_lasts_34 : decode cX7_lasts 34 = .ok (.isub, 1) := by decide +kernel
theorem dX7_lasts_35 : decode cX7_lasts 35 = .ok (.istore 5, 2) := by decide +kernel
theorem dX7_lasts_37 : decode cX7_lasts 37 = .ok (.aload_n 0, 1) := by decide +kernel
theorem dX7_lasts_38 : decode cX7_lasts 38 = .ok (.iload_n 3, 1) := by decide +kernel
theorem dX7_lasts_39 : decode cX7_lasts 39 = .ok (.bipush 6, 2) := by decide +kernel
theorem dX7_lasts_41 : decode cX7_lasts 41 = .ok (.iload 5, 2) := by decide +kernel
theorem dX7_lasts_43 : decode cX7_lasts 43 = .ok (.ifCond .le 8, 3) := by decide +kernel
theorem dX7_lasts_46 : decode cX7_lasts 46 = .ok (.iload 5, 2) := by decide +kernel
theorem dX7_lasts_48 : decode cX7_lasts 48 = .ok (.goto 4, 3) := by decide +kernel
theorem dX7_lasts_51 : decode cX7_lasts 51 = .ok (.iconst 0, 1) := by decide +kernel
theorem dX7_lasts_52 : decode cX7_lasts 52 = .ok (.invokevirtual 100, 3) := by decide +kernel
theorem dX7_lasts_55 : decode cX7_lasts 55 = .ok (.aload_n 0, 1) := by decide +kernel
theorem dX7_lasts_56 : decode cX7_lasts 56 = .ok (.iload_n 3, 1) := by decide +kernel
theorem dX7_lasts_57 : decode cX7_lasts 57 = .ok (.iconst 5, 1) := by decide +kernel
theorem dX7_lasts_58 : decode cX7_lasts 58 = .ok (.iload_n 2, 1) := by decide +kernel
theorem dX7_lasts_59 : decode cX7_lasts 59 = .ok (.invokevirtual 100, 3) := by decide +kernel
theorem dX7_lasts_62 : decode cX7_lasts 62 = .ok (.return_, 1) := by decide +kernel
theorem dX7_setDuration_0 : decode cX7_setDuration 0 = .ok (.aload_n 0, 1) := by decide +kernel
theorem dX7_setDuration_1 : decode cX7_setDuration 1 = .ok (.aload_n 0, 1) := by decide +kernel
theorem dX7_setDuration_2 : decode cX7_setDuration 2 = .ok (.iload_n 1, 1) := by decide +kernel
theorem dX7_setDuration_3 : decode cX7_setDuration 3 = .ok (.iload_n 2, 1) := by decide +kernel
theorem dX7_setDuration_4 : decode cX7_setDuration 4 = .ok (.iconst 0, 1) := by decide +kernel
theorem dX7_setDuration_5 : decode cX7_setDuration 5 = .ok (.bipush 60, 2) := by decide +kernel
theorem dX7_setDuration_7 : decode cX7_setDuration 7 = .ok (.invokestatic 91, 3) := by decide +kernel
theorem dX7_setDuration_10 : decode cX7_setDuration 10 = .ok (.invokevirtual 140, 3) := by decide +kernel
theorem dX7_setDuration_13 : decode cX7_setDuration 13 = .ok (.invokevirtual 60, 3) := by decide +kernel
theorem dX7_setDuration_16 : decode cX7_setDuration 16 = .ok (.ifCond .eq 5, 3) := by decide +kernel
theorem dX7_setDuration_19 : decode cX7_setDuration 19 = .ok (.iconst 0, 1) := by decide +kernel
theorem dX7_setDuration_20 : decode cX7_setDuration 20 = .ok (.ireturn, 1) := by decide +kernel
theorem dX7_setDuration_21 : decode cX7_setDuration 21 = .ok (.aload_n 0, 1) := by decide +kernel
theorem dX7_setDuration_22 : decode cX7_setDuration 22 = .ok (.invokevirtual 108, 3) := by decide +kernel
theorem dX7_setDuration_25 : decode cX7_setDuration 25 = .ok (.aload_n 0, 1) := by decide +kernel
theorem dX7_setDuration_26 : decode cX7_setDuration 26 = .ok (.iload_n 1, 1) := by decide +kernel
theorem dX7_setDuration_27 : decode cX7_setDuration 27 = .ok (.iload_n 2, 1) := by decide +kernel
theorem dX7_setDuration_28 : decode cX7_setDuration 28 = .ok (.invokevirtual 144, 3) := by decide +kernel
theorem dX7_setDuration_31 : decode cX7_setDuration 31 = .ok (.aload_n 0, 1) := by decide +kernel
theorem dX7_setDuration_32 : decode cX7_setDuration 32 = .ok (.invokevirtual 87, 3) := by decide +kernel
theorem dX7_setDuration_35 : decode cX7_setDuration 35 = .ok (.ireturn, 1) := by decide +kernel
theorem dX7_slackOf_0 : decode cX7_slackOf 0 = .ok (.aload_n 0, 1) := by decide +kernel
theorem dX7_slackOf_1 : decode cX7_slackOf 1 = .ok (.invokevirtual 84, 3) := by decide +kernel
theorem dX7_slackOf_4 : decode cX7_slackOf 4 = .ok (.aload_n 0, 1) := by decide +kernel
theorem dX7_slackOf_5 : decode cX7_slackOf 5 = .ok (.getfield 22, 3) := by decide +kernel
theorem dX7_slackOf_8 : decode cX7_slackOf 8 = .ok (.aload_n 0, 1) := by decide +kernel
theorem dX7_slackOf_9 : decode cX7_slackOf 9 = .ok (.iload_n 1, 1) := by decide +kernel
theorem dX7_slackOf_10 : decode cX7_slackOf 10 = .ok (.invokevirtual 53, 3) := by decide +kernel
theorem dX7_slackOf_13 : decode cX7_slackOf 13 = .ok (.iaload, 1) := by decide +kernel
theorem dX7_slackOf_14 : decode cX7_slackOf 14 = .ok (.ireturn, 1) := by decide +kernel
theorem dX7_whyNotBorrow_0 : decode cX7_whyNotBorrow 0 = .ok (.aload_n 0, 1) := by decide +kernel
theorem dX7_whyNotBorrow_1 : decode cX7_whyNotBorrow 1 = .ok (.iload_n 1, 1) := by decide +kernel
theorem dX7_whyNotBorrow_2 : decode cX7_whyNotBorrow 2 = .ok (.iload_n 2, 1) := by decide +kernel
theorem dX7_whyNotBorrow_3 : decode cX7_whyNotBorrow 3 = .ok (.iconst 1, 1) := by decide +kernel
theorem dX7_whyNotBorrow_4 : decode cX7_whyNotBorrow 4 = .ok (.bipush 99, 2) := by decide +kernel
theorem dX7_whyNotBorrow_6 : decode cX7_whyNotBorrow 6 = .ok (.invokestatic 91, 3) := by decide +kernel
theorem dX7_whyNotBorrow_9 : decode cX7_whyNotBorrow 9 = .ok (.invokevirtual 140, 3) := by decide +kernel
theorem dX7_whyNotBorrow_12 : decode cX7_whyNotBorrow 12 = .ok (.istore_n 3, 1) := by decide +kernel
theorem dX7_whyNotBorrow_13 : decode cX7_whyNotBorrow 13 = .ok (.iload_n 3, 1) := by decide +kernel
theorem dX7_whyNotBorrow_14 : decode cX7_whyNotBorrow 14 = .ok (.ifCond .eq 7, 3) := by decide +kernel
theorem dX7_whyNotBorrow_17 : decode cX7_whyNotBorrow 17 = .ok (.iload_n 3, 1) := by decide +kernel
theorem dX7_whyNotBorrow_18 : decode cX7_whyNotBorrow 18 = .ok (.goto 17, 3) := by decide +kernel
theorem dX7_whyNotBorrow_21 : decode cX7_whyNotBorrow 21 = .ok (.aload_n 0, 1) := by decide +kernel
theorem dX7_whyNotBorrow_22 : decode cX7_whyNotBorrow 22 = .ok (.iload_n 1, 1) := by decide +kernel
theorem dX7_whyNotBorrow_23 : decode cX7_whyNotBorrow 23 = .ok (.invokevirtual 147, 3) := by decide +kernel
theorem dX7_whyNotBorrow_26 : decode cX7_whyNotBorrow 26 = .ok (.iload_n 2, 1) := by decide +kernel
theorem dX7_whyNotBorrow_27 : decode cX7_whyNotBorrow 27 = .ok (.if_icmp .ge 7, 3) := by decide +kernel
theorem dX7_whyNotBorrow_30 : decode cX7_whyNotBorrow 30 = .ok (.iconst 3, 1) := by decide +kernel
theorem dX7_whyNotBorrow_31 : decode cX7_whyNotBorrow 31 = .ok (.goto 4, 3) := by decide +kernel
theorem dX7_whyNotBorrow_34 : decode cX7_whyNotBorrow 34 = .ok (.iconst 0, 1) := by decide +kernel
theorem dX7_whyNotBorrow_35 : decode cX7_whyNotBorrow 35 = .ok (.ireturn, 1) := by decide +kernel
theorem dX7_whyNotBack_0 : decode cX7_whyNotBack 0 = .ok (.aload_n 0, 1) := by decide +kernel
theorem dX7_whyNotBack_1 : decode cX7_whyNotBack 1 = .ok (.iload_n 1, 1) := by decide +kernel
theorem dX7_whyNotBack_2 : decode cX7_whyNotBack 2 = .ok (.iload_n 2, 1) := by decide +kernel
theorem dX7_whyNotBack_3 : decode cX7_whyNotBack 3 = .ok (.iconst 1, 1) := by decide +kernel
theorem dX7_whyNotBack_4 : decode cX7_whyNotBack 4 = .ok (.bipush 99, 2) := by decide +kernel
theorem dX7_whyNotBack_6 : decode cX7_whyNotBack 6 = .ok (.invokestatic 91, 3) := by decide +kernel
theorem dX7_whyNotBack_9 : decode cX7_whyNotBack 9 = .ok (.invokevirtual 140, 3) := by decide +kernel
theorem dX7_whyNotBack_12 : decode cX7_whyNotBack 12 = .ok (.istore_n 3, 1) := by decide +kernel
theorem dX7_whyNotBack_13 : decode cX7_whyNotBack 13 = .ok (.iload_n 3, 1) := by decide +kernel
theorem dX7_whyNotBack_14 : decode cX7_whyNotBack 14 = .ok (.ifCond .eq 7, 3) := by decide +kernel
theorem dX7_whyNotBack_17 : decode cX7_whyNotBack 17 = .ok (.iload_n 3, 1) := by decide +kernel
theorem dX7_whyNotBack_18 : decode cX7_whyNotBack 18 = .ok (.goto 23, 3) := by decide +kernel
theorem dX7_whyNotBack_21 : decode cX7_whyNotBack 21 = .ok (.aload_n 0, 1) := by decide +kernel
theorem dX7_whyNotBack_22 : decode cX7_whyNotBack 22 = .ok (.aload_n 0, 1) := by decide +kernel
theorem dX7_whyNotBack_23 : decode cX7_whyNotBack 23 = .ok (.iload_n 1, 1) := by decide +kernel
theorem dX7_whyNotBack_24 : decode cX7_whyNotBack 24 = .ok (.invokevirtual 53, 3) := by decide +kernel
theorem dX7_whyNotBack_27 : decode cX7_whyNotBack 27 = .ok (.bipush 6, 2) := by decide +kernel
theorem dX7_whyNotBack_29 : decode cX7_whyNotBack 29 = .ok (.invokevirtual 49, 3) := by decide +kernel
theorem dX7_whyNotBack_32 : decode cX7_whyNotBack 32 = .ok (.iload_n 2, 1) := by decide +kernel
theorem dX7_whyNotBack_33 : decode cX7_whyNotBack 33 = .ok (.if_icmp .ge 7, 3) := by decide +kernel
theorem dX7_whyNotBack_36 : decode cX7_whyNotBack 36 = .ok (.iconst 3, 1) := by decide +kernel
theorem dX7_whyNotBack_37 : decode cX7_whyNotBack 37 = .ok (.goto 4, 3) := by decide +kernel
theorem dX7_whyNotBack_40 : decode cX7_whyNotBack 40 = .ok (.iconst 0, 1) := by decide +kernel
theorem dX7_whyNotBack_41 : decode cX7_whyNotBack 41 = .ok (.ireturn, 1) := by decide +kernel
theorem dX7_reserves_0 : decode cX7_reserves 0 = .ok (.aload_n 0, 1) := by decide +kernel
theorem dX7_reserves_1 : decode cX7_reserves 1 = .ok (.iload_n 1, 1) := by decide +kernel
theorem dX7_reserves_2 : decode cX7_reserves 2 = .ok (.invokevirtual 53, 3) := by decide +kernel
theorem dX7_reserves_5 : decode cX7_reserves 5 = .ok (.istore_n 3, 1) := by decide +kernel
theorem dX7_reserves_6 : decode cX7_reserves 6 = .ok (.aload_n 0, 1) := by decide +kernel
theorem dX7_reserves_7 : decode cX7_reserves 7 = .ok (.iload_n 3, 1) := by decide +kernel
theorem dX7_reserves_8 : decode cX7_reserves 8 = .ok (.bipush 6, 2) := by decide +kernel
theorem dX7_reserves_10 : decode cX7_reserves 10 = .ok (.aload_n 0, 1) := by decide +kernel
theorem dX7_reserves_11 : decode cX7_reserves 11 = .ok (.iload_n 3, 1) := by decide +kernel
theorem dX7_reserves_12 : decode cX7_reserves 12 = .ok (.bipush 6, 2) := by decide +kernel
theorem dX7_reserves_14 : decode cX7_reserves 14 = .ok (.invokevirtual 49, 3) := by decide +kernel
theorem dX7_reserves_17 : decode cX7_reserves 17 = .ok (.iload_n 2, 1) := by decide +kernel
theorem dX7_reserves_18 : decode cX7_reserves 18 = .ok (.iadd, 1) := by decide +kernel
theorem dX7_reserves_19 : decode cX7_reserves 19 = .ok (.invokevirtual 100, 3) := by decide +kernel
theorem dX7_reserves_22 : decode cX7_reserves 22 = .ok (.aload_n 0, 1) := by decide +kernel
theorem dX7_reserves_23 : decode cX7_reserves 23 = .ok (.iload_n 3, 1) := by decide +kernel
theorem dX7_reserves_24 : decode cX7_reserves 24 = .ok (.bipush 6, 2) := by decide +kernel
theorem dX7_reserves_26 : decode cX7_reserves 26 = .ok (.invokevirtual 49, 3) := by decide +kernel
theorem dX7_reserves_29 : decode cX7_reserves 29 = .ok (.ireturn, 1) := by decide +kernel
theorem dX7_borrow_0 : decode cX7_borrow 0 = .ok (.aload_n 0, 1) := by decide +kernel
theorem dX7_borrow_1 : decode cX7_borrow 1 = .ok (.aload_n 0, 1) := by decide +kernel
theorem dX7_borrow_2 : decode cX7_borrow 2 = .ok (.iload_n 1, 1) := by decide +kernel
theorem dX7_borrow_3 : decode cX7_borrow 3 = .ok (.iload_n 2, 1) := by decide +kernel
theorem dX7_borrow_4 : decode cX7_borrow 4 = .ok (.invokevirtual 150, 3) := by decide +kernel
theorem dX7_borrow_7 : decode cX7_borrow 7 = .ok (.invokevirtual 60, 3) := by decide +kernel
theorem dX7_borrow_10 : decode cX7_borrow 10 = .ok (.ifCond .eq 5, 3) := by decide +kernel
theorem dX7_borrow_13 : decode cX7_borrow 13 = .ok (.iconst 0, 1) := by decide +kernel
theorem dX7_borrow_14 : decode cX7_borrow 14 = .ok (.ireturn, 1) := by decide +kernel
theorem dX7_borrow_15 : decode cX7_borrow 15 = .ok (.aload_n 0, 1) := by decide +kernel
theorem dX7_borrow_16 : decode cX7_borrow 16 = .ok (.invokevirtual 108, 3) := by decide +kernel
theorem dX7_borrow_19 : decode cX7_borrow 19 = .ok (.aload_n 0, 1) := by decide +kernel
theorem dX7_borrow_20 : decode cX7_borrow 20 = .ok (.iload_n 1, 1) := by decide +kernel
theorem dX7_borrow_21 : decode cX7_borrow 21 = .ok (.iload_n 2, 1) := by decide +kernel
theorem dX7_borrow_22 : decode cX7_borrow 22 = .ok (.invokevirtual 153, 3) := by decide +kernel
theorem dX7_borrow_25 : decode cX7_borrow 25 = .ok (.ireturn, 1) := by decide +kernel
theorem dX7_giveBack_0 : decode cX7_giveBack 0 = .ok (.aload_n 0, 1) := by decide +kernel
theorem dX7_giveBack_1 : decode cX7_giveBack 1 = .ok (.aload_n 0, 1) := by decide +kernel
theorem dX7_giveBack_2 : decode cX7_giveBack 2 = .ok (.iload_n 1, 1) := by decide +kernel
theorem dX7_giveBack_3 : decode cX7_giveBack 3 = .ok (.iload_n 2, 1) := by decide +kernel
theorem dX7_giveBack_4 : decode cX7_giveBack 4 = .ok (.invokevirtual 156, 3) := by decide +kernel
theorem dX7_giveBack_7 : decode cX7_giveBack 7 = .ok (.invokevirtual 60, 3) := by decide +kernel
theorem dX7_giveBack_10 : decode cX7_giveBack 10 = .ok (.ifCond .eq 5, 3) := by decide +kernel
theorem dX7_giveBack_13 : decode cX7_giveBack 13 = .ok (.iconst 0, 1) := by decide +kernel
theorem dX7_giveBack_14 : decode cX7_giveBack 14 = .ok (.ireturn, 1) := by decide +kernel
theorem dX7_giveBack_15 : decode cX7_giveBack 15 = .ok (.aload_n 0, 1) := by decide +kernel
theorem dX7_giveBack_16 : decode cX7_giveBack 16 = .ok (.invokevirtual 108, 3) := by decide +kernel
theorem dX7_giveBack_19 : decode cX7_giveBack 19 = .ok (.aload_n 0, 1) := by decide +kernel
theorem dX7_giveBack_20 : decode cX7_giveBack 20 = .ok (.iload_n 1, 1) := by decide +kernel
theorem dX7_giveBack_21 : decode cX7_giveBack 21 = .ok (.iload_n 2, 1) := by decide +kernel
theorem dX7_giveBack_22 : decode cX7_giveBack 22 = .ok (.ineg, 1) := by decide +kernel
theorem dX7_giveBack_23 : decode cX7_giveBack 23 = .ok (.invokevirtual 153, 3) := by decide +kernel
theorem dX7_giveBack_26 : decode cX7_giveBack 26 = .ok (.ireturn, 1) := by decide +kernel
theorem dX7_whyNotUntil_0 : decode cX7_whyNotUntil 0 = .ok (.iload_n 0, 1) := by decide +kernel
theorem dX7_whyNotUntil_1 : decode cX7_whyNotUntil 1 = .ok (.iconst 0, 1) := by decide +kernel
theorem dX7_whyNotUntil_2 : decode cX7_whyNotUntil 2 = .ok (.sipush 999, 3) := by decide +kernel
theorem dX7_whyNotUntil_5 : decode cX7_whyNotUntil 5 = .ok (.invokestatic 91, 3) := by decide +kernel
theorem dX7_whyNotUntil_8 : decode cX7_whyNotUntil 8 = .ok (.ifCond .eq 7, 3) := by decide +kernel
theorem dX7_whyNotUntil_11 : decode cX7_whyNotUntil 11 = .ok (.iconst 0, 1) := by decide +kernel
theorem dX7_whyNotUntil_12 : decode cX7_whyNotUntil 12 = .ok (.goto 4, 3) := by decide +kernel
theorem dX7_whyNotUntil_15 : decode cX7_whyNotUntil 15 = .ok (.iconst 2, 1) := by decide +kernel
theorem dX7_whyNotUntil_16 : decode cX7_whyNotUntil 16 = .ok (.ireturn, 1) := by decide +kernel
theorem dX7_setDeadline_0 : decode cX7_setDeadline 0 = .ok (.aload_n 0, 1) := by decide +kernel
theorem dX7_setDeadline_1 : decode cX7_setDeadline 1 = .ok (.iload_n 1, 1) := by decide +kernel
theorem dX7_setDeadline_2 : decode cX7_setDeadline 2 = .ok (.invokestatic 159, 3) := by decide +kernel
theorem dX7_setDeadline_5 : decode cX7_setDeadline 5 = .ok (.ifCond .ne 7, 3) := by decide +kernel
theorem dX7_setDeadline_8 : decode cX7_setDeadline 8 = .ok (.iconst 0, 1) := by decide +kernel
theorem dX7_setDeadline_9 : decode cX7_setDeadline 9 = .ok (.goto 4, 3) := by decide +kernel
theorem dX7_setDeadline_12 : decode cX7_setDeadline 12 = .ok (.iconst 1, 1) := by decide +kernel
theorem dX7_setDeadline_13 : decode cX7_setDeadline 13 = .ok (.invokevirtual 60, 3) := by decide +kernel
theorem dX7_setDeadline_16 : decode cX7_setDeadline 16 = .ok (.ifCond .eq 5, 3) := by decide +kernel
theorem dX7_setDeadline_19 : decode cX7_setDeadline 19 = .ok (.iconst 0, 1) := by decide +kernel
theorem dX7_setDeadline_20 : decode cX7_setDeadline 20 = .ok (.ireturn, 1) := by decide +kernel
theorem dX7_setDeadline_21 : decode cX7_setDeadline 21 = .ok (.aload_n 0, 1) := by decide +kernel
theorem dX7_setDeadline_22 : decode cX7_setDeadline 22 = .ok (.invokevirtual 108, 3) := by decide +kernel
theorem dX7_setDeadline_25 : decode cX7_setDeadline 25 = .ok (.aload_n 0, 1) := by decide +kernel
theorem dX7_setDeadline_26 : decode cX7_setDeadline 26 = .ok (.getfield 7, 3) := by decide +kernel
theorem dX7_setDeadline_29 : decode cX7_setDeadline 29 = .ok (.iconst 2, 1) := by decide +kernel
theorem dX7_setDeadline_30 : decode cX7_setDeadline 30 = .ok (.iload_n 1, 1) := by decide +kernel
theorem dX7_setDeadline_31 : decode cX7_setDeadline 31 = .ok (.iastore, 1) := by decide +kernel
theorem dX7_setDeadline_32 : decode cX7_setDeadline 32 = .ok (.aload_n 0, 1) := by decide +kernel
theorem dX7_setDeadline_33 : decode cX7_setDeadline 33 = .ok (.invokevirtual 162, 3) := by decide +kernel
theorem dX7_setDeadline_36 : decode cX7_setDeadline 36 = .ok (.ireturn, 1) := by decide +kernel
theorem dX7_nodeValue_0 : decode cX7_nodeValue 0 = .ok (.aload_n 0, 1) := by decide +kernel
theorem dX7_nodeValue_1 : decode cX7_nodeValue 1 = .ok (.iload_n 1, 1) := by decide +kernel
theorem dX7_nodeValue_2 : decode cX7_nodeValue 2 = .ok (.iconst 1, 1) := by decide +kernel
theorem dX7_nodeValue_3 : decode cX7_nodeValue 3 = .ok (.invokevirtual 49, 3) := by decide +kernel
theorem dX7_nodeValue_6 : decode cX7_nodeValue 6 = .ok (.iconst 1, 1) := by decide +kernel
theorem dX7_nodeValue_7 : decode cX7_nodeValue 7 = .ok (.if_icmp .ne 7, 3) := by decide +kernel
theorem dX7_nodeValue_10 : decode cX7_nodeValue 10 = .ok (.iconst 1, 1) := by decide +kernel
theorem dX7_nodeValue_11 : decode cX7_nodeValue 11 = .ok (.goto 4, 3) := by decide +kernel
theorem dX7_nodeValue_14 : decode cX7_nodeValue 14 = .ok (.iconst 0, 1) := by decide +kernel
theorem dX7_nodeValue_15 : decode cX7_nodeValue 15 = .ok (.istore_n 3, 1) := by decide +kernel
theorem dX7_nodeValue_16 : decode cX7_nodeValue 16 = .ok (.iload_n 2, 1) := by decide +kernel
theorem dX7_nodeValue_17 : decode cX7_nodeValue 17 = .ok (.tableswitch 195 0 11 #[63, 70, 70, 70, 89, 104, 120, 127, 134, 148, 155, 180], 63) := by decide +kernel
theorem dX7_nodeValue_80 : decode cX7_nodeValue 80 = .ok (.aload_n 0, 1) := by decide +kernel
theorem dX7_nodeValue_81 : decode cX7_nodeValue 81 = .ok (.iload_n 1, 1) := by decide +kernel
theorem dX7_nodeValue_82 : decode cX7_nodeValue 82 = .ok (.iconst 1, 1) := by decide +kernel
theorem dX7_nodeValue_83 : decode cX7_nodeValue 83 = .ok (.invokevirtual 49, 3) := by decide +kernel
theorem dX7_nodeValue_86 : decode cX7_nodeValue 86 = .ok (.ireturn, 1) := by decide +kernel
theorem dX7_nodeValue_87 : decode cX7_nodeValue 87 = .ok (.iload_n 1, 1) := by decide +kernel
theorem dX7_nodeValue_88 : decode cX7_nodeValue 88 = .ok (.ifCond .ne 7, 3) := by decide +kernel
theorem dX7_nodeValue_91 : decode cX7_nodeValue 91 = .ok (.iconst (-1), 1) := by decide +kernel
theorem dX7_nodeValue_92 : decode cX7_nodeValue 92 = .ok (.goto 13, 3) := by decide +kernel
theorem dX7_nodeValue_95 : decode cX7_nodeValue 95 = .ok (.aload_n 0, 1) := by decide +kernel
theorem dX7_nodeValue_96 : decode cX7_nodeValue 96 = .ok (.iload_n 1, 1) := by decide +kernel
theorem dX7_nodeValue_97 : decode cX7_nodeValue 97 = .ok (.iconst 2, 1) := by decide +kernel
theorem dX7_nodeValue_98 : decode cX7_nodeValue 98 = .ok (.iload_n 2, 1) := by decide +kernel
theorem dX7_nodeValue_99 : decode cX7_nodeValue 99 = .ok (.iadd, 1) := by decide +kernel
theorem dX7_nodeValue_100 : decode cX7_nodeValue 100 = .ok (.iconst 1, 1) := by decide +kernel
theorem dX7_nodeValue_101 : decode cX7_nodeValue 101 = .ok (.isub, 1) := by decide +kernel
theorem dX7_nodeValue_102 : decode cX7_nodeValue 102 = .ok (.invokevirtual 49, 3) := by decide +kernel
theorem dX7_nodeValue_105 : decode cX7_nodeValue 105 = .ok (.ireturn, 1) := by decide +kernel
theorem dX7_nodeValue_106 : decode cX7_nodeValue 106 = .ok (.iload_n 3, 1) := by decide +kernel
theorem dX7_nodeValue_107 : decode cX7_nodeValue 107 = .ok (.ifCond .eq 12, 3) := by decide +kernel
theorem dX7_nodeValue_110 : decode cX7_nodeValue 110 = .ok (.aload_n 0, 1) := by decide +kernel
theorem dX7_nodeValue_111 : decode cX7_nodeValue 111 = .ok (.iload_n 1, 1) := by decide +kernel
theorem dX7_nodeValue_112 : decode cX7_nodeValue 112 = .ok (.iconst 5, 1) := by decide +kernel
theorem dX7_nodeValue_113 : decode cX7_nodeValue 113 = .ok (.invokevirtual 49, 3) := by decide +kernel
theorem dX7_nodeValue_116 : decode cX7_nodeValue 116 = .ok (.goto 4, 3) := by decide +kernel
theorem dX7_nodeValue_119 : decode cX7_nodeValue 119 = .ok (.iconst (-1), 1) := by decide +kernel
theorem dX7_nodeValue_120 : decode cX7_nodeValue 120 = .ok (.ireturn, 1) := by decide +kernel
theorem dX7_nodeValue_121 : decode cX7_nodeValue 121 = .ok (.iload_n 3, 1) := by decide +kernel
theorem dX7_nodeValue_122 : decode cX7_nodeValue 122 = .ok (.ifCond .eq 13, 3) := by decide +kernel
theorem dX7_nodeValue_125 : decode cX7_nodeValue 125 = .ok (.aload_n 0, 1) := by decide +kernel
theorem dX7_nodeValue_126 : decode cX7_nodeValue 126 = .ok (.iload_n 1, 1) := by decide +kernel
theorem dX7_nodeValue_127 : decode cX7_nodeValue 127 = .ok (.bipush 6, 2) := by decide +kernel
theorem dX7_nodeValue_129 : decode cX7_nodeValue 129 = .ok (.invokevirtual 49, 3) := by decide +kernel
theorem dX7_nodeValue_132 : decode cX7_nodeValue 132 = .ok (.goto 4, 3) := by decide +kernel
theorem dX7_nodeValue_135 : decode cX7_nodeValue 135 = .ok (.iconst (-1), 1) := by decide +kernel
theorem dX7_nodeValue_136 : decode cX7_nodeValue 136 = .ok (.ireturn, 1) := by decide +kernel
theorem dX7_nodeValue_137 : decode cX7_nodeValue 137 = .ok (.aload_n 0, 1) := by decide +kernel
theorem dX7_nodeValue_138 : decode cX7_nodeValue 138 = .ok (.getfield 16, 3) := by decide +kernel
theorem dX7_nodeValue_141 : decode cX7_nodeValue 141 = .ok (.iload_n 1, 1) := by decide +kernel
theorem dX7_nodeValue_142 : decode cX7_nodeValue 142 = .ok (.iaload, 1) := by decide +kernel
theorem dX7_nodeValue_143 : decode cX7_nodeValue 143 = .ok (.ireturn, 1) := by decide +kernel
theorem dX7_nodeValue_144 : decode cX7_nodeValue 144 = .ok (.aload_n 0, 1) := by decide +kernel
theorem dX7_nodeValue_145 : decode cX7_nodeValue 145 = .ok (.getfield 19, 3) := by decide +kernel
theorem dX7_nodeValue_148 : decode cX7_nodeValue 148 = .ok (.iload_n 1, 1) := by decide +kernel
theorem dX7_nodeValue_149 : decode cX7_nodeValue 149 = .ok (.iaload, 1) := by decide +kernel
theorem dX7_nodeValue_150 : decode cX7_nodeValue 150 = .ok (.ireturn, 1) := by decide +kernel
theorem dX7_nodeValue_151 : decode cX7_nodeValue 151 = .ok (.aload_n 0, 1) := by decide +kernel
theorem dX7_nodeValue_152 : decode cX7_nodeValue 152 = .ok (.getfield 19, 3) := by decide +kernel
theorem dX7_nodeValue_155 : decode cX7_nodeValue 155 = .ok (.iload_n 1, 1) := by decide +kernel
theorem dX7_nodeValue_156 : decode cX7_nodeValue 156 = .ok (.iaload, 1) := by decide +kernel
theorem dX7_nodeValue_157 : decode cX7_nodeValue 157 = .ok (.aload_n 0, 1) := by decide +kernel
theorem dX7_nodeValue_158 : decode cX7_nodeValue 158 = .ok (.getfield 22, 3) := by decide +kernel
theorem dX7_nodeValue_161 : decode cX7_nodeValue 161 = .ok (.iload_n 1, 1) := by decide +kernel
theorem dX7_nodeValue_162 : decode cX7_nodeValue 162 = .ok (.iaload, 1) := by decide +kernel
theorem dX7_nodeValue_163 : decode cX7_nodeValue 163 = .ok (.iadd, 1) := by decide +kernel
theorem dX7_nodeValue_164 : decode cX7_nodeValue 164 = .ok (.ireturn, 1) := by decide +kernel
theorem dX7_nodeValue_165 : decode cX7_nodeValue 165 = .ok (.aload_n 0, 1) := by decide +kernel
theorem dX7_nodeValue_166 : decode cX7_nodeValue 166 = .ok (.getfield 22, 3) := by decide +kernel
theorem dX7_nodeValue_169 : decode cX7_nodeValue 169 = .ok (.iload_n 1, 1) := by decide +kernel
theorem dX7_nodeValue_170 : decode cX7_nodeValue 170 = .ok (.iaload, 1) := by decide +kernel
theorem dX7_nodeValue_171 : decode cX7_nodeValue 171 = .ok (.ireturn, 1) := by decide +kernel
theorem dX7_nodeValue_172 : decode cX7_nodeValue 172 = .ok (.iload_n 1, 1) := by decide +kernel
theorem dX7_nodeValue_173 : decode cX7_nodeValue 173 = .ok (.ifCond .ne 7, 3) := by decide +kernel
theorem dX7_nodeValue_176 : decode cX7_nodeValue 176 = .ok (.iconst 0, 1) := by decide +kernel
theorem dX7_nodeValue_177 : decode cX7_nodeValue 177 = .ok (.goto 19, 3) := by decide +kernel
theorem dX7_nodeValue_180 : decode cX7_nodeValue 180 = .ok (.aload_n 0, 1) := by decide +kernel
theorem dX7_nodeValue_181 : decode cX7_nodeValue 181 = .ok (.aload_n 0, 1) := by decide +kernel
theorem dX7_nodeValue_182 : decode cX7_nodeValue 182 = .ok (.iload_n 1, 1) := by decide +kernel
theorem dX7_nodeValue_183 : decode cX7_nodeValue 183 = .ok (.iconst 2, 1) := by decide +kernel
theorem dX7_nodeValue_184 : decode cX7_nodeValue 184 = .ok (.invokevirtual 49, 3) := by decide +kernel
theorem dX7_nodeValue_187 : decode cX7_nodeValue 187 = .ok (.aload_n 0, 1) := by decide +kernel
theorem dX7_nodeValue_188 : decode cX7_nodeValue 188 = .ok (.iload_n 1, 1) := by decide +kernel
theorem dX7_nodeValue_189 : decode cX7_nodeValue 189 = .ok (.iconst 3, 1) := by decide +kernel
theorem dX7_nodeValue_190 : decode cX7_nodeValue 190 = .ok (.invokevirtual 49, 3) := by decide +kernel
theorem dX7_nodeValue_193 : decode cX7_nodeValue 193 = .ok (.invokevirtual 71, 3) := by decide +kernel
theorem dX7_nodeValue_196 : decode cX7_nodeValue 196 = .ok (.ireturn, 1) := by decide +kernel
theorem dX7_nodeValue_197 : decode cX7_nodeValue 197 = .ok (.aload_n 0, 1) := by decide +kernel
theorem dX7_nodeValue_198 : decode cX7_nodeValue 198 = .ok (.getfield 22, 3) := by decide +kernel
theorem dX7_nodeValue_201 : decode cX7_nodeValue 201 = .ok (.iload_n 1, 1) := by decide +kernel
theorem dX7_nodeValue_202 : decode cX7_nodeValue 202 = .ok (.iaload, 1) := by decide +kernel
theorem dX7_nodeValue_203 : decode cX7_nodeValue 203 = .ok (.ifCond .ne 7, 3) := by decide +kernel
theorem dX7_nodeValue_206 : decode cX7_nodeValue 206 = .ok (.iconst 1, 1) := by decide +kernel
theorem dX7_nodeValue_207 : decode cX7_nodeValue 207 = .ok (.goto 4, 3) := by decide +kernel
theorem dX7_nodeValue_210 : decode cX7_nodeValue 210 = .ok (.iconst 0, 1) := by decide +kernel
theorem dX7_nodeValue_211 : decode cX7_nodeValue 211 = .ok (.ireturn, 1) := by decide +kernel
theorem dX7_nodeValue_212 : decode cX7_nodeValue 212 = .ok (.aload_n 0, 1) := by decide +kernel
theorem dX7_nodeValue_213 : decode cX7_nodeValue 213 = .ok (.getfield 25, 3) := by decide +kernel
theorem dX7_nodeValue_216 : decode cX7_nodeValue 216 = .ok (.iload_n 1, 1) := by decide +kernel
theorem dX7_nodeValue_217 : decode cX7_nodeValue 217 = .ok (.iaload, 1) := by decide +kernel
theorem dX7_nodeValue_218 : decode cX7_nodeValue 218 = .ok (.ireturn, 1) := by decide +kernel
theorem dX7_node_0 : decode cX7_node 0 = .ok (.aload_n 0, 1) := by decide +kernel
theorem dX7_node_1 : decode cX7_node 1 = .ok (.aload_n 0, 1) := by decide +kernel
theorem dX7_node_2 : decode cX7_node 2 = .ok (.iload_n 1, 1) := by decide +kernel
theorem dX7_node_3 : decode cX7_node 3 = .ok (.invokevirtual 53, 3) := by decide +kernel
theorem dX7_node_6 : decode cX7_node 6 = .ok (.iconst (-1), 1) := by decide +kernel
theorem dX7_node_7 : decode cX7_node 7 = .ok (.if_icmp .ne 7, 3) := by decide +kernel
theorem dX7_node_10 : decode cX7_node 10 = .ok (.iconst 1, 1) := by decide +kernel
theorem dX7_node_11 : decode cX7_node 11 = .ok (.goto 18, 3) := by decide +kernel
theorem dX7_node_14 : decode cX7_node 14 = .ok (.iload_n 2, 1) := by decide +kernel
theorem dX7_node_15 : decode cX7_node 15 = .ok (.iconst 0, 1) := by decide +kernel
theorem dX7_node_16 : decode cX7_node 16 = .ok (.bipush 12, 2) := by decide +kernel
theorem dX7_node_18 : decode cX7_node 18 = .ok (.invokestatic 91, 3) := by decide +kernel
theorem dX7_node_21 : decode cX7_node 21 = .ok (.ifCond .eq 7, 3) := by decide +kernel
theorem dX7_node_24 : decode cX7_node 24 = .ok (.iconst 0, 1) := by decide +kernel
theorem dX7_node_25 : decode cX7_node 25 = .ok (.goto 4, 3) := by decide +kernel
theorem dX7_node_28 : decode cX7_node 28 = .ok (.iconst 2, 1) := by decide +kernel
theorem dX7_node_29 : decode cX7_node 29 = .ok (.invokevirtual 60, 3) := by decide +kernel
theorem dX7_node_32 : decode cX7_node 32 = .ok (.ifCond .eq 5, 3) := by decide +kernel
theorem dX7_node_35 : decode cX7_node 35 = .ok (.iconst 0, 1) := by decide +kernel
theorem dX7_node_36 : decode cX7_node 36 = .ok (.ireturn, 1) := by decide +kernel
theorem dX7_node_37 : decode cX7_node 37 = .ok (.aload_n 0, 1) := by decide +kernel
theorem dX7_node_38 : decode cX7_node 38 = .ok (.invokevirtual 84, 3) := by decide +kernel
theorem dX7_node_41 : decode cX7_node 41 = .ok (.aload_n 0, 1) := by decide +kernel
theorem dX7_node_42 : decode cX7_node 42 = .ok (.aload_n 0, 1) := by decide +kernel
theorem dX7_node_43 : decode cX7_node 43 = .ok (.iload_n 1, 1) := by decide +kernel
theorem dX7_node_44 : decode cX7_node 44 = .ok (.invokevirtual 53, 3) := by decide +kernel
theorem dX7_node_47 : decode cX7_node 47 = .ok (.iload_n 2, 1) := by decide +kernel
theorem dX7_node_48 : decode cX7_node 48 = .ok (.invokevirtual 165, 3) := by decide +kernel
theorem dX7_node_51 : decode cX7_node 51 = .ok (.ireturn, 1) := by decide +kernel
theorem dX7_isCriticalRow_0 : decode cX7_isCriticalRow 0 = .ok (.aload_n 0, 1) := by decide +kernel
theorem dX7_isCriticalRow_1 : decode cX7_isCriticalRow 1 = .ok (.iload_n 1, 1) := by decide +kernel
theorem dX7_isCriticalRow_2 : decode cX7_isCriticalRow 2 = .ok (.iload_n 2, 1) := by decide +kernel
theorem dX7_isCriticalRow_3 : decode cX7_isCriticalRow 3 = .ok (.invokevirtual 71, 3) := by decide +kernel
theorem dX7_isCriticalRow_6 : decode cX7_isCriticalRow 6 = .ok (.ifCond .ne 29, 3) := by decide +kernel
theorem dX7_isCriticalRow_9 : decode cX7_isCriticalRow 9 = .ok (.aload_n 0, 1) := by decide +kernel
theorem dX7_isCriticalRow_10 : decode cX7_isCriticalRow 10 = .ok (.getfield 22, 3) := by decide +kernel
theorem dX7_isCriticalRow_13 : decode cX7_isCriticalRow 13 = .ok (.aload_n 0, 1) := by decide +kernel
theorem dX7_isCriticalRow_14 : decode cX7_isCriticalRow 14 = .ok (.iload_n 1, 1) := by decide +kernel
theorem dX7_isCriticalRow_15 : decode cX7_isCriticalRow 15 = .ok (.invokevirtual 53, 3) := by decide +kernel
theorem dX7_isCriticalRow_18 : decode cX7_isCriticalRow 18 = .ok (.iaload, 1) := by decide +kernel
theorem dX7_isCriticalRow_19 : decode cX7_isCriticalRow 19 = .ok (.ifCond .ne 16, 3) := by decide +kernel
theorem dX7_isCriticalRow_22 : decode cX7_isCriticalRow 22 = .ok (.aload_n 0, 1) := by decide +kernel
theorem dX7_isCriticalRow_23 : decode cX7_isCriticalRow 23 = .ok (.iload_n 1, 1) := by decide +kernel
theorem dX7_isCriticalRow_24 : decode cX7_isCriticalRow 24 = .ok (.iload_n 2, 1) := by decide +kernel
theorem dX7_isCriticalRow_25 : decode cX7_isCriticalRow 25 = .ok (.invokevirtual 97, 3) := by decide +kernel
theorem dX7_isCriticalRow_28 : decode cX7_isCriticalRow 28 = .ok (.ifCond .le 7, 3) := by decide +kernel
theorem dX7_isCriticalRow_31 : decode cX7_isCriticalRow 31 = .ok (.iconst 1, 1) := by decide +kernel
theorem dX7_isCriticalRow_32 : decode cX7_isCriticalRow 32 = .ok (.goto 4, 3) := by decide +kernel
theorem dX7_isCriticalRow_35 : decode cX7_isCriticalRow 35 = .ok (.iconst 0, 1) := by decide +kernel
theorem dX7_isCriticalRow_36 : decode cX7_isCriticalRow 36 = .ok (.ireturn, 1) := by decide +kernel
theorem dX7_whyNotRow_0 : decode cX7_whyNotRow 0 = .ok (.aload_n 0, 1) := by decide +kernel
theorem dX7_whyNotRow_1 : decode cX7_whyNotRow 1 = .ok (.iload_n 1, 1) := by decide +kernel
theorem dX7_whyNotRow_2 : decode cX7_whyNotRow 2 = .ok (.invokevirtual 53, 3) := by decide +kernel
theorem dX7_whyNotRow_5 : decode cX7_whyNotRow 5 = .ok (.iconst (-1), 1) := by decide +kernel
theorem dX7_whyNotRow_6 : decode cX7_whyNotRow 6 = .ok (.if_icmp .ne 7, 3) := by decide +kernel
theorem dX7_whyNotRow_9 : decode cX7_whyNotRow 9 = .ok (.iconst 1, 1) := by decide +kernel
theorem dX7_whyNotRow_10 : decode cX7_whyNotRow 10 = .ok (.goto 24, 3) := by decide +kernel
theorem dX7_whyNotRow_13 : decode cX7_whyNotRow 13 = .ok (.iload_n 2, 1) := by decide +kernel
theorem dX7_whyNotRow_14 : decode cX7_whyNotRow 14 = .ok (.ifCond .ne 7, 3) := by decide +kernel
theorem dX7_whyNotRow_17 : decode cX7_whyNotRow 17 = .ok (.iconst 2, 1) := by decide +kernel
theorem dX7_whyNotRow_18 : decode cX7_whyNotRow 18 = .ok (.goto 16, 3) := by decide +kernel
theorem dX7_whyNotRow_21 : decode cX7_whyNotRow 21 = .ok (.aload_n 0, 1) := by decide +kernel
theorem dX7_whyNotRow_22 : decode cX7_whyNotRow 22 = .ok (.iload_n 1, 1) := by decide +kernel
theorem dX7_whyNotRow_23 : decode cX7_whyNotRow 23 = .ok (.invokevirtual 94, 3) := by decide +kernel
theorem dX7_whyNotRow_26 : decode cX7_whyNotRow 26 = .ok (.ifCond .eq 7, 3) := by decide +kernel
theorem dX7_whyNotRow_29 : decode cX7_whyNotRow 29 = .ok (.iconst 3, 1) := by decide +kernel
theorem dX7_whyNotRow_30 : decode cX7_whyNotRow 30 = .ok (.goto 4, 3) := by decide +kernel
theorem dX7_whyNotRow_33 : decode cX7_whyNotRow 33 = .ok (.iconst 0, 1) := by decide +kernel
theorem dX7_whyNotRow_34 : decode cX7_whyNotRow 34 = .ok (.ireturn, 1) := by decide +kernel
theorem dX7_rowValue_0 : decode cX7_rowValue 0 = .ok (.iload_n 3, 1) := by decide +kernel
theorem dX7_rowValue_1 : decode cX7_rowValue 1 = .ok (.tableswitch 48 0 2 #[27, 34, 41], 27) := by decide +kernel
theorem dX7_rowValue_28 : decode cX7_rowValue 28 = .ok (.aload_n 0, 1) := by decide +kernel
theorem dX7_rowValue_29 : decode cX7_rowValue 29 = .ok (.iload_n 1, 1) := by decide +kernel
theorem dX7_rowValue_30 : decode cX7_rowValue 30 = .ok (.iload_n 2, 1) := by decide +kernel
theorem dX7_rowValue_31 : decode cX7_rowValue 31 = .ok (.invokevirtual 97, 3) := by decide +kernel
theorem dX7_rowValue_34 : decode cX7_rowValue 34 = .ok (.ireturn, 1) := by decide +kernel
theorem dX7_rowValue_35 : decode cX7_rowValue 35 = .ok (.aload_n 0, 1) := by decide +kernel
theorem dX7_rowValue_36 : decode cX7_rowValue 36 = .ok (.iload_n 1, 1) := by decide +kernel
theorem dX7_rowValue_37 : decode cX7_rowValue 37 = .ok (.iload_n 2, 1) := by decide +kernel
theorem dX7_rowValue_38 : decode cX7_rowValue 38 = .ok (.invokevirtual 68, 3) := by decide +kernel
theorem dX7_rowValue_41 : decode cX7_rowValue 41 = .ok (.ireturn, 1) := by decide +kernel
theorem dX7_rowValue_42 : decode cX7_rowValue 42 = .ok (.aload_n 0, 1) := by decide +kernel
theorem dX7_rowValue_43 : decode cX7_rowValue 43 = .ok (.iload_n 1, 1) := by decide +kernel
theorem dX7_rowValue_44 : decode cX7_rowValue 44 = .ok (.iload_n 2, 1) := by decide +kernel
theorem dX7_rowValue_45 : decode cX7_rowValue 45 = .ok (.invokevirtual 71, 3) := by decide +kernel
theorem dX7_rowValue_48 : decode cX7_rowValue 48 = .ok (.ireturn, 1) := by decide +kernel
theorem dX7_rowValue_49 : decode cX7_rowValue 49 = .ok (.aload_n 0, 1) := by decide +kernel
theorem dX7_rowValue_50 : decode cX7_rowValue 50 = .ok (.iload_n 1, 1) := by decide +kernel
theorem dX7_rowValue_51 : decode cX7_rowValue 51 = .ok (.iload_n 2, 1) := by decide +kernel
theorem dX7_rowValue_52 : decode cX7_rowValue 52 = .ok (.invokevirtual 168, 3) := by decide +kernel
theorem dX7_rowValue_55 : decode cX7_rowValue 55 = .ok (.ifCond .eq 7, 3) := by decide +kernel
theorem dX7_rowValue_58 : decode cX7_rowValue 58 = .ok (.iconst 1, 1) := by decide +kernel
theorem dX7_rowValue_59 : decode cX7_rowValue 59 = .ok (.goto 4, 3) := by decide +kernel
theorem dX7_rowValue_62 : decode cX7_rowValue 62 = .ok (.iconst 0, 1) := by decide +kernel
theorem dX7_rowValue_63 : decode cX7_rowValue 63 = .ok (.ireturn, 1) := by decide +kernel
theorem dX7_row_0 : decode cX7_row 0 = .ok (.aload_n 0, 1) := by decide +kernel
theorem dX7_row_1 : decode cX7_row 1 = .ok (.aload_n 0, 1) := by decide +kernel
theorem dX7_row_2 : decode cX7_row 2 = .ok (.iload_n 1, 1) := by decide +kernel
theorem dX7_row_3 : decode cX7_row 3 = .ok (.iload_n 2, 1) := by decide +kernel
theorem dX7_row_4 : decode cX7_row 4 = .ok (.iconst 0, 1) := by decide +kernel
theorem dX7_row_5 : decode cX7_row 5 = .ok (.iconst 3, 1) := by decide +kernel
theorem dX7_row_6 : decode cX7_row 6 = .ok (.invokestatic 91, 3) := by decide +kernel
theorem dX7_row_9 : decode cX7_row 9 = .ok (.ifCond .eq 16, 3) := by decide +kernel
theorem dX7_row_12 : decode cX7_row 12 = .ok (.iload_n 3, 1) := by decide +kernel
theorem dX7_row_13 : decode cX7_row 13 = .ok (.iconst 0, 1) := by decide +kernel
theorem dX7_row_14 : decode cX7_row 14 = .ok (.iconst 3, 1) := by decide +kernel
theorem dX7_row_15 : decode cX7_row 15 = .ok (.invokestatic 91, 3) := by decide +kernel
theorem dX7_row_18 : decode cX7_row 18 = .ok (.ifCond .eq 7, 3) := by decide +kernel
theorem dX7_row_21 : decode cX7_row 21 = .ok (.iconst 1, 1) := by decide +kernel
theorem dX7_row_22 : decode cX7_row 22 = .ok (.goto 4, 3) := by decide +kernel
theorem dX7_row_25 : decode cX7_row 25 = .ok (.iconst 0, 1) := by decide +kernel
theorem dX7_row_26 : decode cX7_row 26 = .ok (.invokevirtual 171, 3) := by decide +kernel
theorem dX7_row_29 : decode cX7_row 29 = .ok (.invokevirtual 60, 3) := by decide +kernel
theorem dX7_row_32 : decode cX7_row 32 = .ok (.ifCond .eq 5, 3) := by decide +kernel
theorem dX7_row_35 : decode cX7_row 35 = .ok (.iconst 0, 1) := by decide +kernel
theorem dX7_row_36 : decode cX7_row 36 = .ok (.ireturn, 1) := by decide +kernel
theorem dX7_row_37 : decode cX7_row 37 = .ok (.aload_n 0, 1) := by decide +kernel
theorem dX7_row_38 : decode cX7_row 38 = .ok (.invokevirtual 84, 3) := by decide +kernel
theorem dX7_row_41 : decode cX7_row 41 = .ok (.aload_n 0, 1) := by decide +kernel
theorem dX7_row_42 : decode cX7_row 42 = .ok (.iload_n 1, 1) := by decide +kernel
theorem dX7_row_43 : decode cX7_row 43 = .ok (.iload_n 2, 1) := by decide +kernel
theorem dX7_row_44 : decode cX7_row 44 = .ok (.iload_n 3, 1) := by decide +kernel
theorem dX7_row_45 : decode cX7_row 45 = .ok (.invokevirtual 174, 3) := by decide +kernel
theorem dX7_row_48 : decode cX7_row 48 = .ok (.ireturn, 1) := by decide +kernel
theorem dX7_child_0 : decode cX7_child 0 = .ok (.aload_n 0, 1) := by decide +kernel
theorem dX7_child_1 : decode cX7_child 1 = .ok (.aload_n 0, 1) := by decide +kernel
theorem dX7_child_2 : decode cX7_child 2 = .ok (.iload_n 1, 1) := by decide +kernel
theorem dX7_child_3 : decode cX7_child 3 = .ok (.iload_n 2, 1) := by decide +kernel
theorem dX7_child_4 : decode cX7_child 4 = .ok (.iconst 0, 1) := by decide +kernel
theorem dX7_child_5 : decode cX7_child 5 = .ok (.iconst 3, 1) := by decide +kernel
theorem dX7_child_6 : decode cX7_child 6 = .ok (.invokestatic 91, 3) := by decide +kernel
theorem dX7_child_9 : decode cX7_child 9 = .ok (.ifCond .eq 11, 3) := by decide +kernel
theorem dX7_child_12 : decode cX7_child 12 = .ok (.iload_n 3, 1) := by decide +kernel
theorem dX7_child_13 : decode cX7_child 13 = .ok (.ifCond .lt 7, 3) := by decide +kernel
theorem dX7_child_16 : decode cX7_child 16 = .ok (.iconst 1, 1) := by decide +kernel
theorem dX7_child_17 : decode cX7_child 17 = .ok (.goto 4, 3) := by decide +kernel
theorem dX7_child_20 : decode cX7_child 20 = .ok (.iconst 0, 1) := by decide +kernel
theorem dX7_child_21 : decode cX7_child 21 = .ok (.invokevirtual 171, 3) := by decide +kernel
theorem dX7_child_24 : decode cX7_child 24 = .ok (.invokevirtual 60, 3) := by decide +kernel
theorem dX7_child_27 : decode cX7_child 27 = .ok (.ifCond .eq 5, 3) := by decide +kernel
theorem dX7_child_30 : decode cX7_child 30 = .ok (.iconst 0, 1) := by decide +kernel
theorem dX7_child_31 : decode cX7_child 31 = .ok (.ireturn, 1) := by decide +kernel
theorem dX7_child_32 : decode cX7_child 32 = .ok (.iconst 0, 1) := by decide +kernel
theorem dX7_child_33 : decode cX7_child 33 = .ok (.istore 4, 2) := by decide +kernel
theorem dX7_child_35 : decode cX7_child 35 = .ok (.iload 4, 2) := by decide +kernel
theorem dX7_child_37 : decode cX7_child 37 = .ok (.aload_n 0, 1) := by decide +kernel
theorem dX7_child_38 : decode cX7_child 38 = .ok (.getfield 7, 3) := by decide +kernel
theorem dX7_child_41 : decode cX7_child 41 = .ok (.iconst 0, 1) := by decide +kernel
theorem dX7_child_42 : decode cX7_child 42 = .ok (.iaload, 1) := by decide +kernel
theorem dX7_child_43 : decode cX7_child 43 = .ok (.if_icmp .ge 39, 3) := by decide +kernel
theorem dX7_child_46 : decode cX7_child 46 = .ok (.aload_n 0, 1) := by decide +kernel
theorem dX7_child_47 : decode cX7_child 47 = .ok (.iload 4, 2) := by decide +kernel
theorem dX7_child_49 : decode cX7_child 49 = .ok (.iload_n 1, 1) := by decide +kernel
theorem dX7_child_50 : decode cX7_child 50 = .ok (.iload_n 2, 1) := by decide +kernel
theorem dX7_child_51 : decode cX7_child 51 = .ok (.invokevirtual 64, 3) := by decide +kernel
theorem dX7_child_54 : decode cX7_child 54 = .ok (.ifCond .eq 22, 3) := by decide +kernel
theorem dX7_child_57 : decode cX7_child 57 = .ok (.aload_n 0, 1) := by decide +kernel
theorem dX7_child_58 : decode cX7_child 58 = .ok (.iload 4, 2) := by decide +kernel
theorem dX7_child_60 : decode cX7_child 60 = .ok (.iconst 4, 1) := by decide +kernel
theorem dX7_child_61 : decode cX7_child 61 = .ok (.invokevirtual 49, 3) := by decide +kernel
theorem dX7_child_64 : decode cX7_child 64 = .ok (.iload_n 3, 1) := by decide +kernel
theorem dX7_child_65 : decode cX7_child 65 = .ok (.if_icmp .ne 11, 3) := by decide +kernel
theorem dX7_child_68 : decode cX7_child 68 = .ok (.aload_n 0, 1) := by decide +kernel
theorem dX7_child_69 : decode cX7_child 69 = .ok (.iload 4, 2) := by decide +kernel
theorem dX7_child_71 : decode cX7_child 71 = .ok (.iconst 0, 1) := by decide +kernel
theorem dX7_child_72 : decode cX7_child 72 = .ok (.invokevirtual 49, 3) := by decide +kernel
theorem dX7_child_75 : decode cX7_child 75 = .ok (.ireturn, 1) := by decide +kernel
theorem dX7_child_76 : decode cX7_child 76 = .ok (.iinc 4 1, 3) := by decide +kernel
theorem dX7_child_79 : decode cX7_child 79 = .ok (.goto (-44), 3) := by decide +kernel
theorem dX7_child_82 : decode cX7_child 82 = .ok (.iconst (-1), 1) := by decide +kernel
theorem dX7_child_83 : decode cX7_child 83 = .ok (.ireturn, 1) := by decide +kernel
theorem dX7_layCritical_0 : decode cX7_layCritical 0 = .ok (.aload_n 0, 1) := by decide +kernel
theorem dX7_layCritical_1 : decode cX7_layCritical 1 = .ok (.invokevirtual 84, 3) := by decide +kernel
theorem dX7_layCritical_4 : decode cX7_layCritical 4 = .ok (.iconst 0, 1) := by decide +kernel
theorem dX7_layCritical_5 : decode cX7_layCritical 5 = .ok (.istore_n 1, 1) := by decide +kernel
theorem dX7_layCritical_6 : decode cX7_layCritical 6 = .ok (.iconst 0, 1) := by decide +kernel
theorem dX7_layCritical_7 : decode cX7_layCritical 7 = .ok (.istore_n 2, 1) := by decide +kernel
theorem dX7_layCritical_8 : decode cX7_layCritical 8 = .ok (.iload_n 2, 1) := by decide +kernel
theorem dX7_layCritical_9 : decode cX7_layCritical 9 = .ok (.aload_n 0, 1) := by decide +kernel
theorem dX7_layCritical_10 : decode cX7_layCritical 10 = .ok (.getfield 7, 3) := by decide +kernel
theorem dX7_layCritical_13 : decode cX7_layCritical 13 = .ok (.iconst 0, 1) := by decide +kernel
theorem dX7_layCritical_14 : decode cX7_layCritical 14 = .ok (.iaload, 1) := by decide +kernel
theorem dX7_layCritical_15 : decode cX7_layCritical 15 = .ok (.if_icmp .ge 86, 3) := by decide +kernel
theorem dX7_layCritical_18 : decode cX7_layCritical 18 = .ok (.aload_n 0, 1) := by decide +kernel
theorem dX7_layCritical_19 : decode cX7_layCritical 19 = .ok (.iload_n 2, 1) := by decide +kernel
theorem dX7_layCritical_20 : decode cX7_layCritical 20 = .ok (.iconst 1, 1) := by decide +kernel
theorem dX7_layCritical_21 : decode cX7_layCritical 21 = .ok (.invokevirtual 49, 3) := by decide +kernel
theorem dX7_layCritical_24 : decode cX7_layCritical 24 = .ok (.iconst 1, 1) := by decide +kernel
theorem dX7_layCritical_25 : decode cX7_layCritical 25 = .ok (.if_icmp .ne 70, 3) := by decide +kernel
theorem dX7_layCritical_28 : decode cX7_layCritical 28 = .ok (.aload_n 0, 1) := by decide +kernel
theorem dX7_layCritical_29 : decode cX7_layCritical 29 = .ok (.getfield 22, 3) := by decide +kernel
theorem dX7_layCritical_32 : decode cX7_layCritical 32 = .ok (.iload_n 2, 1) := by decide +kernel
theorem dX7_layCritical_33 : decode cX7_layCritical 33 = .ok (.iaload, 1) := by decide +kernel
theorem dX7_layCritical_34 : decode cX7_layCritical 34 = .ok (.ifCond .ne 61, 3) := by decide +kernel
theorem dX7_layCritical_37 : decode cX7_layCritical 37 = .ok (.iload_n 1, 1) := by decide +kernel
theorem dX7_layCritical_38 : decode cX7_layCritical 38 = .ok (.istore_n 3, 1) := by decide +kernel
theorem dX7_layCritical_39 : decode cX7_layCritical 39 = .ok (.iload_n 3, 1) := by decide +kernel
theorem dX7_layCritical_40 : decode cX7_layCritical 40 = .ok (.ifCond .le 45, 3) := by decide +kernel
theorem dX7_layCritical_43 : decode cX7_layCritical 43 = .ok (.aload_n 0, 1) := by decide +kernel
theorem dX7_layCritical_44 : decode cX7_layCritical 44 = .ok (.getfield 19, 3) := by decide +kernel
theorem dX7_layCritical_47 : decode cX7_layCritical 47 = .ok (.aload_n 0, 1) := by decide +kernel
theorem dX7_layCritical_48 : decode cX7_layCritical 48 = .ok (.getfield 38, 3) := by decide +kernel
theorem dX7_layCritical_51 : decode cX7_layCritical 51 = .ok (.iload_n 3, 1) := by decide +kernel
theorem dX7_layCritical_52 : decode cX7_layCritical 52 = .ok (.iconst 1, 1) := by decide +kernel
theorem dX7_layCritical_53 : decode cX7_layCritical 53 = .ok (.isub, 1) := by decide +kernel
theorem dX7_layCritical_54 : decode cX7_layCritical 54 = .ok (.iaload, 1) := by decide +kernel
theorem dX7_layCritical_55 : decode cX7_layCritical 55 = .ok (.iaload, 1) := by decide +kernel
theorem dX7_layCritical_56 : decode cX7_layCritical 56 = .ok (.aload_n 0, 1) := by decide +kernel
theorem dX7_layCritical_57 : decode cX7_layCritical 57 = .ok (.getfield 19, 3) := by decide +kernel
theorem dX7_layCritical_60 : decode cX7_layCritical 60 = .ok (.iload_n 2, 1) := by decide +kernel
theorem dX7_layCritical_61 : decode cX7_layCritical 61 = .ok (.iaload, 1) := by decide +kernel
theorem dX7_layCritical_62 : decode cX7_layCritical 62 = .ok (.if_icmp .le 23, 3) := by decide +kernel
theorem dX7_layCritical_65 : decode cX7_layCritical 65 = .ok (.aload_n 0, 1) := by decide +kernel
theorem dX7_layCritical_66 : decode cX7_layCritical 66 = .ok (.getfield 38, 3) := by decide +kernel
theorem dX7_layCritical_69 : decode cX7_layCritical 69 = .ok (.iload_n 3, 1) := by decide +kernel
theorem dX7_layCritical_70 : decode cX7_layCritical 70 = .ok (.aload_n 0, 1) := by decide +kernel
theorem dX7_layCritical_71 : decode cX7_layCritical 71 = .ok (.getfield 38, 3) := by decide +kernel
theorem dX7_layCritical_74 : decode cX7_layCritical 74 = .ok (.iload_n 3, 1) := by decide +kernel
theorem dX7_layCritical_75 : decode cX7_layCritical 75 = .ok (.iconst 1, 1) := by decide +kernel
theorem dX7_layCritical_76 : decode cX7_layCritical 76 = .ok (.isub, 1) := by decide +kernel
theorem dX7_layCritical_77 : decode cX7_layCritical 77 = .ok (.iaload, 1) := by decide +kernel
theorem dX7_layCritical_78 : decode cX7_layCritical 78 = .ok (.iastore, 1) := by decide +kernel
theorem dX7_layCritical_79 : decode cX7_layCritical 79 = .ok (.iinc 3 (-1), 3) := by decide +kernel
theorem dX7_layCritical_82 : decode cX7_layCritical 82 = .ok (.goto (-43), 3) := by decide +kernel
theorem dX7_layCritical_85 : decode cX7_layCritical 85 = .ok (.aload_n 0, 1) := by decide +kernel
theorem dX7_layCritical_86 : decode cX7_layCritical 86 = .ok (.getfield 38, 3) := by decide +kernel
theorem dX7_layCritical_89 : decode cX7_layCritical 89 = .ok (.iload_n 3, 1) := by decide +kernel
theorem dX7_layCritical_90 : decode cX7_layCritical 90 = .ok (.iload_n 2, 1) := by decide +kernel
theorem dX7_layCritical_91 : decode cX7_layCritical 91 = .ok (.iastore, 1) := by decide +kernel
theorem dX7_layCritical_92 : decode cX7_layCritical 92 = .ok (.iinc 1 1, 3) := by decide +kernel
theorem dX7_layCritical_95 : decode cX7_layCritical 95 = .ok (.iinc 2 1, 3) := by decide +kernel
theorem dX7_layCritical_98 : decode cX7_layCritical 98 = .ok (.goto (-90), 3) := by decide +kernel
theorem dX7_layCritical_101 : decode cX7_layCritical 101 = .ok (.iload_n 1, 1) := by decide +kernel
theorem dX7_layCritical_102 : decode cX7_layCritical 102 = .ok (.ireturn, 1) := by decide +kernel
theorem dX7_critical_0 : decode cX7_critical 0 = .ok (.aload_n 0, 1) := by decide +kernel
theorem dX7_critical_1 : decode cX7_critical 1 = .ok (.iload_n 1, 1) := by decide +kernel
theorem dX7_critical_2 : decode cX7_critical 2 = .ok (.ifCond .ge 7, 3) := by decide +kernel
theorem dX7_critical_5 : decode cX7_critical 5 = .ok (.iconst 1, 1) := by decide +kernel
theorem dX7_critical_6 : decode cX7_critical 6 = .ok (.goto 4, 3) := by decide +kernel
theorem dX7_critical_9 : decode cX7_critical 9 = .ok (.iconst 0, 1) := by decide +kernel
theorem dX7_critical_10 : decode cX7_critical 10 = .ok (.invokevirtual 60, 3) := by decide +kernel
theorem dX7_critical_13 : decode cX7_critical 13 = .ok (.ifCond .eq 5, 3) := by decide +kernel
theorem dX7_critical_16 : decode cX7_critical 16 = .ok (.iconst 0, 1) := by decide +kernel
theorem dX7_critical_17 : decode cX7_critical 17 = .ok (.ireturn, 1) := by decide +kernel
theorem dX7_critical_18 : decode cX7_critical 18 = .ok (.aload_n 0, 1) := by decide +kernel
theorem dX7_critical_19 : decode cX7_critical 19 = .ok (.invokevirtual 177, 3) := by decide +kernel
theorem dX7_critical_22 : decode cX7_critical 22 = .ok (.istore_n 2, 1) := by decide +kernel
theorem dX7_critical_23 : decode cX7_critical 23 = .ok (.iload_n 1, 1) := by decide +kernel
theorem dX7_critical_24 : decode cX7_critical 24 = .ok (.iload_n 2, 1) := by decide +kernel
theorem dX7_critical_25 : decode cX7_critical 25 = .ok (.if_icmp .ge 17, 3) := by decide +kernel
theorem dX7_critical_28 : decode cX7_critical 28 = .ok (.aload_n 0, 1) := by decide +kernel
theorem dX7_critical_29 : decode cX7_critical 29 = .ok (.aload_n 0, 1) := by decide +kernel
theorem dX7_critical_30 : decode cX7_critical 30 = .ok (.getfield 38, 3) := by decide +kernel
theorem dX7_critical_33 : decode cX7_critical 33 = .ok (.iload_n 1, 1) := by decide +kernel
theorem dX7_critical_34 : decode cX7_critical 34 = .ok (.iaload, 1) := by decide +kernel
theorem dX7_critical_35 : decode cX7_critical 35 = .ok (.iconst 0, 1) := by decide +kernel
theorem dX7_critical_36 : decode cX7_critical 36 = .ok (.invokevirtual 49, 3) := by decide +kernel
theorem dX7_critical_39 : decode cX7_critical 39 = .ok (.goto 4, 3) := by decide +kernel
theorem dX7_critical_42 : decode cX7_critical 42 = .ok (.iconst (-1), 1) := by decide +kernel
theorem dX7_critical_43 : decode cX7_critical 43 = .ok (.ireturn, 1) := by decide +kernel
theorem dX7_runningAt_0 : decode cX7_runningAt 0 = .ok (.iconst 0, 1) := by decide +kernel
theorem dX7_runningAt_1 : decode cX7_runningAt 1 = .ok (.istore_n 2, 1) := by decide +kernel
theorem dX7_runningAt_2 : decode cX7_runningAt 2 = .ok (.iconst 0, 1) := by decide +kernel
theorem dX7_runningAt_3 : decode cX7_runningAt 3 = .ok (.istore_n 3, 1) := by decide +kernel
theorem dX7_runningAt_4 : decode cX7_runningAt 4 = .ok (.iload_n 3, 1) := by decide +kernel
theorem dX7_runningAt_5 : decode cX7_runningAt 5 = .ok (.aload_n 0, 1) := by decide +kernel
theorem dX7_runningAt_6 : decode cX7_runningAt 6 = .ok (.getfield 7, 3) := by decide +kernel
theorem dX7_runningAt_9 : decode cX7_runningAt 9 = .ok (.iconst 0, 1) := by decide +kernel
theorem dX7_runningAt_10 : decode cX7_runningAt 10 = .ok (.iaload, 1) := by decide +kernel
theorem dX7_runningAt_11 : decode cX7_runningAt 11 = .ok (.if_icmp .ge 54, 3) := by decide +kernel
theorem dX7_runningAt_14 : decode cX7_runningAt 14 = .ok (.iload_n 2, 1) := by decide +kernel
theorem dX7_runningAt_15 : decode cX7_runningAt 15 = .ok (.aload_n 0, 1) := by decide +kernel
theorem dX7_runningAt_16 : decode cX7_runningAt 16 = .ok (.iload_n 3, 1) := by decide +kernel
theorem dX7_runningAt_17 : decode cX7_runningAt 17 = .ok (.iconst 1, 1) := by decide +kernel
theorem dX7_runningAt_18 : decode cX7_runningAt 18 = .ok (.invokevirtual 49, 3) := by decide +kernel
theorem dX7_runningAt_21 : decode cX7_runningAt 21 = .ok (.iconst 1, 1) := by decide +kernel
theorem dX7_runningAt_22 : decode cX7_runningAt 22 = .ok (.if_icmp .ne 34, 3) := by decide +kernel
theorem dX7_runningAt_25 : decode cX7_runningAt 25 = .ok (.aload_n 0, 1) := by decide +kernel
theorem dX7_runningAt_26 : decode cX7_runningAt 26 = .ok (.getfield 19, 3) := by decide +kernel
theorem dX7_runningAt_29 : decode cX7_runningAt 29 = .ok (.iload_n 3, 1) := by decide +kernel
theorem dX7_runningAt_30 : decode cX7_runningAt 30 = .ok (.iaload, 1) := by decide +kernel
theorem dX7_runningAt_31 : decode cX7_runningAt 31 = .ok (.iload_n 1, 1) := by decide +kernel
theorem dX7_runningAt_32 : decode cX7_runningAt 32 = .ok (.if_icmp .gt 24, 3) := by decide +kernel
theorem dX7_runningAt_35 : decode cX7_runningAt 35 = .ok (.iload_n 1, 1) := by decide +kernel
theorem dX7_runningAt_36 : decode cX7_runningAt 36 = .ok (.aload_n 0, 1) := by decide +kernel
theorem dX7_runningAt_37 : decode cX7_runningAt 37 = .ok (.getfield 19, 3) := by decide +kernel
theorem dX7_runningAt_40 : decode cX7_runningAt 40 = .ok (.iload_n 3, 1) := by decide +kernel
theorem dX7_runningAt_41 : decode cX7_runningAt 41 = .ok (.iaload, 1) := by decide +kernel
theorem dX7_runningAt_42 : decode cX7_runningAt 42 = .ok (.aload_n 0, 1) := by decide +kernel
theorem dX7_runningAt_43 : decode cX7_runningAt 43 = .ok (.getfield 16, 3) := by decide +kernel
theorem dX7_runningAt_46 : decode cX7_runningAt 46 = .ok (.iload_n 3, 1) := by decide +kernel
theorem dX7_runningAt_47 : decode cX7_runningAt 47 = .ok (.iaload, 1) := by decide +kernel
theorem dX7_runningAt_48 : decode cX7_runningAt 48 = .ok (.iadd, 1) := by decide +kernel
theorem dX7_runningAt_49 : decode cX7_runningAt 49 = .ok (.if_icmp .ge 7, 3) := by decide +kernel
theorem dX7_runningAt_52 : decode cX7_runningAt 52 = .ok (.iconst 1, 1) := by decide +kernel
theorem dX7_runningAt_53 : decode cX7_runningAt 53 = .ok (.goto 4, 3) := by decide +kernel
theorem dX7_runningAt_56 : decode cX7_runningAt 56 = .ok (.iconst 0, 1) := by decide +kernel
theorem dX7_runningAt_57 : decode cX7_runningAt 57 = .ok (.iadd, 1) := by decide +kernel
theorem dX7_runningAt_58 : decode cX7_runningAt 58 = .ok (.istore_n 2, 1) := by decide +kernel
theorem dX7_runningAt_59 : decode cX7_runningAt 59 = .ok (.iinc 3 1, 3) := by decide +kernel
theorem dX7_runningAt_62 : decode cX7_runningAt 62 = .ok (.goto (-58), 3) := by decide +kernel
theorem dX7_runningAt_65 : decode cX7_runningAt 65 = .ok (.iload_n 2, 1) := by decide +kernel
theorem dX7_runningAt_66 : decode cX7_runningAt 66 = .ok (.ireturn, 1) := by decide +kernel
theorem dX7_running_0 : decode cX7_running 0 = .ok (.aload_n 0, 1) := by decide +kernel
theorem dX7_running_1 : decode cX7_running 1 = .ok (.iload_n 1, 1) := by decide +kernel
theorem dX7_running_2 : decode cX7_running 2 = .ok (.ifCond .ge 7, 3) := by decide +kernel
theorem dX7_running_5 : decode cX7_running 5 = .ok (.iconst 1, 1) := by decide +kernel
theorem dX7_running_6 : decode cX7_running 6 = .ok (.goto 4, 3) := by decide +kernel
theorem dX7_running_9 : decode cX7_running 9 = .ok (.iconst 0, 1) := by decide +kernel
theorem dX7_running_10 : decode cX7_running 10 = .ok (.invokevirtual 60, 3) := by decide +kernel
theorem dX7_running_13 : decode cX7_running 13 = .ok (.ifCond .eq 5, 3) := by decide +kernel
theorem dX7_running_16 : decode cX7_running 16 = .ok (.iconst 0, 1) := by decide +kernel
theorem dX7_running_17 : decode cX7_running 17 = .ok (.ireturn, 1) := by decide +kernel
theorem dX7_running_18 : decode cX7_running 18 = .ok (.aload_n 0, 1) := by decide +kernel
theorem dX7_running_19 : decode cX7_running 19 = .ok (.invokevirtual 84, 3) := by decide +kernel
theorem dX7_running_22 : decode cX7_running 22 = .ok (.aload_n 0, 1) := by decide +kernel
theorem dX7_running_23 : decode cX7_running 23 = .ok (.iload_n 1, 1) := by decide +kernel
theorem dX7_running_24 : decode cX7_running 24 = .ok (.invokevirtual 180, 3) := by decide +kernel
theorem dX7_running_27 : decode cX7_running 27 = .ok (.ireturn, 1) := by decide +kernel
theorem dX7_wholeValue_0 : decode cX7_wholeValue 0 = .ok (.iconst 0, 1) := by decide +kernel
theorem dX7_wholeValue_1 : decode cX7_wholeValue 1 = .ok (.istore_n 2, 1) := by decide +kernel
theorem dX7_wholeValue_2 : decode cX7_wholeValue 2 = .ok (.iconst 0, 1) := by decide +kernel
theorem dX7_wholeValue_3 : decode cX7_wholeValue 3 = .ok (.istore_n 3, 1) := by decide +kernel
theorem dX7_wholeValue_4 : decode cX7_wholeValue 4 = .ok (.iconst 0, 1) := by decide +kernel
theorem dX7_wholeValue_5 : decode cX7_wholeValue 5 = .ok (.istore 4, 2) := by decide +kernel
theorem dX7_wholeValue_7 : decode cX7_wholeValue 7 = .ok (.iconst 0, 1) := by decide +kernel
theorem dX7_wholeValue_8 : decode cX7_wholeValue 8 = .ok (.istore 5, 2) := by decide +kernel
theorem dX7_wholeValue_10 : decode cX7_wholeValue 10 = .ok (.iconst 0, 1) := by decide +kernel
theorem dX7_wholeValue_11 : decode cX7_wholeValue 11 = .ok (.istore 6, 2) := by decide +kernel
theorem dX7_wholeValue_13 : decode cX7_wholeValue 13 = .ok (.iconst 0, 1) := by decide +kernel
theorem dX7_wholeValue_14 : decode cX7_wholeValue 14 = .ok (.istore 7, 2) := by decide +kernel
theorem dX7_wholeValue_16 : decode cX7_wholeValue 16 = .ok (.iload 7, 2) := by decide +kernel
theorem dX7_wholeValue_18 : decode cX7_wholeValue 18 = .ok (.aload_n 0, 1) := by decide +kernel
theorem dX7_wholeValue_19 : decode cX7_wholeValue 19 = .ok (.getfield 7, 3) := by decide +kernel
theorem dX7_wholeValue_22 : decode cX7_wholeValue 22 = .ok (.iconst 0, 1) := by decide +kernel
theorem dX7_wholeValue_23 : decode cX7_wholeValue 23 = .ok (.iaload, 1) := by decide +kernel
theorem dX7_wholeValue_24 : decode cX7_wholeValue 24 = .ok (.if_icmp .ge 138, 3) := by decide +kernel
theorem dX7_wholeValue_27 : decode cX7_wholeValue 27 = .ok (.aload_n 0, 1) := by decide +kernel
theorem dX7_wholeValue_28 : decode cX7_wholeValue 28 = .ok (.iload 7, 2) := by decide +kernel
theorem dX7_wholeValue_30 : decode cX7_wholeValue 30 = .ok (.iconst 1, 1) := by decide +kernel
theorem dX7_wholeValue_31 : decode cX7_wholeValue 31 = .ok (.invokevirtual 49, 3) := by decide +kernel
theorem dX7_wholeValue_34 : decode cX7_wholeValue 34 = .ok (.iconst 1, 1) := by decide +kernel
theorem dX7_wholeValue_35 : decode cX7_wholeValue 35 = .ok (.if_icmp .ne 7, 3) := by decide +kernel
theorem dX7_wholeValue_38 : decode cX7_wholeValue 38 = .ok (.iconst 1, 1) := by decide +kernel
theorem dX7_wholeValue_39 : decode cX7_wholeValue 39 = .ok (.goto 4, 3) := by decide +kernel
theorem dX7_wholeValue_42 : decode cX7_wholeValue 42 = .ok (.iconst 0, 1) := by decide +kernel
theorem dX7_wholeValue_43 : decode cX7_wholeValue 43 = .ok (.istore 8, 2) := by decide +kernel
theorem dX7_wholeValue_45 : decode cX7_wholeValue 45 = .ok (.iload_n 2, 1) := by decide +kernel
theorem dX7_wholeValue_46 : decode cX7_wholeValue 46 = .ok (.iload 8, 2) := by decide +kernel
theorem dX7_wholeValue_48 : decode cX7_wholeValue 48 = .ok (.ifCond .eq 7, 3) := by decide +kernel
theorem dX7_wholeValue_51 : decode cX7_wholeValue 51 = .ok (.iconst 1, 1) := by decide +kernel
theorem dX7_wholeValue_52 : decode cX7_wholeValue 52 = .ok (.goto 4, 3) := by decide +kernel
theorem dX7_wholeValue_55 : decode cX7_wholeValue 55 = .ok (.iconst 0, 1) := by decide +kernel
theorem dX7_wholeValue_56 : decode cX7_wholeValue 56 = .ok (.iadd, 1) := by decide +kernel
theorem dX7_wholeValue_57 : decode cX7_wholeValue 57 = .ok (.istore_n 2, 1) := by decide +kernel
theorem dX7_wholeValue_58 : decode cX7_wholeValue 58 = .ok (.iload_n 3, 1) := by decide +kernel
theorem dX7_wholeValue_59 : decode cX7_wholeValue 59 = .ok (.aload_n 0, 1) := by decide +kernel
theorem dX7_wholeValue_60 : decode cX7_wholeValue 60 = .ok (.iload 7, 2) := by decide +kernel
theorem dX7_wholeValue_62 : decode cX7_wholeValue 62 = .ok (.iconst 5, 1) := by decide +kernel
theorem dX7_wholeValue_63 : decode cX7_wholeValue 63 = .ok (.invokevirtual 49, 3) := by decide +kernel
theorem dX7_wholeValue_66 : decode cX7_wholeValue 66 = .ok (.iadd, 1) := by decide +kernel
theorem dX7_wholeValue_67 : decode cX7_wholeValue 67 = .ok (.istore_n 3, 1) := by decide +kernel
theorem dX7_wholeValue_68 : decode cX7_wholeValue 68 = .ok (.iload 4, 2) := by decide +kernel
theorem dX7_wholeValue_70 : decode cX7_wholeValue 70 = .ok (.aload_n 0, 1) := by decide +kernel
theorem dX7_wholeValue_71 : decode cX7_wholeValue 71 = .ok (.iload 7, 2) := by decide +kernel
theorem dX7_wholeValue_73 : decode cX7_wholeValue 73 = .ok (.bipush 6, 2) := by decide +kernel
theorem dX7_wholeValue_75 : decode cX7_wholeValue 75 = .ok (.invokevirtual 49, 3) := by decide +kernel
theorem dX7_wholeValue_78 : decode cX7_wholeValue 78 = .ok (.iadd, 1) := by decide +kernel
theorem dX7_wholeValue_79 : decode cX7_wholeValue 79 = .ok (.istore 4, 2) := by decide +kernel
theorem dX7_wholeValue_81 : decode cX7_wholeValue 81 = .ok (.aload_n 0, 1) := by decide +kernel
theorem dX7_wholeValue_82 : decode cX7_wholeValue 82 = .ok (.aload_n 0, 1) := by decide +kernel
theorem dX7_wholeValue_83 : decode cX7_wholeValue 83 = .ok (.getfield 19, 3) := by decide +kernel
theorem dX7_wholeValue_86 : decode cX7_wholeValue 86 = .ok (.iload 7, 2) := by decide +kernel
theorem dX7_wholeValue_88 : decode cX7_wholeValue 88 = .ok (.iaload, 1) := by decide +kernel
theorem dX7_wholeValue_89 : decode cX7_wholeValue 89 = .ok (.invokevirtual 180, 3) := by decide +kernel
theorem dX7_wholeValue_92 : decode cX7_wholeValue 92 = .ok (.istore 9, 2) := by decide +kernel
theorem dX7_wholeValue_94 : decode cX7_wholeValue 94 = .ok (.iload 9, 2) := by decide +kernel
theorem dX7_wholeValue_96 : decode cX7_wholeValue 96 = .ok (.iload 6, 2) := by decide +kernel
theorem dX7_wholeValue_98 : decode cX7_wholeValue 98 = .ok (.if_icmp .le 8, 3) := by decide +kernel
theorem dX7_wholeValue_101 : decode cX7_wholeValue 101 = .ok (.iload 9, 2) := by decide +kernel
theorem dX7_wholeValue_103 : decode cX7_wholeValue 103 = .ok (.goto 5, 3) := by decide +kernel
theorem dX7_wholeValue_106 : decode cX7_wholeValue 106 = .ok (.iload 6, 2) := by decide +kernel
theorem dX7_wholeValue_108 : decode cX7_wholeValue 108 = .ok (.istore 6, 2) := by decide +kernel
theorem dX7_wholeValue_110 : decode cX7_wholeValue 110 = .ok (.iconst 0, 1) := by decide +kernel
theorem dX7_wholeValue_111 : decode cX7_wholeValue 111 = .ok (.istore 10, 2) := by decide +kernel
theorem dX7_wholeValue_113 : decode cX7_wholeValue 113 = .ok (.iload 10, 2) := by decide +kernel
theorem dX7_wholeValue_115 : decode cX7_wholeValue 115 = .ok (.iconst 4, 1) := by decide +kernel
theorem dX7_wholeValue_116 : decode cX7_wholeValue 116 = .ok (.if_icmp .ge 40, 3) := by decide +kernel
theorem dX7_wholeValue_119 : decode cX7_wholeValue 119 = .ok (.iload 8, 2) := by decide +kernel
theorem dX7_wholeValue_121 : decode cX7_wholeValue 121 = .ok (.ifCond .ne 35, 3) := by decide +kernel
theorem dX7_wholeValue_124 : decode cX7_wholeValue 124 = .ok (.iload 5, 2) := by decide +kernel
theorem dX7_wholeValue_126 : decode cX7_wholeValue 126 = .ok (.aload_n 0, 1) := by decide +kernel
theorem dX7_wholeValue_127 : decode cX7_wholeValue 127 = .ok (.aload_n 0, 1) := by decide +kernel
theorem dX7_wholeValue_128 : decode cX7_wholeValue 128 = .ok (.iload 7, 2) := by decide +kernel
theorem dX7_wholeValue_130 : decode cX7_wholeValue 130 = .ok (.iconst 0, 1) := by decide +kernel
theorem dX7_wholeValue_131 : decode cX7_wholeValue 131 = .ok (.invokevirtual 49, 3) := by decide +kernel
theorem dX7_wholeValue_134 : decode cX7_wholeValue 134 = .ok (.iload 10, 2) := by decide +kernel
theorem dX7_wholeValue_136 : decode cX7_wholeValue 136 = .ok (.invokevirtual 168, 3) := by decide +kernel
theorem dX7_wholeValue_139 : decode cX7_wholeValue 139 = .ok (.ifCond .eq 7, 3) := by decide +kernel
theorem dX7_wholeValue_142 : decode cX7_wholeValue 142 = .ok (.iconst 1, 1) := by decide +kernel
theorem dX7_wholeValue_143 : decode cX7_wholeValue 143 = .ok (.goto 4, 3) := by decide +kernel
theorem dX7_wholeValue_146 : decode cX7_wholeValue 146 = .ok (.iconst 0, 1) := by decide +kernel
theorem dX7_wholeValue_147 : decode cX7_wholeValue 147 = .ok (.iadd, 1) := by decide +kernel
theorem dX7_wholeValue_148 : decode cX7_wholeValue 148 = .ok (.istore 5, 2) := by decide +kernel
theorem dX7_wholeValue_150 : decode cX7_wholeValue 150 = .ok (.iinc 10 1, 3) := by decide +kernel
theorem dX7_wholeValue_153 : decode cX7_wholeValue 153 = .ok (.goto (-40), 3) := by decide +kernel
theorem dX7_wholeValue_156 : decode cX7_wholeValue 156 = .ok (.iinc 7 1, 3) := by decide +kernel
theorem dX7_wholeValue_159 : decode cX7_wholeValue 159 = .ok (.goto (-143), 3) := by decide +kernel
theorem dX7_wholeValue_162 : decode cX7_wholeValue 162 = .ok (.iload_n 1, 1) := by decide +kernel
theorem dX7_wholeValue_163 : decode cX7_wholeValue 163 = .ok (.tableswitch 108 0 10 #[57, 64, 66, 73, 80, 85, 90, 93, 95, 98, 101], 57) := by decide +kernel
theorem dX7_wholeValue_220 : decode cX7_wholeValue 220 = .ok (.aload_n 0, 1) := by decide +kernel
theorem dX7_wholeValue_221 : decode cX7_wholeValue 221 = .ok (.getfield 7, 3) := by decide +kernel
theorem dX7_wholeValue_224 : decode cX7_wholeValue 224 = .ok (.iconst 0, 1) := by decide +kernel
theorem dX7_wholeValue_225 : decode cX7_wholeValue 225 = .ok (.iaload, 1) := by decide +kernel
theorem dX7_wholeValue_226 : decode cX7_wholeValue 226 = .ok (.ireturn, 1) := by decide +kernel
theorem dX7_wholeValue_227 : decode cX7_wholeValue 227 = .ok (.iload_n 2, 1) := by decide +kernel
theorem dX7_wholeValue_228 : decode cX7_wholeValue 228 = .ok (.ireturn, 1) := by decide +kernel
theorem dX7_wholeValue_229 : decode cX7_wholeValue 229 = .ok (.aload_n 0, 1) := by decide +kernel
theorem dX7_wholeValue_230 : decode cX7_wholeValue 230 = .ok (.getfield 16, 3) := by decide +kernel
theorem dX7_wholeValue_233 : decode cX7_wholeValue 233 = .ok (.iconst 0, 1) := by decide +kernel
theorem dX7_wholeValue_234 : decode cX7_wholeValue 234 = .ok (.iaload, 1) := by decide +kernel
theorem dX7_wholeValue_235 : decode cX7_wholeValue 235 = .ok (.ireturn, 1) := by decide +kernel
theorem dX7_wholeValue_236 : decode cX7_wholeValue 236 = .ok (.aload_n 0, 1) := by decide +kernel
theorem dX7_wholeValue_237 : decode cX7_wholeValue 237 = .ok (.getfield 7, 3) := by decide +kernel
theorem dX7_wholeValue_240 : decode cX7_wholeValue 240 = .ok (.iconst 2, 1) := by decide +kernel
theorem dX7_wholeValue_241 : decode cX7_wholeValue 241 = .ok (.iaload, 1) := by decide +kernel
theorem dX7_wholeValue_242 : decode cX7_wholeValue 242 = .ok (.ireturn, 1) := by decide +kernel
theorem dX7_wholeValue_243 : decode cX7_wholeValue 243 = .ok (.aload_n 0, 1) := by decide +kernel
theorem dX7_wholeValue_244 : decode cX7_wholeValue 244 = .ok (.invokevirtual 162, 3) := by decide +kernel
theorem dX7_wholeValue_247 : decode cX7_wholeValue 247 = .ok (.ireturn, 1) := by decide +kernel
theorem dX7_wholeValue_248 : decode cX7_wholeValue 248 = .ok (.aload_n 0, 1) := by decide +kernel
theorem dX7_wholeValue_249 : decode cX7_wholeValue 249 = .ok (.invokevirtual 177, 3) := by decide +kernel
theorem dX7_wholeValue_252 : decode cX7_wholeValue 252 = .ok (.ireturn, 1) := by decide +kernel
theorem dX7_wholeValue_253 : decode cX7_wholeValue 253 = .ok (.iload 5, 2) := by decide +kernel
theorem dX7_wholeValue_255 : decode cX7_wholeValue 255 = .ok (.ireturn, 1) := by decide +kernel
theorem dX7_wholeValue_256 : decode cX7_wholeValue 256 = .ok (.iload_n 3, 1) := by decide +kernel
theorem dX7_wholeValue_257 : decode cX7_wholeValue 257 = .ok (.ireturn, 1) := by decide +kernel
theorem dX7_wholeValue_258 : decode cX7_wholeValue 258 = .ok (.iload 4, 2) := by decide +kernel
theorem dX7_wholeValue_260 : decode cX7_wholeValue 260 = .ok (.ireturn, 1) := by decide +kernel
theorem dX7_wholeValue_261 : decode cX7_wholeValue 261 = .ok (.iload 6, 2) := by decide +kernel
theorem dX7_wholeValue_263 : decode cX7_wholeValue 263 = .ok (.ireturn, 1) := by decide +kernel
theorem dX7_wholeValue_264 : decode cX7_wholeValue 264 = .ok (.aload_n 0, 1) := by decide +kernel
theorem dX7_wholeValue_265 : decode cX7_wholeValue 265 = .ok (.getfield 7, 3) := by decide +kernel
theorem dX7_wholeValue_268 : decode cX7_wholeValue 268 = .ok (.iconst 1, 1) := by decide +kernel
theorem dX7_wholeValue_269 : decode cX7_wholeValue 269 = .ok (.iaload, 1) := by decide +kernel
theorem dX7_wholeValue_270 : decode cX7_wholeValue 270 = .ok (.ireturn, 1) := by decide +kernel
theorem dX7_wholeValue_271 : decode cX7_wholeValue 271 = .ok (.aload_n 0, 1) := by decide +kernel
theorem dX7_wholeValue_272 : decode cX7_wholeValue 272 = .ok (.getfield 183, 3) := by decide +kernel
theorem dX7_wholeValue_275 : decode cX7_wholeValue 275 = .ok (.ireturn, 1) := by decide +kernel
theorem dX7_whole_0 : decode cX7_whole 0 = .ok (.aload_n 0, 1) := by decide +kernel
theorem dX7_whole_1 : decode cX7_whole 1 = .ok (.iload_n 1, 1) := by decide +kernel
theorem dX7_whole_2 : decode cX7_whole 2 = .ok (.iconst 0, 1) := by decide +kernel
theorem dX7_whole_3 : decode cX7_whole 3 = .ok (.bipush 11, 2) := by decide +kernel
theorem dX7_whole_5 : decode cX7_whole 5 = .ok (.invokestatic 91, 3) := by decide +kernel
theorem dX7_whole_8 : decode cX7_whole 8 = .ok (.ifCond .eq 7, 3) := by decide +kernel
theorem dX7_whole_11 : decode cX7_whole 11 = .ok (.iconst 0, 1) := by decide +kernel
theorem dX7_whole_12 : decode cX7_whole 12 = .ok (.goto 4, 3) := by decide +kernel
theorem dX7_whole_15 : decode cX7_whole 15 = .ok (.iconst 1, 1) := by decide +kernel
theorem dX7_whole_16 : decode cX7_whole 16 = .ok (.invokevirtual 60, 3) := by decide +kernel
theorem dX7_whole_19 : decode cX7_whole 19 = .ok (.ifCond .eq 5, 3) := by decide +kernel
theorem dX7_whole_22 : decode cX7_whole 22 = .ok (.iconst 0, 1) := by decide +kernel
theorem dX7_whole_23 : decode cX7_whole 23 = .ok (.ireturn, 1) := by decide +kernel
theorem dX7_whole_24 : decode cX7_whole 24 = .ok (.aload_n 0, 1) := by decide +kernel
theorem dX7_whole_25 : decode cX7_whole 25 = .ok (.invokevirtual 84, 3) := by decide +kernel
theorem dX7_whole_28 : decode cX7_whole 28 = .ok (.aload_n 0, 1) := by decide +kernel
theorem dX7_whole_29 : decode cX7_whole 29 = .ok (.iload_n 1, 1) := by decide +kernel
theorem dX7_whole_30 : decode cX7_whole 30 = .ok (.invokevirtual 186, 3) := by decide +kernel
theorem dX7_whole_33 : decode cX7_whole 33 = .ok (.ireturn, 1) := by decide +kernel
theorem dX7_putAside_0 : decode cX7_putAside 0 = .ok (.aload_n 0, 1) := by decide +kernel
theorem dX7_putAside_1 : decode cX7_putAside 1 = .ok (.iconst 0, 1) := by decide +kernel
theorem dX7_putAside_2 : decode cX7_putAside 2 = .ok (.sipush 855, 3) := by decide +kernel
theorem dX7_putAside_5 : decode cX7_putAside 5 = .ok (.invokevirtual 45, 3) := by decide +kernel
theorem dX7_putAside_8 : decode cX7_putAside 8 = .ok (.return_, 1) := by decide +kernel
theorem dX7_comesBack_0 : decode cX7_comesBack 0 = .ok (.aload_n 0, 1) := by decide +kernel
theorem dX7_comesBack_1 : decode cX7_comesBack 1 = .ok (.sipush 855, 3) := by decide +kernel
theorem dX7_comesBack_4 : decode cX7_comesBack 4 = .ok (.iconst 0, 1) := by decide +kernel
theorem dX7_comesBack_5 : decode cX7_comesBack 5 = .ok (.invokevirtual 45, 3) := by decide +kernel
theorem dX7_comesBack_8 : decode cX7_comesBack 8 = .ok (.return_, 1) := by decide +kernel
theorem dX7_endBy_0 : decode cX7_endBy 0 = .ok (.aload_n 0, 1) := by decide +kernel
theorem dX7_endBy_1 : decode cX7_endBy 1 = .ok (.invokevirtual 189, 3) := by decide +kernel
theorem dX7_endBy_4 : decode cX7_endBy 4 = .ok (.aload_n 0, 1) := by decide +kernel
theorem dX7_endBy_5 : decode cX7_endBy 5 = .ok (.iload_n 1, 1) := by decide +kernel
theorem dX7_endBy_6 : decode cX7_endBy 6 = .ok (.iload_n 2, 1) := by decide +kernel
theorem dX7_endBy_7 : decode cX7_endBy 7 = .ok (.invokevirtual 144, 3) := by decide +kernel
theorem dX7_endBy_10 : decode cX7_endBy 10 = .ok (.aload_n 0, 1) := by decide +kernel
theorem dX7_endBy_11 : decode cX7_endBy 11 = .ok (.invokevirtual 87, 3) := by decide +kernel
theorem dX7_endBy_14 : decode cX7_endBy 14 = .ok (.istore_n 3, 1) := by decide +kernel
theorem dX7_endBy_15 : decode cX7_endBy 15 = .ok (.aload_n 0, 1) := by decide +kernel
theorem dX7_endBy_16 : decode cX7_endBy 16 = .ok (.invokevirtual 192, 3) := by decide +kernel
theorem dX7_endBy_19 : decode cX7_endBy 19 = .ok (.iload_n 3, 1) := by decide +kernel
theorem dX7_endBy_20 : decode cX7_endBy 20 = .ok (.ireturn, 1) := by decide +kernel
theorem dX7_endWith_0 : decode cX7_endWith 0 = .ok (.aload_n 0, 1) := by decide +kernel
theorem dX7_endWith_1 : decode cX7_endWith 1 = .ok (.aload_n 0, 1) := by decide +kernel
theorem dX7_endWith_2 : decode cX7_endWith 2 = .ok (.iload_n 1, 1) := by decide +kernel
theorem dX7_endWith_3 : decode cX7_endWith 3 = .ok (.iload_n 2, 1) := by decide +kernel
theorem dX7_endWith_4 : decode cX7_endWith 4 = .ok (.iconst 0, 1) := by decide +kernel
theorem dX7_endWith_5 : decode cX7_endWith 5 = .ok (.bipush 60, 2) := by decide +kernel
theorem dX7_endWith_7 : decode cX7_endWith 7 = .ok (.invokestatic 91, 3) := by decide +kernel
theorem dX7_endWith_10 : decode cX7_endWith 10 = .ok (.invokevirtual 140, 3) := by decide +kernel
theorem dX7_endWith_13 : decode cX7_endWith 13 = .ok (.invokevirtual 60, 3) := by decide +kernel
theorem dX7_endWith_16 : decode cX7_endWith 16 = .ok (.ifCond .eq 5, 3) := by decide +kernel
theorem dX7_endWith_19 : decode cX7_endWith 19 = .ok (.iconst 0, 1) := by decide +kernel
theorem dX7_endWith_20 : decode cX7_endWith 20 = .ok (.ireturn, 1) := by decide +kernel
theorem dX7_endWith_21 : decode cX7_endWith 21 = .ok (.aload_n 0, 1) := by decide +kernel
theorem dX7_endWith_22 : decode cX7_endWith 22 = .ok (.iload_n 1, 1) := by decide +kernel
theorem dX7_endWith_23 : decode cX7_endWith 23 = .ok (.iload_n 2, 1) := by decide +kernel
theorem dX7_endWith_24 : decode cX7_endWith 24 = .ok (.invokevirtual 195, 3) := by decide +kernel
theorem dX7_endWith_27 : decode cX7_endWith 27 = .ok (.ireturn, 1) := by decide +kernel
theorem dX7_growsTo_0 : decode cX7_growsTo 0 = .ok (.aload_n 0, 1) := by decide +kernel
theorem dX7_growsTo_1 : decode cX7_growsTo 1 = .ok (.aload_n 0, 1) := by decide +kernel
theorem dX7_growsTo_2 : decode cX7_growsTo 2 = .ok (.iload_n 1, 1) := by decide +kernel
theorem dX7_growsTo_3 : decode cX7_growsTo 3 = .ok (.iconst 1, 1) := by decide +kernel
theorem dX7_growsTo_4 : decode cX7_growsTo 4 = .ok (.invokevirtual 140, 3) := by decide +kernel
theorem dX7_growsTo_7 : decode cX7_growsTo 7 = .ok (.invokevirtual 134, 3) := by decide +kernel
theorem dX7_growsTo_10 : decode cX7_growsTo 10 = .ok (.ifCond .eq 5, 3) := by decide +kernel
theorem dX7_growsTo_13 : decode cX7_growsTo 13 = .ok (.iconst 0, 1) := by decide +kernel
theorem dX7_growsTo_14 : decode cX7_growsTo 14 = .ok (.ireturn, 1) := by decide +kernel
theorem dX7_growsTo_15 : decode cX7_growsTo 15 = .ok (.aload_n 0, 1) := by decide +kernel
theorem dX7_growsTo_16 : decode cX7_growsTo 16 = .ok (.invokevirtual 87, 3) := by decide +kernel
theorem dX7_growsTo_19 : decode cX7_growsTo 19 = .ok (.istore_n 2, 1) := by decide +kernel
theorem dX7_growsTo_20 : decode cX7_growsTo 20 = .ok (.bipush 60, 2) := by decide +kernel
theorem dX7_growsTo_22 : decode cX7_growsTo 22 = .ok (.istore_n 3, 1) := by decide +kernel
theorem dX7_growsTo_23 : decode cX7_growsTo 23 = .ok (.aload_n 0, 1) := by decide +kernel
theorem dX7_growsTo_24 : decode cX7_growsTo 24 = .ok (.iload_n 1, 1) := by decide +kernel
theorem dX7_growsTo_25 : decode cX7_growsTo 25 = .ok (.iload_n 3, 1) := by decide +kernel
theorem dX7_growsTo_26 : decode cX7_growsTo 26 = .ok (.invokevirtual 195, 3) := by decide +kernel
theorem dX7_growsTo_29 : decode cX7_growsTo 29 = .ok (.iload_n 2, 1) := by decide +kernel
theorem dX7_growsTo_30 : decode cX7_growsTo 30 = .ok (.if_icmp .le 9, 3) := by decide +kernel
theorem dX7_growsTo_33 : decode cX7_growsTo 33 = .ok (.iinc 3 (-1), 3) := by decide +kernel
theorem dX7_growsTo_36 : decode cX7_growsTo 36 = .ok (.goto (-13), 3) := by decide +kernel
theorem dX7_growsTo_39 : decode cX7_growsTo 39 = .ok (.iload_n 3, 1) := by decide +kernel
theorem dX7_growsTo_40 : decode cX7_growsTo 40 = .ok (.ireturn, 1) := by decide +kernel
theorem dX7_cutTask_0 : decode cX7_cutTask 0 = .ok (.aload_n 0, 1) := by decide +kernel
theorem dX7_cutTask_1 : decode cX7_cutTask 1 = .ok (.invokevirtual 87, 3) := by decide +kernel
theorem dX7_cutTask_4 : decode cX7_cutTask 4 = .ok (.istore_n 1, 1) := by decide +kernel
theorem dX7_cutTask_5 : decode cX7_cutTask 5 = .ok (.iconst 0, 1) := by decide +kernel
theorem dX7_cutTask_6 : decode cX7_cutTask 6 = .ok (.istore_n 2, 1) := by decide +kernel
theorem dX7_cutTask_7 : decode cX7_cutTask 7 = .ok (.iload_n 2, 1) := by decide +kernel
theorem dX7_cutTask_8 : decode cX7_cutTask 8 = .ok (.aload_n 0, 1) := by decide +kernel
theorem dX7_cutTask_9 : decode cX7_cutTask 9 = .ok (.getfield 7, 3) := by decide +kernel
theorem dX7_cutTask_12 : decode cX7_cutTask 12 = .ok (.iconst 0, 1) := by decide +kernel
theorem dX7_cutTask_13 : decode cX7_cutTask 13 = .ok (.iaload, 1) := by decide +kernel
theorem dX7_cutTask_14 : decode cX7_cutTask 14 = .ok (.if_icmp .ge 54, 3) := by decide +kernel
theorem dX7_cutTask_17 : decode cX7_cutTask 17 = .ok (.aload_n 0, 1) := by decide +kernel
theorem dX7_cutTask_18 : decode cX7_cutTask 18 = .ok (.iload_n 2, 1) := by decide +kernel
theorem dX7_cutTask_19 : decode cX7_cutTask 19 = .ok (.iconst 5, 1) := by decide +kernel
theorem dX7_cutTask_20 : decode cX7_cutTask 20 = .ok (.invokevirtual 49, 3) := by decide +kernel
theorem dX7_cutTask_23 : decode cX7_cutTask 23 = .ok (.istore_n 3, 1) := by decide +kernel
theorem dX7_cutTask_24 : decode cX7_cutTask 24 = .ok (.aload_n 0, 1) := by decide +kernel
theorem dX7_cutTask_25 : decode cX7_cutTask 25 = .ok (.iload_n 2, 1) := by decide +kernel
theorem dX7_cutTask_26 : decode cX7_cutTask 26 = .ok (.iconst 1, 1) := by decide +kernel
theorem dX7_cutTask_27 : decode cX7_cutTask 27 = .ok (.invokevirtual 49, 3) := by decide +kernel
theorem dX7_cutTask_30 : decode cX7_cutTask 30 = .ok (.iconst 1, 1) := by decide +kernel
theorem dX7_cutTask_31 : decode cX7_cutTask 31 = .ok (.if_icmp .ne 31, 3) := by decide +kernel
theorem dX7_cutTask_34 : decode cX7_cutTask 34 = .ok (.iload_n 3, 1) := by decide +kernel
theorem dX7_cutTask_35 : decode cX7_cutTask 35 = .ok (.ifCond .le 27, 3) := by decide +kernel
theorem dX7_cutTask_38 : decode cX7_cutTask 38 = .ok (.aload_n 0, 1) := by decide +kernel
theorem dX7_cutTask_39 : decode cX7_cutTask 39 = .ok (.aload_n 0, 1) := by decide +kernel
theorem dX7_cutTask_40 : decode cX7_cutTask 40 = .ok (.iload_n 2, 1) := by decide +kernel
theorem dX7_cutTask_41 : decode cX7_cutTask 41 = .ok (.iconst 0, 1) := by decide +kernel
theorem dX7_cutTask_42 : decode cX7_cutTask 42 = .ok (.invokevirtual 49, 3) := by decide +kernel
theorem dX7_cutTask_45 : decode cX7_cutTask 45 = .ok (.iload_n 3, 1) := by decide +kernel
theorem dX7_cutTask_46 : decode cX7_cutTask 46 = .ok (.iconst 1, 1) := by decide +kernel
theorem dX7_cutTask_47 : decode cX7_cutTask 47 = .ok (.isub, 1) := by decide +kernel
theorem dX7_cutTask_48 : decode cX7_cutTask 48 = .ok (.invokevirtual 195, 3) := by decide +kernel
theorem dX7_cutTask_51 : decode cX7_cutTask 51 = .ok (.iload_n 1, 1) := by decide +kernel
theorem dX7_cutTask_52 : decode cX7_cutTask 52 = .ok (.if_icmp .ge 10, 3) := by decide +kernel
theorem dX7_cutTask_55 : decode cX7_cutTask 55 = .ok (.aload_n 0, 1) := by decide +kernel
theorem dX7_cutTask_56 : decode cX7_cutTask 56 = .ok (.iload_n 2, 1) := by decide +kernel
theorem dX7_cutTask_57 : decode cX7_cutTask 57 = .ok (.iconst 0, 1) := by decide +kernel
theorem dX7_cutTask_58 : decode cX7_cutTask 58 = .ok (.invokevirtual 49, 3) := by decide +kernel
theorem dX7_cutTask_61 : decode cX7_cutTask 61 = .ok (.ireturn, 1) := by decide +kernel
theorem dX7_cutTask_62 : decode cX7_cutTask 62 = .ok (.iinc 2 1, 3) := by decide +kernel
theorem dX7_cutTask_65 : decode cX7_cutTask 65 = .ok (.goto (-58), 3) := by decide +kernel
theorem dX7_cutTask_68 : decode cX7_cutTask 68 = .ok (.iconst (-1), 1) := by decide +kernel
theorem dX7_cutTask_69 : decode cX7_cutTask 69 = .ok (.ireturn, 1) := by decide +kernel
theorem dX7_bestCut_0 : decode cX7_bestCut 0 = .ok (.aload_n 0, 1) := by decide +kernel
theorem dX7_bestCut_1 : decode cX7_bestCut 1 = .ok (.iconst 0, 1) := by decide +kernel
theorem dX7_bestCut_2 : decode cX7_bestCut 2 = .ok (.putfield 57, 3) := by decide +kernel
theorem dX7_bestCut_5 : decode cX7_bestCut 5 = .ok (.aload_n 0, 1) := by decide +kernel
theorem dX7_bestCut_6 : decode cX7_bestCut 6 = .ok (.invokevirtual 198, 3) := by decide +kernel
theorem dX7_bestCut_9 : decode cX7_bestCut 9 = .ok (.ireturn, 1) := by decide +kernel
theorem dX7_slackIf_0 : decode cX7_slackIf 0 = .ok (.aload_n 0, 1) := by decide +kernel
theorem dX7_slackIf_1 : decode cX7_slackIf 1 = .ok (.aload_n 0, 1) := by decide +kernel
theorem dX7_slackIf_2 : decode cX7_slackIf 2 = .ok (.iload_n 1, 1) := by decide +kernel
theorem dX7_slackIf_3 : decode cX7_slackIf 3 = .ok (.invokevirtual 53, 3) := by decide +kernel
theorem dX7_slackIf_6 : decode cX7_slackIf 6 = .ok (.iconst (-1), 1) := by decide +kernel
theorem dX7_slackIf_7 : decode cX7_slackIf 7 = .ok (.if_icmp .ne 7, 3) := by decide +kernel
theorem dX7_slackIf_10 : decode cX7_slackIf 10 = .ok (.iconst 1, 1) := by decide +kernel
theorem dX7_slackIf_11 : decode cX7_slackIf 11 = .ok (.goto 9, 3) := by decide +kernel
theorem dX7_slackIf_14 : decode cX7_slackIf 14 = .ok (.aload_n 0, 1) := by decide +kernel
theorem dX7_slackIf_15 : decode cX7_slackIf 15 = .ok (.iload_n 2, 1) := by decide +kernel
theorem dX7_slackIf_16 : decode cX7_slackIf 16 = .ok (.iconst 1, 1) := by decide +kernel
theorem dX7_slackIf_17 : decode cX7_slackIf 17 = .ok (.invokevirtual 140, 3) := by decide +kernel
theorem dX7_slackIf_20 : decode cX7_slackIf 20 = .ok (.invokevirtual 134, 3) := by decide +kernel
theorem dX7_slackIf_23 : decode cX7_slackIf 23 = .ok (.ifCond .eq 5, 3) := by decide +kernel
theorem dX7_slackIf_26 : decode cX7_slackIf 26 = .ok (.iconst 0, 1) := by decide +kernel
theorem dX7_slackIf_27 : decode cX7_slackIf 27 = .ok (.ireturn, 1) := by decide +kernel
theorem dX7_slackIf_28 : decode cX7_slackIf 28 = .ok (.aload_n 0, 1) := by decide +kernel
theorem dX7_slackIf_29 : decode cX7_slackIf 29 = .ok (.iload_n 2, 1) := by decide +kernel
theorem dX7_slackIf_30 : decode cX7_slackIf 30 = .ok (.invokevirtual 147, 3) := by decide +kernel
theorem dX7_slackIf_33 : decode cX7_slackIf 33 = .ok (.istore_n 3, 1) := by decide +kernel
theorem dX7_slackIf_34 : decode cX7_slackIf 34 = .ok (.aload_n 0, 1) := by decide +kernel
theorem dX7_slackIf_35 : decode cX7_slackIf 35 = .ok (.invokevirtual 189, 3) := by decide +kernel
theorem dX7_slackIf_38 : decode cX7_slackIf 38 = .ok (.aload_n 0, 1) := by decide +kernel
theorem dX7_slackIf_39 : decode cX7_slackIf 39 = .ok (.iload_n 2, 1) := by decide +kernel
theorem dX7_slackIf_40 : decode cX7_slackIf 40 = .ok (.iload_n 3, 1) := by decide +kernel
theorem dX7_slackIf_41 : decode cX7_slackIf 41 = .ok (.invokevirtual 153, 3) := by decide +kernel
theorem dX7_slackIf_44 : decode cX7_slackIf 44 = .ok (.pop, 1) := by decide +kernel
theorem dX7_slackIf_45 : decode cX7_slackIf 45 = .ok (.aload_n 0, 1) := by decide +kernel
theorem dX7_slackIf_46 : decode cX7_slackIf 46 = .ok (.iload_n 1, 1) := by decide +kernel
theorem dX7_slackIf_47 : decode cX7_slackIf 47 = .ok (.invokevirtual 147, 3) := by decide +kernel
theorem dX7_slackIf_50 : decode cX7_slackIf 50 = .ok (.istore 4, 2) := by decide +kernel
theorem dX7_slackIf_52 : decode cX7_slackIf 52 = .ok (.aload_n 0, 1) := by decide +kernel
theorem dX7_slackIf_53 : decode cX7_slackIf 53 = .ok (.invokevirtual 192, 3) := by decide +kernel
theorem dX7_slackIf_56 : decode cX7_slackIf 56 = .ok (.iload 4, 2) := by decide +kernel
theorem dX7_slackIf_58 : decode cX7_slackIf 58 = .ok (.ireturn, 1) := by decide +kernel
theorem dX7_reason_0 : decode cX7_reason 0 = .ok (.aload_n 0, 1) := by decide +kernel
theorem dX7_reason_1 : decode cX7_reason 1 = .ok (.aload_n 0, 1) := by decide +kernel
theorem dX7_reason_2 : decode cX7_reason 2 = .ok (.iload_n 1, 1) := by decide +kernel
theorem dX7_reason_3 : decode cX7_reason 3 = .ok (.invokevirtual 53, 3) := by decide +kernel
theorem dX7_reason_6 : decode cX7_reason 6 = .ok (.iconst (-1), 1) := by decide +kernel
theorem dX7_reason_7 : decode cX7_reason 7 = .ok (.if_icmp .eq 12, 3) := by decide +kernel
theorem dX7_reason_10 : decode cX7_reason 10 = .ok (.aload_n 0, 1) := by decide +kernel
theorem dX7_reason_11 : decode cX7_reason 11 = .ok (.iload_n 2, 1) := by decide +kernel
theorem dX7_reason_12 : decode cX7_reason 12 = .ok (.invokevirtual 53, 3) := by decide +kernel
theorem dX7_reason_15 : decode cX7_reason 15 = .ok (.iconst (-1), 1) := by decide +kernel
theorem dX7_reason_16 : decode cX7_reason 16 = .ok (.if_icmp .ne 7, 3) := by decide +kernel
theorem dX7_reason_19 : decode cX7_reason 19 = .ok (.iconst 1, 1) := by decide +kernel
theorem dX7_reason_20 : decode cX7_reason 20 = .ok (.goto 4, 3) := by decide +kernel
theorem dX7_reason_23 : decode cX7_reason 23 = .ok (.iconst 0, 1) := by decide +kernel
theorem dX7_reason_24 : decode cX7_reason 24 = .ok (.invokevirtual 60, 3) := by decide +kernel
theorem dX7_reason_27 : decode cX7_reason 27 = .ok (.ifCond .eq 5, 3) := by decide +kernel
theorem dX7_reason_30 : decode cX7_reason 30 = .ok (.iconst 0, 1) := by decide +kernel
theorem dX7_reason_31 : decode cX7_reason 31 = .ok (.ireturn, 1) := by decide +kernel
theorem dX7_reason_32 : decode cX7_reason 32 = .ok (.aload_n 0, 1) := by decide +kernel
theorem dX7_reason_33 : decode cX7_reason 33 = .ok (.iload_n 1, 1) := by decide +kernel
theorem dX7_reason_34 : decode cX7_reason 34 = .ok (.iload_n 2, 1) := by decide +kernel
theorem dX7_reason_35 : decode cX7_reason 35 = .ok (.invokevirtual 119, 3) := by decide +kernel
theorem dX7_reason_38 : decode cX7_reason 38 = .ok (.ireturn, 1) := by decide +kernel
theorem dX7_type_0 : decode cX7_type 0 = .ok (.aload_n 0, 1) := by decide +kernel
theorem dX7_type_1 : decode cX7_type 1 = .ok (.iload_n 1, 1) := by decide +kernel
theorem dX7_type_2 : decode cX7_type 2 = .ok (.iconst 0, 1) := by decide +kernel
theorem dX7_type_3 : decode cX7_type 3 = .ok (.bipush 127, 2) := by decide +kernel
theorem dX7_type_5 : decode cX7_type 5 = .ok (.invokestatic 91, 3) := by decide +kernel
theorem dX7_type_8 : decode cX7_type 8 = .ok (.ifCond .ne 7, 3) := by decide +kernel
theorem dX7_type_11 : decode cX7_type 11 = .ok (.iconst 1, 1) := by decide +kernel
theorem dX7_type_12 : decode cX7_type 12 = .ok (.goto 18, 3) := by decide +kernel
theorem dX7_type_15 : decode cX7_type 15 = .ok (.aload_n 0, 1) := by decide +kernel
theorem dX7_type_16 : decode cX7_type 16 = .ok (.getfield 183, 3) := by decide +kernel
theorem dX7_type_19 : decode cX7_type 19 = .ok (.sipush 150, 3) := by decide +kernel
theorem dX7_type_22 : decode cX7_type 22 = .ok (.if_icmp .ne 7, 3) := by decide +kernel
theorem dX7_type_25 : decode cX7_type 25 = .ok (.iconst 2, 1) := by decide +kernel
theorem dX7_type_26 : decode cX7_type 26 = .ok (.goto 4, 3) := by decide +kernel
theorem dX7_type_29 : decode cX7_type 29 = .ok (.iconst 0, 1) := by decide +kernel
theorem dX7_type_30 : decode cX7_type 30 = .ok (.invokevirtual 60, 3) := by decide +kernel
theorem dX7_type_33 : decode cX7_type 33 = .ok (.ifCond .eq 5, 3) := by decide +kernel
theorem dX7_type_36 : decode cX7_type 36 = .ok (.iconst 0, 1) := by decide +kernel
theorem dX7_type_37 : decode cX7_type 37 = .ok (.ireturn, 1) := by decide +kernel
theorem dX7_type_38 : decode cX7_type 38 = .ok (.aload_n 0, 1) := by decide +kernel
theorem dX7_type_39 : decode cX7_type 39 = .ok (.getfield 13, 3) := by decide +kernel
theorem dX7_type_42 : decode cX7_type 42 = .ok (.aload_n 0, 1) := by decide +kernel
theorem dX7_type_43 : decode cX7_type 43 = .ok (.getfield 183, 3) := by decide +kernel
theorem dX7_type_46 : decode cX7_type 46 = .ok (.iload_n 1, 1) := by decide +kernel
theorem dX7_type_47 : decode cX7_type 47 = .ok (.iastore, 1) := by decide +kernel
theorem dX7_type_48 : decode cX7_type 48 = .ok (.aload_n 0, 1) := by decide +kernel
theorem dX7_type_49 : decode cX7_type 49 = .ok (.dup, 1) := by decide +kernel
theorem dX7_type_50 : decode cX7_type 50 = .ok (.getfield 183, 3) := by decide +kernel
theorem dX7_type_53 : decode cX7_type 53 = .ok (.iconst 1, 1) := by decide +kernel
theorem dX7_type_54 : decode cX7_type 54 = .ok (.iadd, 1) := by decide +kernel
theorem dX7_type_55 : decode cX7_type 55 = .ok (.putfield 183, 3) := by decide +kernel
theorem dX7_type_58 : decode cX7_type 58 = .ok (.aload_n 0, 1) := by decide +kernel
theorem dX7_type_59 : decode cX7_type 59 = .ok (.getfield 183, 3) := by decide +kernel
theorem dX7_type_62 : decode cX7_type 62 = .ok (.ireturn, 1) := by decide +kernel
theorem dX7_clearCommands_0 : decode cX7_clearCommands 0 = .ok (.aload_n 0, 1) := by decide +kernel
theorem dX7_clearCommands_1 : decode cX7_clearCommands 1 = .ok (.iconst 0, 1) := by decide +kernel
theorem dX7_clearCommands_2 : decode cX7_clearCommands 2 = .ok (.putfield 57, 3) := by decide +kernel
theorem dX7_clearCommands_5 : decode cX7_clearCommands 5 = .ok (.aload_n 0, 1) := by decide +kernel
theorem dX7_clearCommands_6 : decode cX7_clearCommands 6 = .ok (.getfield 183, 3) := by decide +kernel
theorem dX7_clearCommands_9 : decode cX7_clearCommands 9 = .ok (.istore_n 1, 1) := by decide +kernel
theorem dX7_clearCommands_10 : decode cX7_clearCommands 10 = .ok (.aload_n 0, 1) := by decide +kernel
theorem dX7_clearCommands_11 : decode cX7_clearCommands 11 = .ok (.iconst 0, 1) := by decide +kernel
theorem dX7_clearCommands_12 : decode cX7_clearCommands 12 = .ok (.putfield 183, 3) := by decide +kernel
theorem dX7_clearCommands_15 : decode cX7_clearCommands 15 = .ok (.iload_n 1, 1) := by decide +kernel
theorem dX7_clearCommands_16 : decode cX7_clearCommands 16 = .ok (.ireturn, 1) := by decide +kernel
theorem dX7_here_0 : decode cX7_here 0 = .ok (.aload_n 0, 1) := by decide +kernel
theorem dX7_here_1 : decode cX7_here 1 = .ok (.getfield 201, 3) := by decide +kernel
theorem dX7_here_4 : decode cX7_here 4 = .ok (.aload_n 0, 1) := by decide +kernel
theorem dX7_here_5 : decode cX7_here 5 = .ok (.getfield 183, 3) := by decide +kernel
theorem dX7_here_8 : decode cX7_here 8 = .ok (.if_icmp .ge 15, 3) := by decide +kernel
theorem dX7_here_11 : decode cX7_here 11 = .ok (.aload_n 0, 1) := by decide +kernel
theorem dX7_here_12 : decode cX7_here 12 = .ok (.getfield 13, 3) := by decide +kernel
theorem dX7_here_15 : decode cX7_here 15 = .ok (.aload_n 0, 1) := by decide +kernel
theorem dX7_here_16 : decode cX7_here 16 = .ok (.getfield 201, 3) := by decide +kernel
theorem dX7_here_19 : decode cX7_here 19 = .ok (.iaload, 1) := by decide +kernel
theorem dX7_here_20 : decode cX7_here 20 = .ok (.goto 4, 3) := by decide +kernel
theorem dX7_here_23 : decode cX7_here 23 = .ok (.iconst (-1), 1) := by decide +kernel
theorem dX7_here_24 : decode cX7_here 24 = .ok (.ireturn, 1) := by decide +kernel
theorem dX7_passSpaces_0 : decode cX7_passSpaces 0 = .ok (.aload_n 0, 1) := by decide +kernel
theorem dX7_passSpaces_1 : decode cX7_passSpaces 1 = .ok (.invokevirtual 204, 3) := by decide +kernel
theorem dX7_passSpaces_4 : decode cX7_passSpaces 4 = .ok (.bipush 32, 2) := by decide +kernel
theorem dX7_passSpaces_6 : decode cX7_passSpaces 6 = .ok (.if_icmp .ne 16, 3) := by decide +kernel
theorem dX7_passSpaces_9 : decode cX7_passSpaces 9 = .ok (.aload_n 0, 1) := by decide +kernel
theorem dX7_passSpaces_10 : decode cX7_passSpaces 10 = .ok (.dup, 1) := by decide +kernel
theorem dX7_passSpaces_11 : decode cX7_passSpaces 11 = .ok (.getfield 201, 3) := by decide +kernel
theorem dX7_passSpaces_14 : decode cX7_passSpaces 14 = .ok (.iconst 1, 1) := by decide +kernel
theorem dX7_passSpaces_15 : decode cX7_passSpaces 15 = .ok (.iadd, 1) := by decide +kernel
theorem dX7_passSpaces_16 : decode cX7_passSpaces 16 = .ok (.putfield 201, 3) := by decide +kernel
theorem dX7_passSpaces_19 : decode cX7_passSpaces 19 = .ok (.goto (-19), 3) := by decide +kernel
theorem dX7_passSpaces_22 : decode cX7_passSpaces 22 = .ok (.return_, 1) := by decide +kernel
theorem dX7_word_0 : decode cX7_word 0 = .ok (.lconst 0, 1) := by decide +kernel
theorem dX7_word_1 : decode cX7_word 1 = .ok (.lstore_n 1, 1) := by decide +kernel
theorem dX7_word_2 : decode cX7_word 2 = .ok (.aload_n 0, 1) := by decide +kernel
theorem dX7_word_3 : decode cX7_word 3 = .ok (.getfield 201, 3) := by decide +kernel
theorem dX7_word_6 : decode cX7_word 6 = .ok (.istore_n 3, 1) := by decide +kernel
theorem dX7_word_7 : decode cX7_word 7 = .ok (.aload_n 0, 1) := by decide +kernel
theorem dX7_word_8 : decode cX7_word 8 = .ok (.invokevirtual 204, 3) := by decide +kernel
theorem dX7_word_11 : decode cX7_word 11 = .ok (.bipush 97, 2) := by decide +kernel
theorem dX7_word_13 : decode cX7_word 13 = .ok (.bipush 122, 2) := by decide +kernel
theorem dX7_word_15 : decode cX7_word 15 = .ok (.invokestatic 91, 3) := by decide +kernel
theorem dX7_word_18 : decode cX7_word 18 = .ok (.ifCond .eq 49, 3) := by decide +kernel
theorem dX7_word_21 : decode cX7_word 21 = .ok (.aload_n 0, 1) := by decide +kernel
theorem dX7_word_22 : decode cX7_word 22 = .ok (.getfield 201, 3) := by decide +kernel
theorem dX7_word_25 : decode cX7_word 25 = .ok (.iload_n 3, 1) := by decide +kernel
theorem dX7_word_26 : decode cX7_word 26 = .ok (.isub, 1) := by decide +kernel
theorem dX7_word_27 : decode cX7_word 27 = .ok (.bipush 7, 2) := by decide +kernel
theorem dX7_word_29 : decode cX7_word 29 = .ok (.if_icmp .ge 21, 3) := by decide +kernel
theorem dX7_word_32 : decode cX7_word 32 = .ok (.ldc2_w 207, 3) := by decide +kernel
theorem dX7_word_35 : decode cX7_word 35 = .ok (.lload_n 1, 1) := by decide +kernel
theorem dX7_word_36 : decode cX7_word 36 = .ok (.lmul, 1) := by decide +kernel
theorem dX7_word_37 : decode cX7_word 37 = .ok (.aload_n 0, 1) := by decide +kernel
theorem dX7_word_38 : decode cX7_word 38 = .ok (.invokevirtual 204, 3) := by decide +kernel
theorem dX7_word_41 : decode cX7_word 41 = .ok (.i2l, 1) := by decide +kernel
theorem dX7_word_42 : decode cX7_word 42 = .ok (.ladd, 1) := by decide +kernel
theorem dX7_word_43 : decode cX7_word 43 = .ok (.ldc2_w 209, 3) := by decide +kernel
theorem dX7_word_46 : decode cX7_word 46 = .ok (.lsub, 1) := by decide +kernel
theorem dX7_word_47 : decode cX7_word 47 = .ok (.goto 6, 3) := by decide +kernel
theorem dX7_word_50 : decode cX7_word 50 = .ok (.ldc2_w 211, 3) := by decide +kernel
theorem dX7_word_53 : decode cX7_word 53 = .ok (.lstore_n 1, 1) := by decide +kernel
theorem dX7_word_54 : decode cX7_word 54 = .ok (.aload_n 0, 1) := by decide +kernel
theorem dX7_word_55 : decode cX7_word 55 = .ok (.dup, 1) := by decide +kernel
theorem dX7_word_56 : decode cX7_word 56 = .ok (.getfield 201, 3) := by decide +kernel
theorem dX7_word_59 : decode cX7_word 59 = .ok (.iconst 1, 1) := by decide +kernel
theorem dX7_word_60 : decode cX7_word 60 = .ok (.iadd, 1) := by decide +kernel
theorem dX7_word_61 : decode cX7_word 61 = .ok (.putfield 201, 3) := by decide +kernel
theorem dX7_word_64 : decode cX7_word 64 = .ok (.goto (-57), 3) := by decide +kernel
theorem dX7_word_67 : decode cX7_word 67 = .ok (.lload_n 1, 1) := by decide +kernel
theorem dX7_word_68 : decode cX7_word 68 = .ok (.ldc2_w 213, 3) := by decide +kernel
theorem dX7_word_71 : decode cX7_word 71 = .ok (.lcmp, 1) := by decide +kernel
theorem dX7_word_72 : decode cX7_word 72 = .ok (.ifCond .ne 7, 3) := by decide +kernel
theorem dX7_word_75 : decode cX7_word 75 = .ok (.iconst 1, 1) := by decide +kernel
theorem dX7_word_76 : decode cX7_word 76 = .ok (.goto 91, 3) := by decide +kernel
theorem dX7_word_79 : decode cX7_word 79 = .ok (.lload_n 1, 1) := by decide +kernel
theorem dX7_word_80 : decode cX7_word 80 = .ok (.ldc2_w 215, 3) := by decide +kernel
theorem dX7_word_83 : decode cX7_word 83 = .ok (.lcmp, 1) := by decide +kernel
theorem dX7_word_84 : decode cX7_word 84 = .ok (.ifCond .ne 7, 3) := by decide +kernel
theorem dX7_word_87 : decode cX7_word 87 = .ok (.iconst 2, 1) := by decide +kernel
theorem dX7_word_88 : decode cX7_word 88 = .ok (.goto 79, 3) := by decide +kernel
theorem dX7_word_91 : decode cX7_word 91 = .ok (.lload_n 1, 1) := by decide +kernel
theorem dX7_word_92 : decode cX7_word 92 = .ok (.ldc2_w 217, 3) := by decide +kernel
theorem dX7_word_95 : decode cX7_word 95 = .ok (.lcmp, 1) := by decide +kernel
theorem dX7_word_96 : decode cX7_word 96 = .ok (.ifCond .ne 7, 3) := by decide +kernel
theorem dX7_word_99 : decode cX7_word 99 = .ok (.iconst 3, 1) := by decide +kernel
theorem dX7_word_100 : decode cX7_word 100 = .ok (.goto 67, 3) := by decide +kernel
theorem dX7_word_103 : decode cX7_word 103 = .ok (.lload_n 1, 1) := by decide +kernel
theorem dX7_word_104 : decode cX7_word 104 = .ok (.ldc2_w 219, 3) := by decide +kernel
theorem dX7_word_107 : decode cX7_word 107 = .ok (.lcmp, 1) := by decide +kernel
theorem dX7_word_108 : decode cX7_word 108 = .ok (.ifCond .ne 7, 3) := by decide +kernel
theorem dX7_word_111 : decode cX7_word 111 = .ok (.iconst 4, 1) := by decide +kernel
theorem dX7_word_112 : decode cX7_word 112 = .ok (.goto 55, 3) := by decide +kernel
theorem dX7_word_115 : decode cX7_word 115 = .ok (.lload_n 1, 1) := by decide +kernel
theorem dX7_word_116 : decode cX7_word 116 = .ok (.ldc2_w 221, 3) := by decide +kernel
theorem dX7_word_119 : decode cX7_word 119 = .ok (.lcmp, 1) := by decide +kernel
theorem dX7_word_120 : decode cX7_word 120 = .ok (.ifCond .ne 7, 3) := by decide +kernel
theorem dX7_word_123 : decode cX7_word 123 = .ok (.iconst 5, 1) := by decide +kernel
theorem dX7_word_124 : decode cX7_word 124 = .ok (.goto 43, 3) := by decide +kernel
theorem dX7_word_127 : decode cX7_word 127 = .ok (.lload_n 1, 1) := by decide +kernel
theorem dX7_word_128 : decode cX7_word 128 = .ok (.ldc2_w 223, 3) := by decide +kernel
theorem dX7_word_131 : decode cX7_word 131 = .ok (.lcmp, 1) := by decide +kernel
theorem dX7_word_132 : decode cX7_word 132 = .ok (.ifCond .ne 8, 3) := by decide +kernel
theorem dX7_word_135 : decode cX7_word 135 = .ok (.bipush 6, 2) := by decide +kernel
theorem dX7_word_137 : decode cX7_word 137 = .ok (.goto 30, 3) := by decide +kernel
theorem dX7_word_140 : decode cX7_word 140 = .ok (.lload_n 1, 1) := by decide +kernel
theorem dX7_word_141 : decode cX7_word 141 = .ok (.ldc2_w 225, 3) := by decide +kernel
theorem dX7_word_144 : decode cX7_word 144 = .ok (.lcmp, 1) := by decide +kernel
theorem dX7_word_145 : decode cX7_word 145 = .ok (.ifCond .ne 8, 3) := by decide +kernel
theorem dX7_word_148 : decode cX7_word 148 = .ok (.bipush 7, 2) := by decide +kernel
theorem dX7_word_150 : decode cX7_word 150 = .ok (.goto 17, 3) := by decide +kernel
theorem dX7_word_153 : decode cX7_word 153 = .ok (.lload_n 1, 1) := by decide +kernel
theorem dX7_word_154 : decode cX7_word 154 = .ok (.ldc2_w 227, 3) := by decide +kernel
theorem dX7_word_157 : decode cX7_word 157 = .ok (.lcmp, 1) := by decide +kernel
theorem dX7_word_158 : decode cX7_word 158 = .ok (.ifCond .ne 8, 3) := by decide +kernel
theorem dX7_word_161 : decode cX7_word 161 = .ok (.bipush 8, 2) := by decide +kernel
theorem dX7_word_163 : decode cX7_word 163 = .ok (.goto 4, 3) := by decide +kernel
theorem dX7_word_166 : decode cX7_word 166 = .ok (.iconst 0, 1) := by decide +kernel
theorem dX7_word_167 : decode cX7_word 167 = .ok (.istore 4, 2) := by decide +kernel
theorem dX7_word_169 : decode cX7_word 169 = .ok (.aload_n 0, 1) := by decide +kernel
theorem dX7_word_170 : decode cX7_word 170 = .ok (.iload 4, 2) := by decide +kernel
theorem dX7_word_172 : decode cX7_word 172 = .ok (.ifCond .ne 7, 3) := by decide +kernel
theorem dX7_word_175 : decode cX7_word 175 = .ok (.iload_n 3, 1) := by decide +kernel
theorem dX7_word_176 : decode cX7_word 176 = .ok (.goto 7, 3) := by decide +kernel
theorem dX7_word_179 : decode cX7_word 179 = .ok (.aload_n 0, 1) := by decide +kernel
theorem dX7_word_180 : decode cX7_word 180 = .ok (.getfield 201, 3) := by decide +kernel
theorem dX7_word_183 : decode cX7_word 183 = .ok (.putfield 201, 3) := by decide +kernel
theorem dX7_word_186 : decode cX7_word 186 = .ok (.iload 4, 2) := by decide +kernel
theorem dX7_word_188 : decode cX7_word 188 = .ok (.ireturn, 1) := by decide +kernel
theorem dX7_numbersOf_0 : decode cX7_numbersOf 0 = .ok (.iload_n 0, 1) := by decide +kernel
theorem dX7_numbersOf_1 : decode cX7_numbersOf 1 = .ok (.iconst 2, 1) := by decide +kernel
theorem dX7_numbersOf_2 : decode cX7_numbersOf 2 = .ok (.if_icmp .eq 9, 3) := by decide +kernel
theorem dX7_numbersOf_5 : decode cX7_numbersOf 5 = .ok (.iload_n 0, 1) := by decide +kernel
theorem dX7_numbersOf_6 : decode cX7_numbersOf 6 = .ok (.bipush 6, 2) := by decide +kernel
theorem dX7_numbersOf_8 : decode cX7_numbersOf 8 = .ok (.if_icmp .ne 7, 3) := by decide +kernel
theorem dX7_numbersOf_11 : decode cX7_numbersOf 11 = .ok (.iconst 3, 1) := by decide +kernel
theorem dX7_numbersOf_12 : decode cX7_numbersOf 12 = .ok (.goto 14, 3) := by decide +kernel
theorem dX7_numbersOf_15 : decode cX7_numbersOf 15 = .ok (.iload_n 0, 1) := by decide +kernel
theorem dX7_numbersOf_16 : decode cX7_numbersOf 16 = .ok (.bipush 6, 2) := by decide +kernel
theorem dX7_numbersOf_18 : decode cX7_numbersOf 18 = .ok (.if_icmp .le 7, 3) := by decide +kernel
theorem dX7_numbersOf_21 : decode cX7_numbersOf 21 = .ok (.iconst 1, 1) := by decide +kernel
theorem dX7_numbersOf_22 : decode cX7_numbersOf 22 = .ok (.goto 4, 3) := by decide +kernel
theorem dX7_numbersOf_25 : decode cX7_numbersOf 25 = .ok (.iconst 2, 1) := by decide +kernel
theorem dX7_numbersOf_26 : decode cX7_numbersOf 26 = .ok (.ireturn, 1) := by decide +kernel
theorem dX7_isNumber_0 : decode cX7_isNumber 0 = .ok (.aload_n 0, 1) := by decide +kernel
theorem dX7_isNumber_1 : decode cX7_isNumber 1 = .ok (.invokevirtual 204, 3) := by decide +kernel
theorem dX7_isNumber_4 : decode cX7_isNumber 4 = .ok (.bipush 32, 2) := by decide +kernel
theorem dX7_isNumber_6 : decode cX7_isNumber 6 = .ok (.if_icmp .eq 5, 3) := by decide +kernel
theorem dX7_isNumber_9 : decode cX7_isNumber 9 = .ok (.iconst 0, 1) := by decide +kernel
theorem dX7_isNumber_10 : decode cX7_isNumber 10 = .ok (.ireturn, 1) := by decide +kernel
theorem dX7_isNumber_11 : decode cX7_isNumber 11 = .ok (.aload_n 0, 1) := by decide +kernel
theorem dX7_isNumber_12 : decode cX7_isNumber 12 = .ok (.invokevirtual 229, 3) := by decide +kernel
theorem dX7_isNumber_15 : decode cX7_isNumber 15 = .ok (.aload_n 0, 1) := by decide +kernel
theorem dX7_isNumber_16 : decode cX7_isNumber 16 = .ok (.getfield 201, 3) := by decide +kernel
theorem dX7_isNumber_19 : decode cX7_isNumber 19 = .ok (.istore_n 1, 1) := by decide +kernel
theorem dX7_isNumber_20 : decode cX7_isNumber 20 = .ok (.iconst 0, 1) := by decide +kernel
theorem dX7_isNumber_21 : decode cX7_isNumber 21 = .ok (.istore_n 2, 1) := by decide +kernel
theorem dX7_isNumber_22 : decode cX7_isNumber 22 = .ok (.aload_n 0, 1) := by decide +kernel
theorem dX7_isNumber_23 : decode cX7_isNumber 23 = .ok (.getfield 201, 3) := by decide +kernel
theorem dX7_isNumber_26 : decode cX7_isNumber 26 = .ok (.iload_n 1, 1) := by decide +kernel
theorem dX7_isNumber_27 : decode cX7_isNumber 27 = .ok (.isub, 1) := by decide +kernel
theorem dX7_isNumber_28 : decode cX7_isNumber 28 = .ok (.iconst 3, 1) := by decide +kernel
theorem dX7_isNumber_29 : decode cX7_isNumber 29 = .ok (.if_icmp .ge 43, 3) := by decide +kernel
theorem dX7_isNumber_32 : decode cX7_isNumber 32 = .ok (.aload_n 0, 1) := by decide +kernel
theorem dX7_isNumber_33 : decode cX7_isNumber 33 = .ok (.invokevirtual 204, 3) := by decide +kernel
theorem dX7_isNumber_36 : decode cX7_isNumber 36 = .ok (.bipush 48, 2) := by decide +kernel
theorem dX7_isNumber_38 : decode cX7_isNumber 38 = .ok (.bipush 57, 2) := by decide +kernel
theorem dX7_isNumber_40 : decode cX7_isNumber 40 = .ok (.invokestatic 91, 3) := by decide +kernel
theorem dX7_isNumber_43 : decode cX7_isNumber 43 = .ok (.ifCond .eq 29, 3) := by decide +kernel
theorem dX7_isNumber_46 : decode cX7_isNumber 46 = .ok (.bipush 10, 2) := by decide +kernel
theorem dX7_isNumber_48 : decode cX7_isNumber 48 = .ok (.iload_n 2, 1) := by decide +kernel
theorem dX7_isNumber_49 : decode cX7_isNumber 49 = .ok (.imul, 1) := by decide +kernel
theorem dX7_isNumber_50 : decode cX7_isNumber 50 = .ok (.aload_n 0, 1) := by decide +kernel
theorem dX7_isNumber_51 : decode cX7_isNumber 51 = .ok (.invokevirtual 204, 3) := by decide +kernel
theorem dX7_isNumber_54 : decode cX7_isNumber 54 = .ok (.iadd, 1) := by decide +kernel
theorem dX7_isNumber_55 : decode cX7_isNumber 55 = .ok (.bipush 48, 2) := by decide +kernel
theorem dX7_isNumber_57 : decode cX7_isNumber 57 = .ok (.isub, 1) := by decide +kernel
theorem dX7_isNumber_58 : decode cX7_isNumber 58 = .ok (.istore_n 2, 1) := by decide +kernel
theorem dX7_isNumber_59 : decode cX7_isNumber 59 = .ok (.aload_n 0, 1) := by decide +kernel
theorem dX7_isNumber_60 : decode cX7_isNumber 60 = .ok (.dup, 1) := by decide +kernel
theorem dX7_isNumber_61 : decode cX7_isNumber 61 = .ok (.getfield 201, 3) := by decide +kernel
theorem dX7_isNumber_64 : decode cX7_isNumber 64 = .ok (.iconst 1, 1) := by decide +kernel
theorem dX7_isNumber_65 : decode cX7_isNumber 65 = .ok (.iadd, 1) := by decide +kernel
theorem dX7_isNumber_66 : decode cX7_isNumber 66 = .ok (.putfield 201, 3) := by decide +kernel
theorem dX7_isNumber_69 : decode cX7_isNumber 69 = .ok (.goto (-47), 3) := by decide +kernel
theorem dX7_isNumber_72 : decode cX7_isNumber 72 = .ok (.aload_n 0, 1) := by decide +kernel
theorem dX7_isNumber_73 : decode cX7_isNumber 73 = .ok (.getfield 35, 3) := by decide +kernel
theorem dX7_isNumber_76 : decode cX7_isNumber 76 = .ok (.aload_n 0, 1) := by decide +kernel
theorem dX7_isNumber_77 : decode cX7_isNumber 77 = .ok (.getfield 232, 3) := by decide +kernel
theorem dX7_isNumber_80 : decode cX7_isNumber 80 = .ok (.iload_n 2, 1) := by decide +kernel
theorem dX7_isNumber_81 : decode cX7_isNumber 81 = .ok (.iastore, 1) := by decide +kernel
theorem dX7_isNumber_82 : decode cX7_isNumber 82 = .ok (.aload_n 0, 1) := by decide +kernel
theorem dX7_isNumber_83 : decode cX7_isNumber 83 = .ok (.dup, 1) := by decide +kernel
theorem dX7_isNumber_84 : decode cX7_isNumber 84 = .ok (.getfield 232, 3) := by decide +kernel
theorem dX7_isNumber_87 : decode cX7_isNumber 87 = .ok (.iconst 1, 1) := by decide +kernel
theorem dX7_isNumber_88 : decode cX7_isNumber 88 = .ok (.iadd, 1) := by decide +kernel
theorem dX7_isNumber_89 : decode cX7_isNumber 89 = .ok (.putfield 232, 3) := by decide +kernel
theorem dX7_isNumber_92 : decode cX7_isNumber 92 = .ok (.aload_n 0, 1) := by decide +kernel
theorem dX7_isNumber_93 : decode cX7_isNumber 93 = .ok (.getfield 201, 3) := by decide +kernel
theorem dX7_isNumber_96 : decode cX7_isNumber 96 = .ok (.iload_n 1, 1) := by decide +kernel
theorem dX7_isNumber_97 : decode cX7_isNumber 97 = .ok (.if_icmp .le 21, 3) := by decide +kernel
theorem dX7_isNumber_100 : decode cX7_isNumber 100 = .ok (.aload_n 0, 1) := by decide +kernel
theorem dX7_isNumber_101 : decode cX7_isNumber 101 = .ok (.invokevirtual 204, 3) := by decide +kernel
theorem dX7_isNumber_104 : decode cX7_isNumber 104 = .ok (.bipush 48, 2) := by decide +kernel
theorem dX7_isNumber_106 : decode cX7_isNumber 106 = .ok (.bipush 57, 2) := by decide +kernel
theorem dX7_isNumber_108 : decode cX7_isNumber 108 = .ok (.invokestatic 91, 3) := by decide +kernel
theorem dX7_isNumber_111 : decode cX7_isNumber 111 = .ok (.ifCond .ne 7, 3) := by decide +kernel
theorem dX7_isNumber_114 : decode cX7_isNumber 114 = .ok (.iconst 1, 1) := by decide +kernel
theorem dX7_isNumber_115 : decode cX7_isNumber 115 = .ok (.goto 4, 3) := by decide +kernel
theorem dX7_isNumber_118 : decode cX7_isNumber 118 = .ok (.iconst 0, 1) := by decide +kernel
theorem dX7_isNumber_119 : decode cX7_isNumber 119 = .ok (.ireturn, 1) := by decide +kernel
theorem dX7_command_0 : decode cX7_command 0 = .ok (.aload_n 0, 1) := by decide +kernel
theorem dX7_command_1 : decode cX7_command 1 = .ok (.invokevirtual 235, 3) := by decide +kernel
theorem dX7_command_4 : decode cX7_command 4 = .ok (.istore_n 1, 1) := by decide +kernel
theorem dX7_command_5 : decode cX7_command 5 = .ok (.aload_n 0, 1) := by decide +kernel
theorem dX7_command_6 : decode cX7_command 6 = .ok (.iconst 0, 1) := by decide +kernel
theorem dX7_command_7 : decode cX7_command 7 = .ok (.putfield 232, 3) := by decide +kernel
theorem dX7_command_10 : decode cX7_command 10 = .ok (.iconst 0, 1) := by decide +kernel
theorem dX7_command_11 : decode cX7_command 11 = .ok (.istore_n 2, 1) := by decide +kernel
theorem dX7_command_12 : decode cX7_command 12 = .ok (.iload_n 2, 1) := by decide +kernel
theorem dX7_command_13 : decode cX7_command 13 = .ok (.iload_n 1, 1) := by decide +kernel
theorem dX7_command_14 : decode cX7_command 14 = .ok (.invokestatic 238, 3) := by decide +kernel
theorem dX7_command_17 : decode cX7_command 17 = .ok (.if_icmp .ge 22, 3) := by decide +kernel
theorem dX7_command_20 : decode cX7_command 20 = .ok (.iload_n 1, 1) := by decide +kernel
theorem dX7_command_21 : decode cX7_command 21 = .ok (.ifCond .le 18, 3) := by decide +kernel
theorem dX7_command_24 : decode cX7_command 24 = .ok (.aload_n 0, 1) := by decide +kernel
theorem dX7_command_25 : decode cX7_command 25 = .ok (.invokevirtual 241, 3) := by decide +kernel
theorem dX7_command_28 : decode cX7_command 28 = .ok (.ifCond .ne 5, 3) := by decide +kernel
theorem dX7_command_31 : decode cX7_command 31 = .ok (.iconst 0, 1) := by decide +kernel
theorem dX7_command_32 : decode cX7_command 32 = .ok (.ireturn, 1) := by decide +kernel
theorem dX7_command_33 : decode cX7_command 33 = .ok (.iinc 2 1, 3) := by decide +kernel
theorem dX7_command_36 : decode cX7_command 36 = .ok (.goto (-24), 3) := by decide +kernel
theorem dX7_command_39 : decode cX7_command 39 = .ok (.iload_n 1, 1) := by decide +kernel
theorem dX7_command_40 : decode cX7_command 40 = .ok (.ifCond .le 28, 3) := by decide +kernel
theorem dX7_command_43 : decode cX7_command 43 = .ok (.aload_n 0, 1) := by decide +kernel
theorem dX7_command_44 : decode cX7_command 44 = .ok (.invokevirtual 229, 3) := by decide +kernel
theorem dX7_command_47 : decode cX7_command 47 = .ok (.aload_n 0, 1) := by decide +kernel
theorem dX7_command_48 : decode cX7_command 48 = .ok (.invokevirtual 204, 3) := by decide +kernel
theorem dX7_command_51 : decode cX7_command 51 = .ok (.bipush 59, 2) := by decide +kernel
theorem dX7_command_53 : decode cX7_command 53 = .ok (.if_icmp .eq 5, 3) := by decide +kernel
theorem dX7_command_56 : decode cX7_command 56 = .ok (.iconst 0, 1) := by decide +kernel
theorem dX7_command_57 : decode cX7_command 57 = .ok (.ireturn, 1) := by decide +kernel
theorem dX7_command_58 : decode cX7_command 58 = .ok (.aload_n 0, 1) := by decide +kernel
theorem dX7_command_59 : decode cX7_command 59 = .ok (.dup, 1) := by decide +kernel
theorem dX7_command_60 : decode cX7_command 60 = .ok (.getfield 201, 3) := by decide +kernel
theorem dX7_command_63 : decode cX7_command 63 = .ok (.iconst 1, 1) := by decide +kernel
theorem dX7_command_64 : decode cX7_command 64 = .ok (.iadd, 1) := by decide +kernel
theorem dX7_command_65 : decode cX7_command 65 = .ok (.putfield 201, 3) := by decide +kernel
theorem dX7_command_68 : decode cX7_command 68 = .ok (.iload_n 1, 1) := by decide +kernel
theorem dX7_command_69 : decode cX7_command 69 = .ok (.ireturn, 1) := by decide +kernel
theorem dX7_fault_0 : decode cX7_fault 0 = .ok (.aload_n 0, 1) := by decide +kernel
theorem dX7_fault_1 : decode cX7_fault 1 = .ok (.iconst 0, 1) := by decide +kernel
theorem dX7_fault_2 : decode cX7_fault 2 = .ok (.putfield 201, 3) := by decide +kernel
theorem dX7_fault_5 : decode cX7_fault 5 = .ok (.aload_n 0, 1) := by decide +kernel
theorem dX7_fault_6 : decode cX7_fault 6 = .ok (.invokevirtual 229, 3) := by decide +kernel
theorem dX7_fault_9 : decode cX7_fault 9 = .ok (.aload_n 0, 1) := by decide +kernel
theorem dX7_fault_10 : decode cX7_fault 10 = .ok (.getfield 201, 3) := by decide +kernel
theorem dX7_fault_13 : decode cX7_fault 13 = .ok (.aload_n 0, 1) := by decide +kernel
theorem dX7_fault_14 : decode cX7_fault 14 = .ok (.getfield 183, 3) := by decide +kernel
theorem dX7_fault_17 : decode cX7_fault 17 = .ok (.if_icmp .ge 22, 3) := by decide +kernel
theorem dX7_fault_20 : decode cX7_fault 20 = .ok (.aload_n 0, 1) := by decide +kernel
theorem dX7_fault_21 : decode cX7_fault 21 = .ok (.invokevirtual 245, 3) := by decide +kernel
theorem dX7_fault_24 : decode cX7_fault 24 = .ok (.ifCond .ne 8, 3) := by decide +kernel
theorem dX7_fault_27 : decode cX7_fault 27 = .ok (.aload_n 0, 1) := by decide +kernel
theorem dX7_fault_28 : decode cX7_fault 28 = .ok (.getfield 201, 3) := by decide +kernel
theorem dX7_fault_31 : decode cX7_fault 31 = .ok (.ireturn, 1) := by decide +kernel
theorem dX7_fault_32 : decode cX7_fault 32 = .ok (.aload_n 0, 1) := by decide +kernel
theorem dX7_fault_33 : decode cX7_fault 33 = .ok (.invokevirtual 229, 3) := by decide +kernel
theorem dX7_fault_36 : decode cX7_fault 36 = .ok (.goto (-27), 3) := by decide +kernel
theorem dX7_fault_39 : decode cX7_fault 39 = .ok (.iconst (-1), 1) := by decide +kernel
theorem dX7_fault_40 : decode cX7_fault 40 = .ok (.ireturn, 1) := by decide +kernel
theorem dX7_does_0 : decode cX7_does 0 = .ok (.aload_n 0, 1) := by decide +kernel
theorem dX7_does_1 : decode cX7_does 1 = .ok (.getfield 35, 3) := by decide +kernel
theorem dX7_does_4 : decode cX7_does 4 = .ok (.iconst 0, 1) := by decide +kernel
theorem dX7_does_5 : decode cX7_does 5 = .ok (.iaload, 1) := by decide +kernel
theorem dX7_does_6 : decode cX7_does 6 = .ok (.istore_n 2, 1) := by decide +kernel
theorem dX7_does_7 : decode cX7_does 7 = .ok (.aload_n 0, 1) := by decide +kernel
theorem dX7_does_8 : decode cX7_does 8 = .ok (.getfield 35, 3) := by decide +kernel
theorem dX7_does_11 : decode cX7_does 11 = .ok (.iconst 1, 1) := by decide +kernel
theorem dX7_does_12 : decode cX7_does 12 = .ok (.iaload, 1) := by decide +kernel
theorem dX7_does_13 : decode cX7_does 13 = .ok (.istore_n 3, 1) := by decide +kernel
theorem dX7_does_14 : decode cX7_does 14 = .ok (.aload_n 0, 1) := by decide +kernel
theorem dX7_does_15 : decode cX7_does 15 = .ok (.getfield 35, 3) := by decide +kernel
theorem dX7_does_18 : decode cX7_does 18 = .ok (.iconst 2, 1) := by decide +kernel
theorem dX7_does_19 : decode cX7_does 19 = .ok (.iaload, 1) := by decide +kernel
theorem dX7_does_20 : decode cX7_does 20 = .ok (.istore 4, 2) := by decide +kernel
theorem dX7_does_22 : decode cX7_does 22 = .ok (.iload_n 1, 1) := by decide +kernel
theorem dX7_does_23 : decode cX7_does 23 = .ok (.tableswitch 128 1 7 #[41, 53, 66, 83, 94, 105, 118], 41) := by decide +kernel
theorem dX7_does_64 : decode cX7_does 64 = .ok (.aload_n 0, 1) := by decide +kernel
theorem dX7_does_65 : decode cX7_does 65 = .ok (.iload_n 2, 1) := by decide +kernel
theorem dX7_does_66 : decode cX7_does 66 = .ok (.iload_n 3, 1) := by decide +kernel
theorem dX7_does_67 : decode cX7_does 67 = .ok (.iconst 0, 1) := by decide +kernel
theorem dX7_does_68 : decode cX7_does 68 = .ok (.invokevirtual 104, 3) := by decide +kernel
theorem dX7_does_71 : decode cX7_does 71 = .ok (.istore 5, 2) := by decide +kernel
theorem dX7_does_73 : decode cX7_does 73 = .ok (.goto 84, 3) := by decide +kernel
theorem dX7_does_76 : decode cX7_does 76 = .ok (.aload_n 0, 1) := by decide +kernel
theorem dX7_does_77 : decode cX7_does 77 = .ok (.iload_n 2, 1) := by decide +kernel
theorem dX7_does_78 : decode cX7_does 78 = .ok (.iload_n 3, 1) := by decide +kernel
theorem dX7_does_79 : decode cX7_does 79 = .ok (.iload 4, 2) := by decide +kernel
theorem dX7_does_81 : decode cX7_does 81 = .ok (.invokevirtual 104, 3) := by decide +kernel
theorem dX7_does_84 : decode cX7_does 84 = .ok (.istore 5, 2) := by decide +kernel
theorem dX7_does_86 : decode cX7_does 86 = .ok (.goto 71, 3) := by decide +kernel
theorem dX7_does_89 : decode cX7_does 89 = .ok (.aload_n 0, 1) := by decide +kernel
theorem dX7_does_90 : decode cX7_does 90 = .ok (.iload_n 2, 1) := by decide +kernel
theorem dX7_does_91 : decode cX7_does 91 = .ok (.iload_n 3, 1) := by decide +kernel
theorem dX7_does_92 : decode cX7_does 92 = .ok (.iconst 0, 1) := by decide +kernel
theorem dX7_does_93 : decode cX7_does 93 = .ok (.bipush 60, 2) := by decide +kernel
theorem dX7_does_95 : decode cX7_does 95 = .ok (.invokestatic 91, 3) := by decide +kernel
theorem dX7_does_98 : decode cX7_does 98 = .ok (.invokevirtual 140, 3) := by decide +kernel
theorem dX7_does_101 : decode cX7_does 101 = .ok (.istore 5, 2) := by decide +kernel
theorem dX7_does_103 : decode cX7_does 103 = .ok (.goto 54, 3) := by decide +kernel
theorem dX7_does_106 : decode cX7_does 106 = .ok (.aload_n 0, 1) := by decide +kernel
theorem dX7_does_107 : decode cX7_does 107 = .ok (.iload_n 2, 1) := by decide +kernel
theorem dX7_does_108 : decode cX7_does 108 = .ok (.iload_n 3, 1) := by decide +kernel
theorem dX7_does_109 : decode cX7_does 109 = .ok (.invokevirtual 150, 3) := by decide +kernel
theorem dX7_does_112 : decode cX7_does 112 = .ok (.istore 5, 2) := by decide +kernel
theorem dX7_does_114 : decode cX7_does 114 = .ok (.goto 43, 3) := by decide +kernel
theorem dX7_does_117 : decode cX7_does 117 = .ok (.aload_n 0, 1) := by decide +kernel
theorem dX7_does_118 : decode cX7_does 118 = .ok (.iload_n 2, 1) := by decide +kernel
theorem dX7_does_119 : decode cX7_does 119 = .ok (.iload_n 3, 1) := by decide +kernel
theorem dX7_does_120 : decode cX7_does 120 = .ok (.invokevirtual 156, 3) := by decide +kernel
theorem dX7_does_123 : decode cX7_does 123 = .ok (.istore 5, 2) := by decide +kernel
theorem dX7_does_125 : decode cX7_does 125 = .ok (.goto 32, 3) := by decide +kernel
theorem dX7_does_128 : decode cX7_does 128 = .ok (.aload_n 0, 1) := by decide +kernel
theorem dX7_does_129 : decode cX7_does 129 = .ok (.iload_n 2, 1) := by decide +kernel
theorem dX7_does_130 : decode cX7_does 130 = .ok (.iload_n 3, 1) := by decide +kernel
theorem dX7_does_131 : decode cX7_does 131 = .ok (.iload 4, 2) := by decide +kernel
theorem dX7_does_133 : decode cX7_does 133 = .ok (.invokevirtual 125, 3) := by decide +kernel
theorem dX7_does_136 : decode cX7_does 136 = .ok (.istore 5, 2) := by decide +kernel
theorem dX7_does_138 : decode cX7_does 138 = .ok (.goto 19, 3) := by decide +kernel
theorem dX7_does_141 : decode cX7_does 141 = .ok (.aload_n 0, 1) := by decide +kernel
theorem dX7_does_142 : decode cX7_does 142 = .ok (.iload_n 2, 1) := by decide +kernel
theorem dX7_does_143 : decode cX7_does 143 = .ok (.invokevirtual 131, 3) := by decide +kernel
theorem dX7_does_146 : decode cX7_does 146 = .ok (.istore 5, 2) := by decide +kernel
theorem dX7_does_148 : decode cX7_does 148 = .ok (.goto 9, 3) := by decide +kernel
theorem dX7_does_151 : decode cX7_does 151 = .ok (.iload_n 2, 1) := by decide +kernel
theorem dX7_does_152 : decode cX7_does 152 = .ok (.invokestatic 159, 3) := by decide +kernel
theorem dX7_does_155 : decode cX7_does 155 = .ok (.istore 5, 2) := by decide +kernel
theorem dX7_does_157 : decode cX7_does 157 = .ok (.iload 5, 2) := by decide +kernel
theorem dX7_does_159 : decode cX7_does 159 = .ok (.ifCond .ne 12, 3) := by decide +kernel
theorem dX7_does_162 : decode cX7_does 162 = .ok (.aload_n 0, 1) := by decide +kernel
theorem dX7_does_163 : decode cX7_does 163 = .ok (.iload_n 1, 1) := by decide +kernel
theorem dX7_does_164 : decode cX7_does 164 = .ok (.iload_n 2, 1) := by decide +kernel
theorem dX7_does_165 : decode cX7_does 165 = .ok (.iload_n 3, 1) := by decide +kernel
theorem dX7_does_166 : decode cX7_does 166 = .ok (.iload 4, 2) := by decide +kernel
theorem dX7_does_168 : decode cX7_does 168 = .ok (.invokevirtual 248, 3) := by decide +kernel
theorem dX7_does_171 : decode cX7_does 171 = .ok (.iload 5, 2) := by decide +kernel
theorem dX7_does_173 : decode cX7_does 173 = .ok (.ifCond .ne 7, 3) := by decide +kernel
theorem dX7_does_176 : decode cX7_does 176 = .ok (.iconst 1, 1) := by decide +kernel
theorem dX7_does_177 : decode cX7_does 177 = .ok (.goto 4, 3) := by decide +kernel
theorem dX7_does_180 : decode cX7_does 180 = .ok (.iconst 0, 1) := by decide +kernel
theorem dX7_does_181 : decode cX7_does 181 = .ok (.ireturn, 1) := by decide +kernel
theorem dX7_changes_0 : decode cX7_changes 0 = .ok (.iload_n 1, 1) := by decide +kernel
theorem dX7_changes_1 : decode cX7_changes 1 = .ok (.tableswitch 119 1 7 #[43, 55, 68, 77, 87, 98, 110], 43) := by decide +kernel
theorem dX7_changes_44 : decode cX7_changes 44 = .ok (.aload_n 0, 1) := by decide +kernel
theorem dX7_changes_45 : decode cX7_changes 45 = .ok (.iload_n 2, 1) := by decide +kernel
theorem dX7_changes_46 : decode cX7_changes 46 = .ok (.iload_n 3, 1) := by decide +kernel
theorem dX7_changes_47 : decode cX7_changes 47 = .ok (.iconst 0, 1) := by decide +kernel
theorem dX7_changes_48 : decode cX7_changes 48 = .ok (.iconst 0, 1) := by decide +kernel
theorem dX7_changes_49 : decode cX7_changes 49 = .ok (.invokevirtual 111, 3) := by decide +kernel
theorem dX7_changes_52 : decode cX7_changes 52 = .ok (.pop, 1) := by decide +kernel
theorem dX7_changes_53 : decode cX7_changes 53 = .ok (.goto 74, 3) := by decide +kernel
theorem dX7_changes_56 : decode cX7_changes 56 = .ok (.aload_n 0, 1) := by decide +kernel
theorem dX7_changes_57 : decode cX7_changes 57 = .ok (.iload_n 2, 1) := by decide +kernel
theorem dX7_changes_58 : decode cX7_changes 58 = .ok (.iload_n 3, 1) := by decide +kernel
theorem dX7_changes_59 : decode cX7_changes 59 = .ok (.iconst 1, 1) := by decide +kernel
theorem dX7_changes_60 : decode cX7_changes 60 = .ok (.iload 4, 2) := by decide +kernel
theorem dX7_changes_62 : decode cX7_changes 62 = .ok (.invokevirtual 111, 3) := by decide +kernel
theorem dX7_changes_65 : decode cX7_changes 65 = .ok (.pop, 1) := by decide +kernel
theorem dX7_changes_66 : decode cX7_changes 66 = .ok (.goto 61, 3) := by decide +kernel
theorem dX7_changes_69 : decode cX7_changes 69 = .ok (.aload_n 0, 1) := by decide +kernel
theorem dX7_changes_70 : decode cX7_changes 70 = .ok (.iload_n 2, 1) := by decide +kernel
theorem dX7_changes_71 : decode cX7_changes 71 = .ok (.iload_n 3, 1) := by decide +kernel
theorem dX7_changes_72 : decode cX7_changes 72 = .ok (.invokevirtual 144, 3) := by decide +kernel
theorem dX7_changes_75 : decode cX7_changes 75 = .ok (.goto 52, 3) := by decide +kernel
theorem dX7_changes_78 : decode cX7_changes 78 = .ok (.aload_n 0, 1) := by decide +kernel
theorem dX7_changes_79 : decode cX7_changes 79 = .ok (.iload_n 2, 1) := by decide +kernel
theorem dX7_changes_80 : decode cX7_changes 80 = .ok (.iload_n 3, 1) := by decide +kernel
theorem dX7_changes_81 : decode cX7_changes 81 = .ok (.invokevirtual 153, 3) := by decide +kernel
theorem dX7_changes_84 : decode cX7_changes 84 = .ok (.pop, 1) := by decide +kernel
theorem dX7_changes_85 : decode cX7_changes 85 = .ok (.goto 42, 3) := by decide +kernel
theorem dX7_changes_88 : decode cX7_changes 88 = .ok (.aload_n 0, 1) := by decide +kernel
theorem dX7_changes_89 : decode cX7_changes 89 = .ok (.iload_n 2, 1) := by decide +kernel
theorem dX7_changes_90 : decode cX7_changes 90 = .ok (.iload_n 3, 1) := by decide +kernel
theorem dX7_changes_91 : decode cX7_changes 91 = .ok (.ineg, 1) := by decide +kernel
theorem dX7_changes_92 : decode cX7_changes 92 = .ok (.invokevirtual 153, 3) := by decide +kernel
theorem dX7_changes_95 : decode cX7_changes 95 = .ok (.pop, 1) := by decide +kernel
theorem dX7_changes_96 : decode cX7_changes 96 = .ok (.goto 31, 3) := by decide +kernel
theorem dX7_changes_99 : decode cX7_changes 99 = .ok (.aload_n 0, 1) := by decide +kernel
theorem dX7_changes_100 : decode cX7_changes 100 = .ok (.iload_n 2, 1) := by decide +kernel
theorem dX7_changes_101 : decode cX7_changes 101 = .ok (.iload_n 3, 1) := by decide +kernel
theorem dX7_changes_102 : decode cX7_changes 102 = .ok (.iload 4, 2) := by decide +kernel
theorem dX7_changes_104 : decode cX7_changes 104 = .ok (.invokevirtual 128, 3) := by decide +kernel
theorem dX7_changes_107 : decode cX7_changes 107 = .ok (.pop, 1) := by decide +kernel
theorem dX7_changes_108 : decode cX7_changes 108 = .ok (.goto 19, 3) := by decide +kernel
theorem dX7_changes_111 : decode cX7_changes 111 = .ok (.aload_n 0, 1) := by decide +kernel
theorem dX7_changes_112 : decode cX7_changes 112 = .ok (.iload_n 2, 1) := by decide +kernel
theorem dX7_changes_113 : decode cX7_changes 113 = .ok (.invokevirtual 137, 3) := by decide +kernel
theorem dX7_changes_116 : decode cX7_changes 116 = .ok (.pop, 1) := by decide +kernel
theorem dX7_changes_117 : decode cX7_changes 117 = .ok (.goto 10, 3) := by decide +kernel
theorem dX7_changes_120 : decode cX7_changes 120 = .ok (.aload_n 0, 1) := by decide +kernel
theorem dX7_changes_121 : decode cX7_changes 121 = .ok (.getfield 7, 3) := by decide +kernel
theorem dX7_changes_124 : decode cX7_changes 124 = .ok (.iconst 2, 1) := by decide +kernel
theorem dX7_changes_125 : decode cX7_changes 125 = .ok (.iload_n 2, 1) := by decide +kernel
theorem dX7_changes_126 : decode cX7_changes 126 = .ok (.iastore, 1) := by decide +kernel
theorem dX7_changes_127 : decode cX7_changes 127 = .ok (.return_, 1) := by decide +kernel
theorem dX7_runCommands_0 : decode cX7_runCommands 0 = .ok (.aload_n 0, 1) := by decide +kernel
theorem dX7_runCommands_1 : decode cX7_runCommands 1 = .ok (.iconst 0, 1) := by decide +kernel
theorem dX7_runCommands_2 : decode cX7_runCommands 2 = .ok (.putfield 57, 3) := by decide +kernel
theorem dX7_runCommands_5 : decode cX7_runCommands 5 = .ok (.aload_n 0, 1) := by decide +kernel
theorem dX7_runCommands_6 : decode cX7_runCommands 6 = .ok (.invokevirtual 252, 3) := by decide +kernel
theorem dX7_runCommands_9 : decode cX7_runCommands 9 = .ok (.istore_n 1, 1) := by decide +kernel
theorem dX7_runCommands_10 : decode cX7_runCommands 10 = .ok (.iload_n 1, 1) := by decide +kernel
theorem dX7_runCommands_11 : decode cX7_runCommands 11 = .ok (.iconst (-1), 1) := by decide +kernel
theorem dX7_runCommands_12 : decode cX7_runCommands 12 = .ok (.if_icmp .eq 8, 3) := by decide +kernel
theorem dX7_runCommands_15 : decode cX7_runCommands 15 = .ok (.bipush (-10), 2) := by decide +kernel
theorem dX7_runCommands_17 : decode cX7_runCommands 17 = .ok (.iload_n 1, 1) := by decide +kernel
theorem dX7_runCommands_18 : decode cX7_runCommands 18 = .ok (.isub, 1) := by decide +kernel
theorem dX7_runCommands_19 : decode cX7_runCommands 19 = .ok (.ireturn, 1) := by decide +kernel
theorem dX7_runCommands_20 : decode cX7_runCommands 20 = .ok (.aload_n 0, 1) := by decide +kernel
theorem dX7_runCommands_21 : decode cX7_runCommands 21 = .ok (.invokevirtual 108, 3) := by decide +kernel
theorem dX7_runCommands_24 : decode cX7_runCommands 24 = .ok (.aload_n 0, 1) := by decide +kernel
theorem dX7_runCommands_25 : decode cX7_runCommands 25 = .ok (.iconst 0, 1) := by decide +kernel
theorem dX7_runCommands_26 : decode cX7_runCommands 26 = .ok (.putfield 201, 3) := by decide +kernel
theorem dX7_runCommands_29 : decode cX7_runCommands 29 = .ok (.iconst 0, 1) := by decide +kernel
theorem dX7_runCommands_30 : decode cX7_runCommands 30 = .ok (.istore_n 2, 1) := by decide +kernel
theorem dX7_runCommands_31 : decode cX7_runCommands 31 = .ok (.aload_n 0, 1) := by decide +kernel
theorem dX7_runCommands_32 : decode cX7_runCommands 32 = .ok (.invokevirtual 229, 3) := by decide +kernel
theorem dX7_runCommands_35 : decode cX7_runCommands 35 = .ok (.aload_n 0, 1) := by decide +kernel
theorem dX7_runCommands_36 : decode cX7_runCommands 36 = .ok (.getfield 201, 3) := by decide +kernel
theorem dX7_runCommands_39 : decode cX7_runCommands 39 = .ok (.aload_n 0, 1) := by decide +kernel
theorem dX7_runCommands_40 : decode cX7_runCommands 40 = .ok (.getfield 183, 3) := by decide +kernel
theorem dX7_runCommands_43 : decode cX7_runCommands 43 = .ok (.if_icmp .ge 26, 3) := by decide +kernel
theorem dX7_runCommands_46 : decode cX7_runCommands 46 = .ok (.aload_n 0, 1) := by decide +kernel
theorem dX7_runCommands_47 : decode cX7_runCommands 47 = .ok (.aload_n 0, 1) := by decide +kernel
theorem dX7_runCommands_48 : decode cX7_runCommands 48 = .ok (.invokevirtual 245, 3) := by decide +kernel
theorem dX7_runCommands_51 : decode cX7_runCommands 51 = .ok (.invokevirtual 255, 3) := by decide +kernel
theorem dX7_runCommands_54 : decode cX7_runCommands 54 = .ok (.ifCond .ne 5, 3) := by decide +kernel
theorem dX7_runCommands_57 : decode cX7_runCommands 57 = .ok (.iload_n 2, 1) := by decide +kernel
theorem dX7_runCommands_58 : decode cX7_runCommands 58 = .ok (.ireturn, 1) := by decide +kernel
theorem dX7_runCommands_59 : decode cX7_runCommands 59 = .ok (.iinc 2 1, 3) := by decide +kernel
theorem dX7_runCommands_62 : decode cX7_runCommands 62 = .ok (.aload_n 0, 1) := by decide +kernel
theorem dX7_runCommands_63 : decode cX7_runCommands 63 = .ok (.invokevirtual 229, 3) := by decide +kernel
theorem dX7_runCommands_66 : decode cX7_runCommands 66 = .ok (.goto (-31), 3) := by decide +kernel
theorem dX7_runCommands_69 : decode cX7_runCommands 69 = .ok (.iload_n 2, 1) := by decide +kernel
theorem dX7_runCommands_70 : decode cX7_runCommands 70 = .ok (.ireturn, 1) := by decide +kernel
theorem dX7_undo_0 : decode cX7_undo 0 = .ok (.aload_n 0, 1) := by decide +kernel
theorem dX7_undo_1 : decode cX7_undo 1 = .ok (.aload_n 0, 1) := by decide +kernel
theorem dX7_undo_2 : decode cX7_undo 2 = .ok (.getfield 41, 3) := by decide +kernel
theorem dX7_undo_5 : decode cX7_undo 5 = .ok (.ifCond .ne 7, 3) := by decide +kernel
theorem dX7_undo_8 : decode cX7_undo 8 = .ok (.iconst 1, 1) := by decide +kernel
theorem dX7_undo_9 : decode cX7_undo 9 = .ok (.goto 4, 3) := by decide +kernel
theorem dX7_undo_12 : decode cX7_undo 12 = .ok (.iconst 0, 1) := by decide +kernel
theorem dX7_undo_13 : decode cX7_undo 13 = .ok (.invokevirtual 60, 3) := by decide +kernel
theorem dX7_undo_16 : decode cX7_undo 16 = .ok (.ifCond .eq 5, 3) := by decide +kernel
theorem dX7_undo_19 : decode cX7_undo 19 = .ok (.iconst 0, 1) := by decide +kernel
theorem dX7_undo_20 : decode cX7_undo 20 = .ok (.ireturn, 1) := by decide +kernel
theorem dX7_undo_21 : decode cX7_undo 21 = .ok (.aload_n 0, 1) := by decide +kernel
theorem dX7_undo_22 : decode cX7_undo 22 = .ok (.sipush 171, 3) := by decide +kernel
theorem dX7_undo_25 : decode cX7_undo 25 = .ok (.aload_n 0, 1) := by decide +kernel
theorem dX7_undo_26 : decode cX7_undo 26 = .ok (.getfield 41, 3) := by decide +kernel
theorem dX7_undo_29 : decode cX7_undo 29 = .ok (.imul, 1) := by decide +kernel
theorem dX7_undo_30 : decode cX7_undo 30 = .ok (.iconst 0, 1) := by decide +kernel
theorem dX7_undo_31 : decode cX7_undo 31 = .ok (.invokevirtual 45, 3) := by decide +kernel
theorem dX7_undo_34 : decode cX7_undo 34 = .ok (.aload_n 0, 1) := by decide +kernel
theorem dX7_undo_35 : decode cX7_undo 35 = .ok (.dup, 1) := by decide +kernel
theorem dX7_undo_36 : decode cX7_undo 36 = .ok (.getfield 41, 3) := by decide +kernel
theorem dX7_undo_39 : decode cX7_undo 39 = .ok (.iconst 1, 1) := by decide +kernel
theorem dX7_undo_40 : decode cX7_undo 40 = .ok (.isub, 1) := by decide +kernel
theorem dX7_undo_41 : decode cX7_undo 41 = .ok (.putfield 41, 3) := by decide +kernel
theorem dX7_undo_44 : decode cX7_undo 44 = .ok (.aload_n 0, 1) := by decide +kernel
theorem dX7_undo_45 : decode cX7_undo 45 = .ok (.getfield 41, 3) := by decide +kernel
theorem dX7_undo_48 : decode cX7_undo 48 = .ok (.ireturn, 1) := by decide +kernel
theorem dX7_digest_0 : decode cX7_digest 0 = .ok (.aload_n 0, 1) := by decide +kernel
theorem dX7_digest_1 : decode cX7_digest 1 = .ok (.iconst 0, 1) := by decide +kernel
theorem dX7_digest_2 : decode cX7_digest 2 = .ok (.putfield 57, 3) := by decide +kernel
theorem dX7_digest_5 : decode cX7_digest 5 = .ok (.ldc2_w 258, 3) := by decide +kernel
theorem dX7_digest_8 : decode cX7_digest 8 = .ok (.aload_n 0, 1) := by decide +kernel
theorem dX7_digest_9 : decode cX7_digest 9 = .ok (.getfield 41, 3) := by decide +kernel
theorem dX7_digest_12 : decode cX7_digest 12 = .ok (.i2l, 1) := by decide +kernel
theorem dX7_digest_13 : decode cX7_digest 13 = .ok (.ladd, 1) := by decide +kernel
theorem dX7_digest_14 : decode cX7_digest 14 = .ok (.lstore_n 1, 1) := by decide +kernel
theorem dX7_digest_15 : decode cX7_digest 15 = .ok (.iconst 0, 1) := by decide +kernel
theorem dX7_digest_16 : decode cX7_digest 16 = .ok (.istore_n 3, 1) := by decide +kernel
theorem dX7_digest_17 : decode cX7_digest 17 = .ok (.iload_n 3, 1) := by decide +kernel
theorem dX7_digest_18 : decode cX7_digest 18 = .ok (.bipush 12, 2) := by decide +kernel
theorem dX7_digest_20 : decode cX7_digest 20 = .ok (.if_icmp .ge 22, 3) := by decide +kernel
theorem dX7_digest_23 : decode cX7_digest 23 = .ok (.ldc2_w 260, 3) := by decide +kernel
theorem dX7_digest_26 : decode cX7_digest 26 = .ok (.lload_n 1, 1) := by decide +kernel
theorem dX7_digest_27 : decode cX7_digest 27 = .ok (.lmul, 1) := by decide +kernel
theorem dX7_digest_28 : decode cX7_digest 28 = .ok (.aload_n 0, 1) := by decide +kernel
theorem dX7_digest_29 : decode cX7_digest 29 = .ok (.iload_n 3, 1) := by decide +kernel
theorem dX7_digest_30 : decode cX7_digest 30 = .ok (.invokevirtual 262, 3) := by decide +kernel
theorem dX7_digest_33 : decode cX7_digest 33 = .ok (.i2l, 1) := by decide +kernel
theorem dX7_digest_34 : decode cX7_digest 34 = .ok (.ladd, 1) := by decide +kernel
theorem dX7_digest_35 : decode cX7_digest 35 = .ok (.lstore_n 1, 1) := by decide +kernel
theorem dX7_digest_36 : decode cX7_digest 36 = .ok (.iinc 3 1, 3) := by decide +kernel
theorem dX7_digest_39 : decode cX7_digest 39 = .ok (.goto (-22), 3) := by decide +kernel
theorem dX7_digest_42 : decode cX7_digest 42 = .ok (.iconst 0, 1) := by decide +kernel
theorem dX7_digest_43 : decode cX7_digest 43 = .ok (.istore_n 3, 1) := by decide +kernel
theorem dX7_digest_44 : decode cX7_digest 44 = .ok (.iload_n 3, 1) := by decide +kernel
theorem dX7_digest_45 : decode cX7_digest 45 = .ok (.aload_n 0, 1) := by decide +kernel
theorem dX7_digest_46 : decode cX7_digest 46 = .ok (.getfield 7, 3) := by decide +kernel
theorem dX7_digest_49 : decode cX7_digest 49 = .ok (.iconst 0, 1) := by decide +kernel
theorem dX7_digest_50 : decode cX7_digest 50 = .ok (.iaload, 1) := by decide +kernel
theorem dX7_digest_51 : decode cX7_digest 51 = .ok (.if_icmp .ge 105, 3) := by decide +kernel
theorem dX7_digest_54 : decode cX7_digest 54 = .ok (.aload_n 0, 1) := by decide +kernel
theorem dX7_digest_55 : decode cX7_digest 55 = .ok (.iload_n 3, 1) := by decide +kernel
theorem dX7_digest_56 : decode cX7_digest 56 = .ok (.iconst 0, 1) := by decide +kernel
theorem dX7_digest_57 : decode cX7_digest 57 = .ok (.invokevirtual 49, 3) := by decide +kernel
theorem dX7_digest_60 : decode cX7_digest 60 = .ok (.istore 4, 2) := by decide +kernel
theorem dX7_digest_62 : decode cX7_digest 62 = .ok (.ldc2_w 260, 3) := by decide +kernel
theorem dX7_digest_65 : decode cX7_digest 65 = .ok (.lload_n 1, 1) := by decide +kernel
theorem dX7_digest_66 : decode cX7_digest 66 = .ok (.lmul, 1) := by decide +kernel
theorem dX7_digest_67 : decode cX7_digest 67 = .ok (.iload 4, 2) := by decide +kernel
theorem dX7_digest_69 : decode cX7_digest 69 = .ok (.i2l, 1) := by decide +kernel
theorem dX7_digest_70 : decode cX7_digest 70 = .ok (.ladd, 1) := by decide +kernel
theorem dX7_digest_71 : decode cX7_digest 71 = .ok (.lstore_n 1, 1) := by decide +kernel
theorem dX7_digest_72 : decode cX7_digest 72 = .ok (.iconst 0, 1) := by decide +kernel
theorem dX7_digest_73 : decode cX7_digest 73 = .ok (.istore 5, 2) := by decide +kernel
theorem dX7_digest_75 : decode cX7_digest 75 = .ok (.iload 5, 2) := by decide +kernel
theorem dX7_digest_77 : decode cX7_digest 77 = .ok (.bipush 13, 2) := by decide +kernel
theorem dX7_digest_79 : decode cX7_digest 79 = .ok (.if_icmp .ge 24, 3) := by decide +kernel
theorem dX7_digest_82 : decode cX7_digest 82 = .ok (.ldc2_w 260, 3) := by decide +kernel
theorem dX7_digest_85 : decode cX7_digest 85 = .ok (.lload_n 1, 1) := by decide +kernel
theorem dX7_digest_86 : decode cX7_digest 86 = .ok (.lmul, 1) := by decide +kernel
theorem dX7_digest_87 : decode cX7_digest 87 = .ok (.aload_n 0, 1) := by decide +kernel
theorem dX7_digest_88 : decode cX7_digest 88 = .ok (.iload_n 3, 1) := by decide +kernel
theorem dX7_digest_89 : decode cX7_digest 89 = .ok (.iload 5, 2) := by decide +kernel
theorem dX7_digest_91 : decode cX7_digest 91 = .ok (.invokevirtual 165, 3) := by decide +kernel
theorem dX7_digest_94 : decode cX7_digest 94 = .ok (.i2l, 1) := by decide +kernel
theorem dX7_digest_95 : decode cX7_digest 95 = .ok (.ladd, 1) := by decide +kernel
theorem dX7_digest_96 : decode cX7_digest 96 = .ok (.lstore_n 1, 1) := by decide +kernel
theorem dX7_digest_97 : decode cX7_digest 97 = .ok (.iinc 5 1, 3) := by decide +kernel
theorem dX7_digest_100 : decode cX7_digest 100 = .ok (.goto (-25), 3) := by decide +kernel
theorem dX7_digest_103 : decode cX7_digest 103 = .ok (.iconst 0, 1) := by decide +kernel
theorem dX7_digest_104 : decode cX7_digest 104 = .ok (.istore 5, 2) := by decide +kernel
theorem dX7_digest_106 : decode cX7_digest 106 = .ok (.iload 5, 2) := by decide +kernel
theorem dX7_digest_108 : decode cX7_digest 108 = .ok (.bipush 16, 2) := by decide +kernel
theorem dX7_digest_110 : decode cX7_digest 110 = .ok (.if_icmp .ge 40, 3) := by decide +kernel
theorem dX7_digest_113 : decode cX7_digest 113 = .ok (.aload_n 0, 1) := by decide +kernel
theorem dX7_digest_114 : decode cX7_digest 114 = .ok (.iload_n 3, 1) := by decide +kernel
theorem dX7_digest_115 : decode cX7_digest 115 = .ok (.iconst 1, 1) := by decide +kernel
theorem dX7_digest_116 : decode cX7_digest 116 = .ok (.invokevirtual 49, 3) := by decide +kernel
theorem dX7_digest_119 : decode cX7_digest 119 = .ok (.ifCond .ne 31, 3) := by decide +kernel
theorem dX7_digest_122 : decode cX7_digest 122 = .ok (.ldc2_w 260, 3) := by decide +kernel
theorem dX7_digest_125 : decode cX7_digest 125 = .ok (.lload_n 1, 1) := by decide +kernel
theorem dX7_digest_126 : decode cX7_digest 126 = .ok (.lmul, 1) := by decide +kernel
theorem dX7_digest_127 : decode cX7_digest 127 = .ok (.aload_n 0, 1) := by decide +kernel
theorem dX7_digest_128 : decode cX7_digest 128 = .ok (.iload 4, 2) := by decide +kernel
theorem dX7_digest_130 : decode cX7_digest 130 = .ok (.iload 5, 2) := by decide +kernel
theorem dX7_digest_132 : decode cX7_digest 132 = .ok (.iconst 4, 1) := by decide +kernel
theorem dX7_digest_133 : decode cX7_digest 133 = .ok (.idiv, 1) := by decide +kernel
theorem dX7_digest_134 : decode cX7_digest 134 = .ok (.iload 5, 2) := by decide +kernel
theorem dX7_digest_136 : decode cX7_digest 136 = .ok (.iconst 4, 1) := by decide +kernel
theorem dX7_digest_137 : decode cX7_digest 137 = .ok (.irem, 1) := by decide +kernel
theorem dX7_digest_138 : decode cX7_digest 138 = .ok (.invokevirtual 174, 3) := by decide +kernel
theorem dX7_digest_141 : decode cX7_digest 141 = .ok (.i2l, 1) := by decide +kernel
theorem dX7_digest_142 : decode cX7_digest 142 = .ok (.ladd, 1) := by decide +kernel
theorem dX7_digest_143 : decode cX7_digest 143 = .ok (.lstore_n 1, 1) := by decide +kernel
theorem dX7_digest_144 : decode cX7_digest 144 = .ok (.iinc 5 1, 3) := by decide +kernel
theorem dX7_digest_147 : decode cX7_digest 147 = .ok (.goto (-41), 3) := by decide +kernel
theorem dX7_digest_150 : decode cX7_digest 150 = .ok (.iinc 3 1, 3) := by decide +kernel
theorem dX7_digest_153 : decode cX7_digest 153 = .ok (.goto (-109), 3) := by decide +kernel
theorem dX7_digest_156 : decode cX7_digest 156 = .ok (.aload_n 0, 1) := by decide +kernel
theorem dX7_digest_157 : decode cX7_digest 157 = .ok (.invokevirtual 177, 3) := by decide +kernel
theorem dX7_digest_160 : decode cX7_digest 160 = .ok (.istore_n 3, 1) := by decide +kernel
theorem dX7_digest_161 : decode cX7_digest 161 = .ok (.iconst 0, 1) := by decide +kernel
theorem dX7_digest_162 : decode cX7_digest 162 = .ok (.istore 4, 2) := by decide +kernel
theorem dX7_digest_164 : decode cX7_digest 164 = .ok (.iload 4, 2) := by decide +kernel
theorem dX7_digest_166 : decode cX7_digest 166 = .ok (.iload_n 3, 1) := by decide +kernel
theorem dX7_digest_167 : decode cX7_digest 167 = .ok (.if_icmp .ge 29, 3) := by decide +kernel
theorem dX7_digest_170 : decode cX7_digest 170 = .ok (.ldc2_w 260, 3) := by decide +kernel
theorem dX7_digest_173 : decode cX7_digest 173 = .ok (.lload_n 1, 1) := by decide +kernel
theorem dX7_digest_174 : decode cX7_digest 174 = .ok (.lmul, 1) := by decide +kernel
theorem dX7_digest_175 : decode cX7_digest 175 = .ok (.aload_n 0, 1) := by decide +kernel
theorem dX7_digest_176 : decode cX7_digest 176 = .ok (.aload_n 0, 1) := by decide +kernel
theorem dX7_digest_177 : decode cX7_digest 177 = .ok (.getfield 38, 3) := by decide +kernel
theorem dX7_digest_180 : decode cX7_digest 180 = .ok (.iload 4, 2) := by decide +kernel
theorem dX7_digest_182 : decode cX7_digest 182 = .ok (.iaload, 1) := by decide +kernel
theorem dX7_digest_183 : decode cX7_digest 183 = .ok (.iconst 0, 1) := by decide +kernel
theorem dX7_digest_184 : decode cX7_digest 184 = .ok (.invokevirtual 49, 3) := by decide +kernel
theorem dX7_digest_187 : decode cX7_digest 187 = .ok (.i2l, 1) := by decide +kernel
theorem dX7_digest_188 : decode cX7_digest 188 = .ok (.ladd, 1) := by decide +kernel
theorem dX7_digest_189 : decode cX7_digest 189 = .ok (.lstore_n 1, 1) := by decide +kernel
theorem dX7_digest_190 : decode cX7_digest 190 = .ok (.iinc 4 1, 3) := by decide +kernel
theorem dX7_digest_193 : decode cX7_digest 193 = .ok (.goto (-29), 3) := by decide +kernel
theorem dX7_digest_196 : decode cX7_digest 196 = .ok (.ldc2_w 260, 3) := by decide +kernel
theorem dX7_digest_199 : decode cX7_digest 199 = .ok (.lload_n 1, 1) := by decide +kernel
theorem dX7_digest_200 : decode cX7_digest 200 = .ok (.lmul, 1) := by decide +kernel
theorem dX7_digest_201 : decode cX7_digest 201 = .ok (.aload_n 0, 1) := by decide +kernel
theorem dX7_digest_202 : decode cX7_digest 202 = .ok (.invokevirtual 198, 3) := by decide +kernel
theorem dX7_digest_205 : decode cX7_digest 205 = .ok (.i2l, 1) := by decide +kernel
theorem dX7_digest_206 : decode cX7_digest 206 = .ok (.ladd, 1) := by decide +kernel
theorem dX7_digest_207 : decode cX7_digest 207 = .ok (.lreturn, 1) := by decide +kernel
